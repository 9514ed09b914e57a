theorem dX12_join_169 : decode cX12_join 169 = .ok (.iload_n 3, 1) := by decide +kernel
theorem dX12_join_170 : decode cX12_join 170 = .ok (.invokestatic 328, 3) := by decide +kernel
theorem dX12_join_173 : decode cX12_join 173 = .ok (.iload 4, 2) := by decide +kernel
theorem dX12_join_175 : decode cX12_join 175 = .ok (.iload 5, 2) := by decide +kernel
theorem dX12_join_177 : decode cX12_join 177 = .ok (.invokestatic 328, 3) := by decide +kernel
theorem dX12_join_180 : decode cX12_join 180 = .ok (.invokestatic 338, 3) := by decide +kernel
theorem dX12_join_183 : decode cX12_join 183 = .ok (.invokevirtual 324, 3) := by decide +kernel
theorem dX12_join_186 : decode cX12_join 186 = .ok (.goto 15, 3) := by decide +kernel
theorem dX12_join_189 : decode cX12_join 189 = .ok (.aload_n 0, 1) := by decide +kernel
theorem dX12_join_190 : decode cX12_join 190 = .ok (.iconst 0, 1) := by decide +kernel
theorem dX12_join_191 : decode cX12_join 191 = .ok (.iload_n 1, 1) := by decide +kernel
theorem dX12_join_192 : decode cX12_join 192 = .ok (.iload_n 3, 1) := by decide +kernel
theorem dX12_join_193 : decode cX12_join 193 = .ok (.iload 5, 2) := by decide +kernel
theorem dX12_join_195 : decode cX12_join 195 = .ok (.invokestatic 342, 3) := by decide +kernel
theorem dX12_join_198 : decode cX12_join 198 = .ok (.invokevirtual 324, 3) := by decide +kernel
theorem dX12_join_201 : decode cX12_join 201 = .ok (.return_, 1) := by decide +kernel
theorem dX12_turn_0 : decode cX12_turn 0 = .ok (.iload_n 1, 1) := by decide +kernel
theorem dX12_turn_1 : decode cX12_turn 1 = .ok (.ifCond .ne 16, 3) := by decide +kernel
theorem dX12_turn_4 : decode cX12_turn 4 = .ok (.aload_n 0, 1) := by decide +kernel
theorem dX12_turn_5 : decode cX12_turn 5 = .ok (.iconst 0, 1) := by decide +kernel
theorem dX12_turn_6 : decode cX12_turn 6 = .ok (.iload_n 2, 1) := by decide +kernel
theorem dX12_turn_7 : decode cX12_turn 7 = .ok (.iload_n 3, 1) := by decide +kernel
theorem dX12_turn_8 : decode cX12_turn 8 = .ok (.invokestatic 320, 3) := by decide +kernel
theorem dX12_turn_11 : decode cX12_turn 11 = .ok (.invokevirtual 324, 3) := by decide +kernel
theorem dX12_turn_14 : decode cX12_turn 14 = .ok (.goto 22, 3) := by decide +kernel
theorem dX12_turn_17 : decode cX12_turn 17 = .ok (.aload_n 0, 1) := by decide +kernel
theorem dX12_turn_18 : decode cX12_turn 18 = .ok (.iload_n 1, 1) := by decide +kernel
theorem dX12_turn_19 : decode cX12_turn 19 = .ok (.iconst 1, 1) := by decide +kernel
theorem dX12_turn_20 : decode cX12_turn 20 = .ok (.if_icmp .ne 7, 3) := by decide +kernel
theorem dX12_turn_23 : decode cX12_turn 23 = .ok (.iconst 1, 1) := by decide +kernel
theorem dX12_turn_24 : decode cX12_turn 24 = .ok (.goto 4, 3) := by decide +kernel
theorem dX12_turn_27 : decode cX12_turn 27 = .ok (.iconst 0, 1) := by decide +kernel
theorem dX12_turn_28 : decode cX12_turn 28 = .ok (.iload_n 2, 1) := by decide +kernel
theorem dX12_turn_29 : decode cX12_turn 29 = .ok (.iload_n 3, 1) := by decide +kernel
theorem dX12_turn_30 : decode cX12_turn 30 = .ok (.invokestatic 328, 3) := by decide +kernel
theorem dX12_turn_33 : decode cX12_turn 33 = .ok (.invokevirtual 324, 3) := by decide +kernel
theorem dX12_turn_36 : decode cX12_turn 36 = .ok (.return_, 1) := by decide +kernel
theorem dX12_isSign_0 : decode cX12_isSign 0 = .ok (.iload_n 0, 1) := by decide +kernel
theorem dX12_isSign_1 : decode cX12_isSign 1 = .ok (.bipush 43, 2) := by decide +kernel
theorem dX12_isSign_3 : decode cX12_isSign 3 = .ok (.if_icmp .eq 39, 3) := by decide +kernel
theorem dX12_isSign_6 : decode cX12_isSign 6 = .ok (.iload_n 0, 1) := by decide +kernel
theorem dX12_isSign_7 : decode cX12_isSign 7 = .ok (.bipush 45, 2) := by decide +kernel
theorem dX12_isSign_9 : decode cX12_isSign 9 = .ok (.if_icmp .eq 33, 3) := by decide +kernel
theorem dX12_isSign_12 : decode cX12_isSign 12 = .ok (.iload_n 0, 1) := by decide +kernel
theorem dX12_isSign_13 : decode cX12_isSign 13 = .ok (.bipush 42, 2) := by decide +kernel
theorem dX12_isSign_15 : decode cX12_isSign 15 = .ok (.if_icmp .eq 27, 3) := by decide +kernel
theorem dX12_isSign_18 : decode cX12_isSign 18 = .ok (.iload_n 0, 1) := by decide +kernel
theorem dX12_isSign_19 : decode cX12_isSign 19 = .ok (.bipush 47, 2) := by decide +kernel
theorem dX12_isSign_21 : decode cX12_isSign 21 = .ok (.if_icmp .eq 21, 3) := by decide +kernel
theorem dX12_isSign_24 : decode cX12_isSign 24 = .ok (.iload_n 0, 1) := by decide +kernel
theorem dX12_isSign_25 : decode cX12_isSign 25 = .ok (.bipush 37, 2) := by decide +kernel
theorem dX12_isSign_27 : decode cX12_isSign 27 = .ok (.if_icmp .eq 15, 3) := by decide +kernel
theorem dX12_isSign_30 : decode cX12_isSign 30 = .ok (.iload_n 0, 1) := by decide +kernel
theorem dX12_isSign_31 : decode cX12_isSign 31 = .ok (.bipush 60, 2) := by decide +kernel
theorem dX12_isSign_33 : decode cX12_isSign 33 = .ok (.if_icmp .eq 9, 3) := by decide +kernel
theorem dX12_isSign_36 : decode cX12_isSign 36 = .ok (.iload_n 0, 1) := by decide +kernel
theorem dX12_isSign_37 : decode cX12_isSign 37 = .ok (.bipush 61, 2) := by decide +kernel
theorem dX12_isSign_39 : decode cX12_isSign 39 = .ok (.if_icmp .ne 7, 3) := by decide +kernel
theorem dX12_isSign_42 : decode cX12_isSign 42 = .ok (.iconst 1, 1) := by decide +kernel
theorem dX12_isSign_43 : decode cX12_isSign 43 = .ok (.goto 4, 3) := by decide +kernel
theorem dX12_isSign_46 : decode cX12_isSign 46 = .ok (.iconst 0, 1) := by decide +kernel
theorem dX12_isSign_47 : decode cX12_isSign 47 = .ok (.ireturn, 1) := by decide +kernel
theorem dX12_op_0 : decode cX12_op 0 = .ok (.iload_n 2, 1) := by decide +kernel
theorem dX12_op_1 : decode cX12_op 1 = .ok (.invokestatic 345, 3) := by decide +kernel
theorem dX12_op_4 : decode cX12_op 4 = .ok (.ifCond .ne 5, 3) := by decide +kernel
theorem dX12_op_7 : decode cX12_op 7 = .ok (.iconst 0, 1) := by decide +kernel
theorem dX12_op_8 : decode cX12_op 8 = .ok (.ireturn, 1) := by decide +kernel
theorem dX12_op_9 : decode cX12_op 9 = .ok (.aload_n 0, 1) := by decide +kernel
theorem dX12_op_10 : decode cX12_op 10 = .ok (.iload_n 2, 1) := by decide +kernel
theorem dX12_op_11 : decode cX12_op 11 = .ok (.iconst 1, 1) := by decide +kernel
theorem dX12_op_12 : decode cX12_op 12 = .ok (.iload_n 1, 1) := by decide +kernel
theorem dX12_op_13 : decode cX12_op 13 = .ok (.iconst 1, 1) := by decide +kernel
theorem dX12_op_14 : decode cX12_op 14 = .ok (.iload_n 3, 1) := by decide +kernel
theorem dX12_op_15 : decode cX12_op 15 = .ok (.invokevirtual 348, 3) := by decide +kernel
theorem dX12_op_18 : decode cX12_op 18 = .ok (.aload_n 0, 1) := by decide +kernel
theorem dX12_op_19 : decode cX12_op 19 = .ok (.getfield 308, 3) := by decide +kernel
theorem dX12_op_22 : decode cX12_op 22 = .ok (.ireturn, 1) := by decide +kernel
theorem dX12_isTrue_0 : decode cX12_isTrue 0 = .ok (.iload_n 0, 1) := by decide +kernel
theorem dX12_isTrue_1 : decode cX12_isTrue 1 = .ok (.iconst 1, 1) := by decide +kernel
theorem dX12_isTrue_2 : decode cX12_isTrue 2 = .ok (.if_icmp .ne 19, 3) := by decide +kernel
theorem dX12_isTrue_5 : decode cX12_isTrue 5 = .ok (.iload_n 1, 1) := by decide +kernel
theorem dX12_isTrue_6 : decode cX12_isTrue 6 = .ok (.ldc_w 311, 3) := by decide +kernel
theorem dX12_isTrue_9 : decode cX12_isTrue 9 = .ok (.iand, 1) := by decide +kernel
theorem dX12_isTrue_10 : decode cX12_isTrue 10 = .ok (.ifCond .eq 7, 3) := by decide +kernel
theorem dX12_isTrue_13 : decode cX12_isTrue 13 = .ok (.iconst 1, 1) := by decide +kernel
theorem dX12_isTrue_14 : decode cX12_isTrue 14 = .ok (.goto 16, 3) := by decide +kernel
theorem dX12_isTrue_17 : decode cX12_isTrue 17 = .ok (.iconst 0, 1) := by decide +kernel
theorem dX12_isTrue_18 : decode cX12_isTrue 18 = .ok (.goto 12, 3) := by decide +kernel
theorem dX12_isTrue_21 : decode cX12_isTrue 21 = .ok (.iload_n 1, 1) := by decide +kernel
theorem dX12_isTrue_22 : decode cX12_isTrue 22 = .ok (.ifCond .eq 7, 3) := by decide +kernel
theorem dX12_isTrue_25 : decode cX12_isTrue 25 = .ok (.iconst 1, 1) := by decide +kernel
theorem dX12_isTrue_26 : decode cX12_isTrue 26 = .ok (.goto 4, 3) := by decide +kernel
theorem dX12_isTrue_29 : decode cX12_isTrue 29 = .ok (.iconst 0, 1) := by decide +kernel
theorem dX12_isTrue_30 : decode cX12_isTrue 30 = .ok (.ireturn, 1) := by decide +kernel
theorem dX12_four_0 : decode cX12_four 0 = .ok (.bipush 24, 2) := by decide +kernel
theorem dX12_four_2 : decode cX12_four 2 = .ok (.istore_n 2, 1) := by decide +kernel
theorem dX12_four_3 : decode cX12_four 3 = .ok (.iload_n 2, 1) := by decide +kernel
theorem dX12_four_4 : decode cX12_four 4 = .ok (.ifCond .lt 32, 3) := by decide +kernel
theorem dX12_four_7 : decode cX12_four 7 = .ok (.aload_n 0, 1) := by decide +kernel
theorem dX12_four_8 : decode cX12_four 8 = .ok (.getfield 7, 3) := by decide +kernel
theorem dX12_four_11 : decode cX12_four 11 = .ok (.aload_n 0, 1) := by decide +kernel
theorem dX12_four_12 : decode cX12_four 12 = .ok (.getfield 352, 3) := by decide +kernel
theorem dX12_four_15 : decode cX12_four 15 = .ok (.iload_n 1, 1) := by decide +kernel
theorem dX12_four_16 : decode cX12_four 16 = .ok (.iload_n 2, 1) := by decide +kernel
theorem dX12_four_17 : decode cX12_four 17 = .ok (.ishr, 1) := by decide +kernel
theorem dX12_four_18 : decode cX12_four 18 = .ok (.i2b, 1) := by decide +kernel
theorem dX12_four_19 : decode cX12_four 19 = .ok (.bastore, 1) := by decide +kernel
theorem dX12_four_20 : decode cX12_four 20 = .ok (.aload_n 0, 1) := by decide +kernel
theorem dX12_four_21 : decode cX12_four 21 = .ok (.dup, 1) := by decide +kernel
theorem dX12_four_22 : decode cX12_four 22 = .ok (.getfield 352, 3) := by decide +kernel
theorem dX12_four_25 : decode cX12_four 25 = .ok (.iconst 1, 1) := by decide +kernel
theorem dX12_four_26 : decode cX12_four 26 = .ok (.iadd, 1) := by decide +kernel
theorem dX12_four_27 : decode cX12_four 27 = .ok (.putfield 352, 3) := by decide +kernel
theorem dX12_four_30 : decode cX12_four 30 = .ok (.iinc 2 (-8), 3) := by decide +kernel
theorem dX12_four_33 : decode cX12_four 33 = .ok (.goto (-30), 3) := by decide +kernel
theorem dX12_four_36 : decode cX12_four 36 = .ok (.return_, 1) := by decide +kernel
theorem dX12_feed_0 : decode cX12_feed 0 = .ok (.aload_n 0, 1) := by decide +kernel
theorem dX12_feed_1 : decode cX12_feed 1 = .ok (.getfield 352, 3) := by decide +kernel
theorem dX12_feed_4 : decode cX12_feed 4 = .ok (.bipush 20, 2) := by decide +kernel
theorem dX12_feed_6 : decode cX12_feed 6 = .ok (.iadd, 1) := by decide +kernel
theorem dX12_feed_7 : decode cX12_feed 7 = .ok (.sipush 800, 3) := by decide +kernel
theorem dX12_feed_10 : decode cX12_feed 10 = .ok (.if_icmp .le 5, 3) := by decide +kernel
theorem dX12_feed_13 : decode cX12_feed 13 = .ok (.iconst (-1), 1) := by decide +kernel
theorem dX12_feed_14 : decode cX12_feed 14 = .ok (.ireturn, 1) := by decide +kernel
theorem dX12_feed_15 : decode cX12_feed 15 = .ok (.aload_n 0, 1) := by decide +kernel
theorem dX12_feed_16 : decode cX12_feed 16 = .ok (.iload_n 1, 1) := by decide +kernel
theorem dX12_feed_17 : decode cX12_feed 17 = .ok (.invokevirtual 355, 3) := by decide +kernel
theorem dX12_feed_20 : decode cX12_feed 20 = .ok (.aload_n 0, 1) := by decide +kernel
theorem dX12_feed_21 : decode cX12_feed 21 = .ok (.iload_n 2, 1) := by decide +kernel
theorem dX12_feed_22 : decode cX12_feed 22 = .ok (.invokevirtual 355, 3) := by decide +kernel
theorem dX12_feed_25 : decode cX12_feed 25 = .ok (.aload_n 0, 1) := by decide +kernel
theorem dX12_feed_26 : decode cX12_feed 26 = .ok (.iload_n 3, 1) := by decide +kernel
theorem dX12_feed_27 : decode cX12_feed 27 = .ok (.invokevirtual 355, 3) := by decide +kernel
theorem dX12_feed_30 : decode cX12_feed 30 = .ok (.aload_n 0, 1) := by decide +kernel
theorem dX12_feed_31 : decode cX12_feed 31 = .ok (.iload 4, 2) := by decide +kernel
theorem dX12_feed_33 : decode cX12_feed 33 = .ok (.invokevirtual 355, 3) := by decide +kernel
theorem dX12_feed_36 : decode cX12_feed 36 = .ok (.aload_n 0, 1) := by decide +kernel
theorem dX12_feed_37 : decode cX12_feed 37 = .ok (.iload 5, 2) := by decide +kernel
theorem dX12_feed_39 : decode cX12_feed 39 = .ok (.invokevirtual 355, 3) := by decide +kernel
theorem dX12_feed_42 : decode cX12_feed 42 = .ok (.aload_n 0, 1) := by decide +kernel
theorem dX12_feed_43 : decode cX12_feed 43 = .ok (.getfield 352, 3) := by decide +kernel
theorem dX12_feed_46 : decode cX12_feed 46 = .ok (.ireturn, 1) := by decide +kernel
theorem dX12_end_0 : decode cX12_end 0 = .ok (.iload_n 1, 1) := by decide +kernel
theorem dX12_end_1 : decode cX12_end 1 = .ok (.iconst 0, 1) := by decide +kernel
theorem dX12_end_2 : decode cX12_end 2 = .ok (.aload_n 0, 1) := by decide +kernel
theorem dX12_end_3 : decode cX12_end 3 = .ok (.getfield 352, 3) := by decide +kernel
theorem dX12_end_6 : decode cX12_end 6 = .ok (.invokestatic 359, 3) := by decide +kernel
theorem dX12_end_9 : decode cX12_end 9 = .ok (.ifCond .ne 5, 3) := by decide +kernel
theorem dX12_end_12 : decode cX12_end 12 = .ok (.iconst (-1), 1) := by decide +kernel
theorem dX12_end_13 : decode cX12_end 13 = .ok (.ireturn, 1) := by decide +kernel
theorem dX12_end_14 : decode cX12_end 14 = .ok (.aload_n 0, 1) := by decide +kernel
theorem dX12_end_15 : decode cX12_end 15 = .ok (.iload_n 1, 1) := by decide +kernel
theorem dX12_end_16 : decode cX12_end 16 = .ok (.putfield 352, 3) := by decide +kernel
theorem dX12_end_19 : decode cX12_end 19 = .ok (.iload_n 1, 1) := by decide +kernel
theorem dX12_end_20 : decode cX12_end 20 = .ok (.ireturn, 1) := by decide +kernel
theorem dX12_here_0 : decode cX12_here 0 = .ok (.aload_n 0, 1) := by decide +kernel
theorem dX12_here_1 : decode cX12_here 1 = .ok (.getfield 362, 3) := by decide +kernel
theorem dX12_here_4 : decode cX12_here 4 = .ok (.aload_n 0, 1) := by decide +kernel
theorem dX12_here_5 : decode cX12_here 5 = .ok (.getfield 352, 3) := by decide +kernel
theorem dX12_here_8 : decode cX12_here 8 = .ok (.if_icmp .ge 19, 3) := by decide +kernel
theorem dX12_here_11 : decode cX12_here 11 = .ok (.aload_n 0, 1) := by decide +kernel
theorem dX12_here_12 : decode cX12_here 12 = .ok (.getfield 7, 3) := by decide +kernel
theorem dX12_here_15 : decode cX12_here 15 = .ok (.aload_n 0, 1) := by decide +kernel
theorem dX12_here_16 : decode cX12_here 16 = .ok (.getfield 362, 3) := by decide +kernel
theorem dX12_here_19 : decode cX12_here 19 = .ok (.baload, 1) := by decide +kernel
theorem dX12_here_20 : decode cX12_here 20 = .ok (.sipush 255, 3) := by decide +kernel
theorem dX12_here_23 : decode cX12_here 23 = .ok (.iand, 1) := by decide +kernel
theorem dX12_here_24 : decode cX12_here 24 = .ok (.goto 4, 3) := by decide +kernel
theorem dX12_here_27 : decode cX12_here 27 = .ok (.iconst (-1), 1) := by decide +kernel
theorem dX12_here_28 : decode cX12_here 28 = .ok (.ireturn, 1) := by decide +kernel
theorem dX12_isFigure_0 : decode cX12_isFigure 0 = .ok (.iload_n 0, 1) := by decide +kernel
theorem dX12_isFigure_1 : decode cX12_isFigure 1 = .ok (.bipush 48, 2) := by decide +kernel
theorem dX12_isFigure_3 : decode cX12_isFigure 3 = .ok (.if_icmp .lt 13, 3) := by decide +kernel
theorem dX12_isFigure_6 : decode cX12_isFigure 6 = .ok (.iload_n 0, 1) := by decide +kernel
theorem dX12_isFigure_7 : decode cX12_isFigure 7 = .ok (.bipush 57, 2) := by decide +kernel
theorem dX12_isFigure_9 : decode cX12_isFigure 9 = .ok (.if_icmp .gt 7, 3) := by decide +kernel
theorem dX12_isFigure_12 : decode cX12_isFigure 12 = .ok (.iconst 1, 1) := by decide +kernel
theorem dX12_isFigure_13 : decode cX12_isFigure 13 = .ok (.goto 4, 3) := by decide +kernel
theorem dX12_isFigure_16 : decode cX12_isFigure 16 = .ok (.iconst 0, 1) := by decide +kernel
theorem dX12_isFigure_17 : decode cX12_isFigure 17 = .ok (.ireturn, 1) := by decide +kernel
theorem dX12_isVarLetter_0 : decode cX12_isVarLetter 0 = .ok (.iload_n 0, 1) := by decide +kernel
theorem dX12_isVarLetter_1 : decode cX12_isVarLetter 1 = .ok (.bipush 109, 2) := by decide +kernel
theorem dX12_isVarLetter_3 : decode cX12_isVarLetter 3 = .ok (.if_icmp .lt 13, 3) := by decide +kernel
theorem dX12_isVarLetter_6 : decode cX12_isVarLetter 6 = .ok (.iload_n 0, 1) := by decide +kernel
theorem dX12_isVarLetter_7 : decode cX12_isVarLetter 7 = .ok (.bipush 122, 2) := by decide +kernel
theorem dX12_isVarLetter_9 : decode cX12_isVarLetter 9 = .ok (.if_icmp .gt 7, 3) := by decide +kernel
theorem dX12_isVarLetter_12 : decode cX12_isVarLetter 12 = .ok (.iconst 1, 1) := by decide +kernel
theorem dX12_isVarLetter_13 : decode cX12_isVarLetter 13 = .ok (.goto 4, 3) := by decide +kernel
theorem dX12_isVarLetter_16 : decode cX12_isVarLetter 16 = .ok (.iconst 0, 1) := by decide +kernel
theorem dX12_isVarLetter_17 : decode cX12_isVarLetter 17 = .ok (.ireturn, 1) := by decide +kernel
theorem dX12_isFunctionLetter_0 : decode cX12_isFunctionLetter 0 = .ok (.iload_n 0, 1) := by decide +kernel
theorem dX12_isFunctionLetter_1 : decode cX12_isFunctionLetter 1 = .ok (.bipush 97, 2) := by decide +kernel
theorem dX12_isFunctionLetter_3 : decode cX12_isFunctionLetter 3 = .ok (.if_icmp .lt 13, 3) := by decide +kernel
theorem dX12_isFunctionLetter_6 : decode cX12_isFunctionLetter 6 = .ok (.iload_n 0, 1) := by decide +kernel
theorem dX12_isFunctionLetter_7 : decode cX12_isFunctionLetter 7 = .ok (.bipush 108, 2) := by decide +kernel
theorem dX12_isFunctionLetter_9 : decode cX12_isFunctionLetter 9 = .ok (.if_icmp .gt 7, 3) := by decide +kernel
theorem dX12_isFunctionLetter_12 : decode cX12_isFunctionLetter 12 = .ok (.iconst 1, 1) := by decide +kernel
theorem dX12_isFunctionLetter_13 : decode cX12_isFunctionLetter 13 = .ok (.goto 4, 3) := by decide +kernel
theorem dX12_isFunctionLetter_16 : decode cX12_isFunctionLetter 16 = .ok (.iconst 0, 1) := by decide +kernel
theorem dX12_isFunctionLetter_17 : decode cX12_isFunctionLetter 17 = .ok (.ireturn, 1) := by decide +kernel
theorem dX12_fails_0 : decode cX12_fails 0 = .ok (.aload_n 0, 1) := by decide +kernel
theorem dX12_fails_1 : decode cX12_fails 1 = .ok (.iload_n 1, 1) := by decide +kernel
theorem dX12_fails_2 : decode cX12_fails 2 = .ok (.putfield 13, 3) := by decide +kernel
theorem dX12_fails_5 : decode cX12_fails 5 = .ok (.iconst 0, 1) := by decide +kernel
theorem dX12_fails_6 : decode cX12_fails 6 = .ok (.ireturn, 1) := by decide +kernel
theorem dX12_takes_0 : decode cX12_takes 0 = .ok (.aload_n 0, 1) := by decide +kernel
theorem dX12_takes_1 : decode cX12_takes 1 = .ok (.invokevirtual 365, 3) := by decide +kernel
theorem dX12_takes_4 : decode cX12_takes 4 = .ok (.iload_n 1, 1) := by decide +kernel
theorem dX12_takes_5 : decode cX12_takes 5 = .ok (.if_icmp .eq 12, 3) := by decide +kernel
theorem dX12_takes_8 : decode cX12_takes 8 = .ok (.aload_n 0, 1) := by decide +kernel
theorem dX12_takes_9 : decode cX12_takes 9 = .ok (.aload_n 0, 1) := by decide +kernel
theorem dX12_takes_10 : decode cX12_takes 10 = .ok (.getfield 362, 3) := by decide +kernel
theorem dX12_takes_13 : decode cX12_takes 13 = .ok (.invokevirtual 369, 3) := by decide +kernel
theorem dX12_takes_16 : decode cX12_takes 16 = .ok (.ireturn, 1) := by decide +kernel
theorem dX12_takes_17 : decode cX12_takes 17 = .ok (.aload_n 0, 1) := by decide +kernel
theorem dX12_takes_18 : decode cX12_takes 18 = .ok (.dup, 1) := by decide +kernel
theorem dX12_takes_19 : decode cX12_takes 19 = .ok (.getfield 362, 3) := by decide +kernel
theorem dX12_takes_22 : decode cX12_takes 22 = .ok (.iconst 1, 1) := by decide +kernel
theorem dX12_takes_23 : decode cX12_takes 23 = .ok (.iadd, 1) := by decide +kernel
theorem dX12_takes_24 : decode cX12_takes 24 = .ok (.putfield 362, 3) := by decide +kernel
theorem dX12_takes_27 : decode cX12_takes 27 = .ok (.iconst 1, 1) := by decide +kernel
theorem dX12_takes_28 : decode cX12_takes 28 = .ok (.ireturn, 1) := by decide +kernel
theorem dX12_beginText_0 : decode cX12_beginText 0 = .ok (.aload_n 0, 1) := by decide +kernel
theorem dX12_beginText_1 : decode cX12_beginText 1 = .ok (.iconst 0, 1) := by decide +kernel
theorem dX12_beginText_2 : decode cX12_beginText 2 = .ok (.putfield 362, 3) := by decide +kernel
theorem dX12_beginText_5 : decode cX12_beginText 5 = .ok (.aload_n 0, 1) := by decide +kernel
theorem dX12_beginText_6 : decode cX12_beginText 6 = .ok (.iconst (-1), 1) := by decide +kernel
theorem dX12_beginText_7 : decode cX12_beginText 7 = .ok (.putfield 13, 3) := by decide +kernel
theorem dX12_beginText_10 : decode cX12_beginText 10 = .ok (.return_, 1) := by decide +kernel
theorem dX12_beginsNumber_0 : decode cX12_beginsNumber 0 = .ok (.aload_n 0, 1) := by decide +kernel
theorem dX12_beginsNumber_1 : decode cX12_beginsNumber 1 = .ok (.invokevirtual 365, 3) := by decide +kernel
theorem dX12_beginsNumber_4 : decode cX12_beginsNumber 4 = .ok (.invokestatic 372, 3) := by decide +kernel
theorem dX12_beginsNumber_7 : decode cX12_beginsNumber 7 = .ok (.ifCond .ne 12, 3) := by decide +kernel
theorem dX12_beginsNumber_10 : decode cX12_beginsNumber 10 = .ok (.aload_n 0, 1) := by decide +kernel
theorem dX12_beginsNumber_11 : decode cX12_beginsNumber 11 = .ok (.invokevirtual 365, 3) := by decide +kernel
theorem dX12_beginsNumber_14 : decode cX12_beginsNumber 14 = .ok (.bipush 45, 2) := by decide +kernel
theorem dX12_beginsNumber_16 : decode cX12_beginsNumber 16 = .ok (.if_icmp .ne 7, 3) := by decide +kernel
theorem dX12_beginsNumber_19 : decode cX12_beginsNumber 19 = .ok (.iconst 1, 1) := by decide +kernel
theorem dX12_beginsNumber_20 : decode cX12_beginsNumber 20 = .ok (.goto 4, 3) := by decide +kernel
theorem dX12_beginsNumber_23 : decode cX12_beginsNumber 23 = .ok (.iconst 0, 1) := by decide +kernel
theorem dX12_beginsNumber_24 : decode cX12_beginsNumber 24 = .ok (.ireturn, 1) := by decide +kernel
theorem dX12_digits_0 : decode cX12_digits 0 = .ok (.iload_n 2, 1) := by decide +kernel
theorem dX12_digits_1 : decode cX12_digits 1 = .ok (.istore_n 3, 1) := by decide +kernel
theorem dX12_digits_2 : decode cX12_digits 2 = .ok (.aload_n 0, 1) := by decide +kernel
theorem dX12_digits_3 : decode cX12_digits 3 = .ok (.getfield 362, 3) := by decide +kernel
theorem dX12_digits_6 : decode cX12_digits 6 = .ok (.istore 4, 2) := by decide +kernel
theorem dX12_digits_8 : decode cX12_digits 8 = .ok (.aload_n 0, 1) := by decide +kernel
theorem dX12_digits_9 : decode cX12_digits 9 = .ok (.invokevirtual 365, 3) := by decide +kernel
theorem dX12_digits_12 : decode cX12_digits 12 = .ok (.invokestatic 372, 3) := by decide +kernel
theorem dX12_digits_15 : decode cX12_digits 15 = .ok (.ifCond .eq 40, 3) := by decide +kernel
theorem dX12_digits_18 : decode cX12_digits 18 = .ok (.aload_n 0, 1) := by decide +kernel
theorem dX12_digits_19 : decode cX12_digits 19 = .ok (.getfield 362, 3) := by decide +kernel
theorem dX12_digits_22 : decode cX12_digits 22 = .ok (.iload 4, 2) := by decide +kernel
theorem dX12_digits_24 : decode cX12_digits 24 = .ok (.isub, 1) := by decide +kernel
theorem dX12_digits_25 : decode cX12_digits 25 = .ok (.iload_n 1, 1) := by decide +kernel
theorem dX12_digits_26 : decode cX12_digits 26 = .ok (.if_icmp .ge 29, 3) := by decide +kernel
theorem dX12_digits_29 : decode cX12_digits 29 = .ok (.bipush 10, 2) := by decide +kernel
theorem dX12_digits_31 : decode cX12_digits 31 = .ok (.iload_n 3, 1) := by decide +kernel
theorem dX12_digits_32 : decode cX12_digits 32 = .ok (.imul, 1) := by decide +kernel
theorem dX12_digits_33 : decode cX12_digits 33 = .ok (.aload_n 0, 1) := by decide +kernel
theorem dX12_digits_34 : decode cX12_digits 34 = .ok (.invokevirtual 365, 3) := by decide +kernel
theorem dX12_digits_37 : decode cX12_digits 37 = .ok (.iadd, 1) := by decide +kernel
theorem dX12_digits_38 : decode cX12_digits 38 = .ok (.bipush 48, 2) := by decide +kernel
theorem dX12_digits_40 : decode cX12_digits 40 = .ok (.isub, 1) := by decide +kernel
theorem dX12_digits_41 : decode cX12_digits 41 = .ok (.istore_n 3, 1) := by decide +kernel
theorem dX12_digits_42 : decode cX12_digits 42 = .ok (.aload_n 0, 1) := by decide +kernel
theorem dX12_digits_43 : decode cX12_digits 43 = .ok (.dup, 1) := by decide +kernel
theorem dX12_digits_44 : decode cX12_digits 44 = .ok (.getfield 362, 3) := by decide +kernel
theorem dX12_digits_47 : decode cX12_digits 47 = .ok (.iconst 1, 1) := by decide +kernel
theorem dX12_digits_48 : decode cX12_digits 48 = .ok (.iadd, 1) := by decide +kernel
theorem dX12_digits_49 : decode cX12_digits 49 = .ok (.putfield 362, 3) := by decide +kernel
theorem dX12_digits_52 : decode cX12_digits 52 = .ok (.goto (-44), 3) := by decide +kernel
theorem dX12_digits_55 : decode cX12_digits 55 = .ok (.iload_n 3, 1) := by decide +kernel
theorem dX12_digits_56 : decode cX12_digits 56 = .ok (.ireturn, 1) := by decide +kernel
theorem dX12_readNumber_0 : decode cX12_readNumber 0 = .ok (.aload_n 0, 1) := by decide +kernel
theorem dX12_readNumber_1 : decode cX12_readNumber 1 = .ok (.invokevirtual 365, 3) := by decide +kernel
theorem dX12_readNumber_4 : decode cX12_readNumber 4 = .ok (.bipush 45, 2) := by decide +kernel
theorem dX12_readNumber_6 : decode cX12_readNumber 6 = .ok (.if_icmp .ne 7, 3) := by decide +kernel
theorem dX12_readNumber_9 : decode cX12_readNumber 9 = .ok (.iconst 1, 1) := by decide +kernel
theorem dX12_readNumber_10 : decode cX12_readNumber 10 = .ok (.goto 4, 3) := by decide +kernel
theorem dX12_readNumber_13 : decode cX12_readNumber 13 = .ok (.iconst 0, 1) := by decide +kernel
theorem dX12_readNumber_14 : decode cX12_readNumber 14 = .ok (.istore_n 1, 1) := by decide +kernel
theorem dX12_readNumber_15 : decode cX12_readNumber 15 = .ok (.iload_n 1, 1) := by decide +kernel
theorem dX12_readNumber_16 : decode cX12_readNumber 16 = .ok (.ifCond .eq 13, 3) := by decide +kernel
theorem dX12_readNumber_19 : decode cX12_readNumber 19 = .ok (.aload_n 0, 1) := by decide +kernel
theorem dX12_readNumber_20 : decode cX12_readNumber 20 = .ok (.dup, 1) := by decide +kernel
theorem dX12_readNumber_21 : decode cX12_readNumber 21 = .ok (.getfield 362, 3) := by decide +kernel
theorem dX12_readNumber_24 : decode cX12_readNumber 24 = .ok (.iconst 1, 1) := by decide +kernel
theorem dX12_readNumber_25 : decode cX12_readNumber 25 = .ok (.iadd, 1) := by decide +kernel
theorem dX12_readNumber_26 : decode cX12_readNumber 26 = .ok (.putfield 362, 3) := by decide +kernel
theorem dX12_readNumber_29 : decode cX12_readNumber 29 = .ok (.aload_n 0, 1) := by decide +kernel
theorem dX12_readNumber_30 : decode cX12_readNumber 30 = .ok (.invokevirtual 365, 3) := by decide +kernel
theorem dX12_readNumber_33 : decode cX12_readNumber 33 = .ok (.invokestatic 372, 3) := by decide +kernel
theorem dX12_readNumber_36 : decode cX12_readNumber 36 = .ok (.ifCond .ne 12, 3) := by decide +kernel
theorem dX12_readNumber_39 : decode cX12_readNumber 39 = .ok (.aload_n 0, 1) := by decide +kernel
theorem dX12_readNumber_40 : decode cX12_readNumber 40 = .ok (.aload_n 0, 1) := by decide +kernel
theorem dX12_readNumber_41 : decode cX12_readNumber 41 = .ok (.getfield 362, 3) := by decide +kernel
theorem dX12_readNumber_44 : decode cX12_readNumber 44 = .ok (.invokevirtual 369, 3) := by decide +kernel
theorem dX12_readNumber_47 : decode cX12_readNumber 47 = .ok (.ireturn, 1) := by decide +kernel
theorem dX12_readNumber_48 : decode cX12_readNumber 48 = .ok (.aload_n 0, 1) := by decide +kernel
theorem dX12_readNumber_49 : decode cX12_readNumber 49 = .ok (.iconst 5, 1) := by decide +kernel
theorem dX12_readNumber_50 : decode cX12_readNumber 50 = .ok (.iconst 0, 1) := by decide +kernel
theorem dX12_readNumber_51 : decode cX12_readNumber 51 = .ok (.invokevirtual 375, 3) := by decide +kernel
theorem dX12_readNumber_54 : decode cX12_readNumber 54 = .ok (.istore_n 2, 1) := by decide +kernel
theorem dX12_readNumber_55 : decode cX12_readNumber 55 = .ok (.aload_n 0, 1) := by decide +kernel
theorem dX12_readNumber_56 : decode cX12_readNumber 56 = .ok (.iconst 0, 1) := by decide +kernel
theorem dX12_readNumber_57 : decode cX12_readNumber 57 = .ok (.putfield 378, 3) := by decide +kernel
theorem dX12_readNumber_60 : decode cX12_readNumber 60 = .ok (.aload_n 0, 1) := by decide +kernel
theorem dX12_readNumber_61 : decode cX12_readNumber 61 = .ok (.iload_n 1, 1) := by decide +kernel
theorem dX12_readNumber_62 : decode cX12_readNumber 62 = .ok (.ifCond .eq 8, 3) := by decide +kernel
theorem dX12_readNumber_65 : decode cX12_readNumber 65 = .ok (.iload_n 2, 1) := by decide +kernel
theorem dX12_readNumber_66 : decode cX12_readNumber 66 = .ok (.ineg, 1) := by decide +kernel
theorem dX12_readNumber_67 : decode cX12_readNumber 67 = .ok (.goto 4, 3) := by decide +kernel
theorem dX12_readNumber_70 : decode cX12_readNumber 70 = .ok (.iload_n 2, 1) := by decide +kernel
theorem dX12_readNumber_71 : decode cX12_readNumber 71 = .ok (.putfield 381, 3) := by decide +kernel
theorem dX12_readNumber_74 : decode cX12_readNumber 74 = .ok (.aload_n 0, 1) := by decide +kernel
theorem dX12_readNumber_75 : decode cX12_readNumber 75 = .ok (.invokevirtual 365, 3) := by decide +kernel
theorem dX12_readNumber_78 : decode cX12_readNumber 78 = .ok (.bipush 46, 2) := by decide +kernel
theorem dX12_readNumber_80 : decode cX12_readNumber 80 = .ok (.if_icmp .eq 5, 3) := by decide +kernel
theorem dX12_readNumber_83 : decode cX12_readNumber 83 = .ok (.iconst 1, 1) := by decide +kernel
theorem dX12_readNumber_84 : decode cX12_readNumber 84 = .ok (.ireturn, 1) := by decide +kernel
theorem dX12_readNumber_85 : decode cX12_readNumber 85 = .ok (.aload_n 0, 1) := by decide +kernel
theorem dX12_readNumber_86 : decode cX12_readNumber 86 = .ok (.dup, 1) := by decide +kernel
theorem dX12_readNumber_87 : decode cX12_readNumber 87 = .ok (.getfield 362, 3) := by decide +kernel
theorem dX12_readNumber_90 : decode cX12_readNumber 90 = .ok (.iconst 1, 1) := by decide +kernel
theorem dX12_readNumber_91 : decode cX12_readNumber 91 = .ok (.iadd, 1) := by decide +kernel
theorem dX12_readNumber_92 : decode cX12_readNumber 92 = .ok (.putfield 362, 3) := by decide +kernel
theorem dX12_readNumber_95 : decode cX12_readNumber 95 = .ok (.aload_n 0, 1) := by decide +kernel
theorem dX12_readNumber_96 : decode cX12_readNumber 96 = .ok (.invokevirtual 365, 3) := by decide +kernel
theorem dX12_readNumber_99 : decode cX12_readNumber 99 = .ok (.invokestatic 372, 3) := by decide +kernel
theorem dX12_readNumber_102 : decode cX12_readNumber 102 = .ok (.ifCond .ne 12, 3) := by decide +kernel
theorem dX12_readNumber_105 : decode cX12_readNumber 105 = .ok (.aload_n 0, 1) := by decide +kernel
theorem dX12_readNumber_106 : decode cX12_readNumber 106 = .ok (.aload_n 0, 1) := by decide +kernel
theorem dX12_readNumber_107 : decode cX12_readNumber 107 = .ok (.getfield 362, 3) := by decide +kernel
theorem dX12_readNumber_110 : decode cX12_readNumber 110 = .ok (.invokevirtual 369, 3) := by decide +kernel
theorem dX12_readNumber_113 : decode cX12_readNumber 113 = .ok (.ireturn, 1) := by decide +kernel
theorem dX12_readNumber_114 : decode cX12_readNumber 114 = .ok (.aload_n 0, 1) := by decide +kernel
theorem dX12_readNumber_115 : decode cX12_readNumber 115 = .ok (.getfield 362, 3) := by decide +kernel
theorem dX12_readNumber_118 : decode cX12_readNumber 118 = .ok (.istore_n 3, 1) := by decide +kernel
theorem dX12_readNumber_119 : decode cX12_readNumber 119 = .ok (.aload_n 0, 1) := by decide +kernel
theorem dX12_readNumber_120 : decode cX12_readNumber 120 = .ok (.iconst 3, 1) := by decide +kernel
theorem dX12_readNumber_121 : decode cX12_readNumber 121 = .ok (.iload_n 2, 1) := by decide +kernel
theorem dX12_readNumber_122 : decode cX12_readNumber 122 = .ok (.invokevirtual 375, 3) := by decide +kernel
theorem dX12_readNumber_125 : decode cX12_readNumber 125 = .ok (.istore_n 2, 1) := by decide +kernel
theorem dX12_readNumber_126 : decode cX12_readNumber 126 = .ok (.aload_n 0, 1) := by decide +kernel
theorem dX12_readNumber_127 : decode cX12_readNumber 127 = .ok (.getfield 362, 3) := by decide +kernel
theorem dX12_readNumber_130 : decode cX12_readNumber 130 = .ok (.iload_n 3, 1) := by decide +kernel
theorem dX12_readNumber_131 : decode cX12_readNumber 131 = .ok (.isub, 1) := by decide +kernel
theorem dX12_readNumber_132 : decode cX12_readNumber 132 = .ok (.iconst 1, 1) := by decide +kernel
theorem dX12_readNumber_133 : decode cX12_readNumber 133 = .ok (.if_icmp .ne 9, 3) := by decide +kernel
theorem dX12_readNumber_136 : decode cX12_readNumber 136 = .ok (.ldc_w 384, 3) := by decide +kernel
theorem dX12_readNumber_139 : decode cX12_readNumber 139 = .ok (.goto 22, 3) := by decide +kernel
theorem dX12_readNumber_142 : decode cX12_readNumber 142 = .ok (.aload_n 0, 1) := by decide +kernel
theorem dX12_readNumber_143 : decode cX12_readNumber 143 = .ok (.getfield 362, 3) := by decide +kernel
theorem dX12_readNumber_146 : decode cX12_readNumber 146 = .ok (.iload_n 3, 1) := by decide +kernel
theorem dX12_readNumber_147 : decode cX12_readNumber 147 = .ok (.isub, 1) := by decide +kernel
theorem dX12_readNumber_148 : decode cX12_readNumber 148 = .ok (.iconst 2, 1) := by decide +kernel
theorem dX12_readNumber_149 : decode cX12_readNumber 149 = .ok (.if_icmp .ne 9, 3) := by decide +kernel
theorem dX12_readNumber_152 : decode cX12_readNumber 152 = .ok (.ldc_w 385, 3) := by decide +kernel
theorem dX12_readNumber_155 : decode cX12_readNumber 155 = .ok (.goto 6, 3) := by decide +kernel
theorem dX12_readNumber_158 : decode cX12_readNumber 158 = .ok (.ldc_w 386, 3) := by decide +kernel
theorem dX12_readNumber_161 : decode cX12_readNumber 161 = .ok (.fstore 4, 2) := by decide +kernel
theorem dX12_readNumber_163 : decode cX12_readNumber 163 = .ok (.aload_n 0, 1) := by decide +kernel
theorem dX12_readNumber_164 : decode cX12_readNumber 164 = .ok (.iconst 1, 1) := by decide +kernel
theorem dX12_readNumber_165 : decode cX12_readNumber 165 = .ok (.putfield 378, 3) := by decide +kernel
theorem dX12_readNumber_168 : decode cX12_readNumber 168 = .ok (.aload_n 0, 1) := by decide +kernel
theorem dX12_readNumber_169 : decode cX12_readNumber 169 = .ok (.iload_n 1, 1) := by decide +kernel
theorem dX12_readNumber_170 : decode cX12_readNumber 170 = .ok (.ifCond .eq 8, 3) := by decide +kernel
theorem dX12_readNumber_173 : decode cX12_readNumber 173 = .ok (.iload_n 2, 1) := by decide +kernel
theorem dX12_readNumber_174 : decode cX12_readNumber 174 = .ok (.ineg, 1) := by decide +kernel
theorem dX12_readNumber_175 : decode cX12_readNumber 175 = .ok (.goto 4, 3) := by decide +kernel
theorem dX12_readNumber_178 : decode cX12_readNumber 178 = .ok (.iload_n 2, 1) := by decide +kernel
theorem dX12_readNumber_179 : decode cX12_readNumber 179 = .ok (.i2f, 1) := by decide +kernel
theorem dX12_readNumber_180 : decode cX12_readNumber 180 = .ok (.fload 4, 2) := by decide +kernel
theorem dX12_readNumber_182 : decode cX12_readNumber 182 = .ok (.fdiv, 1) := by decide +kernel
theorem dX12_readNumber_183 : decode cX12_readNumber 183 = .ok (.invokestatic 287, 3) := by decide +kernel
theorem dX12_readNumber_186 : decode cX12_readNumber 186 = .ok (.putfield 381, 3) := by decide +kernel
theorem dX12_readNumber_189 : decode cX12_readNumber 189 = .ok (.iconst 1, 1) := by decide +kernel
theorem dX12_readNumber_190 : decode cX12_readNumber 190 = .ok (.ireturn, 1) := by decide +kernel
theorem dX12_lay_0 : decode cX12_lay 0 = .ok (.aload_n 0, 1) := by decide +kernel
theorem dX12_lay_1 : decode cX12_lay 1 = .ok (.getfield 60, 3) := by decide +kernel
theorem dX12_lay_4 : decode cX12_lay 4 = .ok (.aload_n 0, 1) := by decide +kernel
theorem dX12_lay_5 : decode cX12_lay 5 = .ok (.getfield 387, 3) := by decide +kernel
theorem dX12_lay_8 : decode cX12_lay 8 = .ok (.iload_n 1, 1) := by decide +kernel
theorem dX12_lay_9 : decode cX12_lay 9 = .ok (.iastore, 1) := by decide +kernel
theorem dX12_lay_10 : decode cX12_lay 10 = .ok (.aload_n 0, 1) := by decide +kernel
theorem dX12_lay_11 : decode cX12_lay 11 = .ok (.getfield 63, 3) := by decide +kernel
theorem dX12_lay_14 : decode cX12_lay 14 = .ok (.aload_n 0, 1) := by decide +kernel
theorem dX12_lay_15 : decode cX12_lay 15 = .ok (.getfield 387, 3) := by decide +kernel
theorem dX12_lay_18 : decode cX12_lay 18 = .ok (.iload_n 2, 1) := by decide +kernel
theorem dX12_lay_19 : decode cX12_lay 19 = .ok (.iastore, 1) := by decide +kernel
theorem dX12_lay_20 : decode cX12_lay 20 = .ok (.aload_n 0, 1) := by decide +kernel
theorem dX12_lay_21 : decode cX12_lay 21 = .ok (.getfield 66, 3) := by decide +kernel
theorem dX12_lay_24 : decode cX12_lay 24 = .ok (.aload_n 0, 1) := by decide +kernel
theorem dX12_lay_25 : decode cX12_lay 25 = .ok (.getfield 387, 3) := by decide +kernel
theorem dX12_lay_28 : decode cX12_lay 28 = .ok (.iload_n 3, 1) := by decide +kernel
theorem dX12_lay_29 : decode cX12_lay 29 = .ok (.iastore, 1) := by decide +kernel
theorem dX12_lay_30 : decode cX12_lay 30 = .ok (.aload_n 0, 1) := by decide +kernel
theorem dX12_lay_31 : decode cX12_lay 31 = .ok (.dup, 1) := by decide +kernel
theorem dX12_lay_32 : decode cX12_lay 32 = .ok (.getfield 387, 3) := by decide +kernel
theorem dX12_lay_35 : decode cX12_lay 35 = .ok (.iconst 1, 1) := by decide +kernel
theorem dX12_lay_36 : decode cX12_lay 36 = .ok (.iadd, 1) := by decide +kernel
theorem dX12_lay_37 : decode cX12_lay 37 = .ok (.putfield 387, 3) := by decide +kernel
theorem dX12_lay_40 : decode cX12_lay 40 = .ok (.iconst 1, 1) := by decide +kernel
theorem dX12_lay_41 : decode cX12_lay 41 = .ok (.ireturn, 1) := by decide +kernel
theorem dX12_openThing_0 : decode cX12_openThing 0 = .ok (.aload_n 0, 1) := by decide +kernel
theorem dX12_openThing_1 : decode cX12_openThing 1 = .ok (.getfield 69, 3) := by decide +kernel
theorem dX12_openThing_4 : decode cX12_openThing 4 = .ok (.aload_n 0, 1) := by decide +kernel
theorem dX12_openThing_5 : decode cX12_openThing 5 = .ok (.getfield 390, 3) := by decide +kernel
theorem dX12_openThing_8 : decode cX12_openThing 8 = .ok (.aload_n 0, 1) := by decide +kernel
theorem dX12_openThing_9 : decode cX12_openThing 9 = .ok (.getfield 387, 3) := by decide +kernel
theorem dX12_openThing_12 : decode cX12_openThing 12 = .ok (.iconst 1, 1) := by decide +kernel
theorem dX12_openThing_13 : decode cX12_openThing 13 = .ok (.isub, 1) := by decide +kernel
theorem dX12_openThing_14 : decode cX12_openThing 14 = .ok (.iastore, 1) := by decide +kernel
theorem dX12_openThing_15 : decode cX12_openThing 15 = .ok (.aload_n 0, 1) := by decide +kernel
theorem dX12_openThing_16 : decode cX12_openThing 16 = .ok (.getfield 72, 3) := by decide +kernel
theorem dX12_openThing_19 : decode cX12_openThing 19 = .ok (.aload_n 0, 1) := by decide +kernel
theorem dX12_openThing_20 : decode cX12_openThing 20 = .ok (.getfield 390, 3) := by decide +kernel
theorem dX12_openThing_23 : decode cX12_openThing 23 = .ok (.iconst 0, 1) := by decide +kernel
theorem dX12_openThing_24 : decode cX12_openThing 24 = .ok (.iastore, 1) := by decide +kernel
theorem dX12_openThing_25 : decode cX12_openThing 25 = .ok (.aload_n 0, 1) := by decide +kernel
theorem dX12_openThing_26 : decode cX12_openThing 26 = .ok (.dup, 1) := by decide +kernel
theorem dX12_openThing_27 : decode cX12_openThing 27 = .ok (.getfield 390, 3) := by decide +kernel
theorem dX12_openThing_30 : decode cX12_openThing 30 = .ok (.iconst 1, 1) := by decide +kernel
theorem dX12_openThing_31 : decode cX12_openThing 31 = .ok (.iadd, 1) := by decide +kernel
theorem dX12_openThing_32 : decode cX12_openThing 32 = .ok (.putfield 390, 3) := by decide +kernel
theorem dX12_openThing_35 : decode cX12_openThing 35 = .ok (.return_, 1) := by decide +kernel
theorem dX12_signOf_0 : decode cX12_signOf 0 = .ok (.iload_n 0, 1) := by decide +kernel
theorem dX12_signOf_1 : decode cX12_signOf 1 = .ok (.bipush 36, 2) := by decide +kernel
theorem dX12_signOf_3 : decode cX12_signOf 3 = .ok (.if_icmp .ne 7, 3) := by decide +kernel
theorem dX12_signOf_6 : decode cX12_signOf 6 = .ok (.iconst 0, 1) := by decide +kernel
theorem dX12_signOf_7 : decode cX12_signOf 7 = .ok (.goto 44, 3) := by decide +kernel
theorem dX12_signOf_10 : decode cX12_signOf 10 = .ok (.iload_n 0, 1) := by decide +kernel
theorem dX12_signOf_11 : decode cX12_signOf 11 = .ok (.bipush 94, 2) := by decide +kernel
theorem dX12_signOf_13 : decode cX12_signOf 13 = .ok (.if_icmp .ne 7, 3) := by decide +kernel
theorem dX12_signOf_16 : decode cX12_signOf 16 = .ok (.iconst 1, 1) := by decide +kernel
theorem dX12_signOf_17 : decode cX12_signOf 17 = .ok (.goto 34, 3) := by decide +kernel
theorem dX12_signOf_20 : decode cX12_signOf 20 = .ok (.iload_n 0, 1) := by decide +kernel
theorem dX12_signOf_21 : decode cX12_signOf 21 = .ok (.bipush 35, 2) := by decide +kernel
theorem dX12_signOf_23 : decode cX12_signOf 23 = .ok (.if_icmp .ne 7, 3) := by decide +kernel
theorem dX12_signOf_26 : decode cX12_signOf 26 = .ok (.iconst 2, 1) := by decide +kernel
theorem dX12_signOf_27 : decode cX12_signOf 27 = .ok (.goto 24, 3) := by decide +kernel
theorem dX12_signOf_30 : decode cX12_signOf 30 = .ok (.iload_n 0, 1) := by decide +kernel
theorem dX12_signOf_31 : decode cX12_signOf 31 = .ok (.bipush 64, 2) := by decide +kernel
theorem dX12_signOf_33 : decode cX12_signOf 33 = .ok (.if_icmp .ne 7, 3) := by decide +kernel
theorem dX12_signOf_36 : decode cX12_signOf 36 = .ok (.iconst 3, 1) := by decide +kernel
theorem dX12_signOf_37 : decode cX12_signOf 37 = .ok (.goto 14, 3) := by decide +kernel
theorem dX12_signOf_40 : decode cX12_signOf 40 = .ok (.iload_n 0, 1) := by decide +kernel
theorem dX12_signOf_41 : decode cX12_signOf 41 = .ok (.bipush 126, 2) := by decide +kernel
theorem dX12_signOf_43 : decode cX12_signOf 43 = .ok (.if_icmp .ne 7, 3) := by decide +kernel
theorem dX12_signOf_46 : decode cX12_signOf 46 = .ok (.iconst 4, 1) := by decide +kernel
theorem dX12_signOf_47 : decode cX12_signOf 47 = .ok (.goto 4, 3) := by decide +kernel
theorem dX12_signOf_50 : decode cX12_signOf 50 = .ok (.iconst (-1), 1) := by decide +kernel
theorem dX12_signOf_51 : decode cX12_signOf 51 = .ok (.ireturn, 1) := by decide +kernel
theorem dX12_layOpen_0 : decode cX12_layOpen 0 = .ok (.aload_n 0, 1) := by decide +kernel
theorem dX12_layOpen_1 : decode cX12_layOpen 1 = .ok (.dup, 1) := by decide +kernel
theorem dX12_layOpen_2 : decode cX12_layOpen 2 = .ok (.getfield 362, 3) := by decide +kernel
theorem dX12_layOpen_5 : decode cX12_layOpen 5 = .ok (.iconst 1, 1) := by decide +kernel
theorem dX12_layOpen_6 : decode cX12_layOpen 6 = .ok (.iadd, 1) := by decide +kernel
theorem dX12_layOpen_7 : decode cX12_layOpen 7 = .ok (.putfield 362, 3) := by decide +kernel
theorem dX12_layOpen_10 : decode cX12_layOpen 10 = .ok (.aload_n 0, 1) := by decide +kernel
theorem dX12_layOpen_11 : decode cX12_layOpen 11 = .ok (.iload_n 1, 1) := by decide +kernel
theorem dX12_layOpen_12 : decode cX12_layOpen 12 = .ok (.iload_n 2, 1) := by decide +kernel
theorem dX12_layOpen_13 : decode cX12_layOpen 13 = .ok (.iload_n 3, 1) := by decide +kernel
theorem dX12_layOpen_14 : decode cX12_layOpen 14 = .ok (.invokevirtual 393, 3) := by decide +kernel
theorem dX12_layOpen_17 : decode cX12_layOpen 17 = .ok (.istore 4, 2) := by decide +kernel
theorem dX12_layOpen_19 : decode cX12_layOpen 19 = .ok (.aload_n 0, 1) := by decide +kernel
theorem dX12_layOpen_20 : decode cX12_layOpen 20 = .ok (.invokevirtual 396, 3) := by decide +kernel
theorem dX12_layOpen_23 : decode cX12_layOpen 23 = .ok (.iload 4, 2) := by decide +kernel
theorem dX12_layOpen_25 : decode cX12_layOpen 25 = .ok (.ireturn, 1) := by decide +kernel
theorem dX12_readThing_0 : decode cX12_readThing 0 = .ok (.aload_n 0, 1) := by decide +kernel
theorem dX12_readThing_1 : decode cX12_readThing 1 = .ok (.invokevirtual 365, 3) := by decide +kernel
theorem dX12_readThing_4 : decode cX12_readThing 4 = .ok (.istore_n 1, 1) := by decide +kernel
theorem dX12_readThing_5 : decode cX12_readThing 5 = .ok (.aload_n 0, 1) := by decide +kernel
theorem dX12_readThing_6 : decode cX12_readThing 6 = .ok (.getfield 362, 3) := by decide +kernel
theorem dX12_readThing_9 : decode cX12_readThing 9 = .ok (.istore_n 2, 1) := by decide +kernel
theorem dX12_readThing_10 : decode cX12_readThing 10 = .ok (.aload_n 0, 1) := by decide +kernel
theorem dX12_readThing_11 : decode cX12_readThing 11 = .ok (.invokevirtual 399, 3) := by decide +kernel
theorem dX12_readThing_14 : decode cX12_readThing 14 = .ok (.ifCond .ne 67, 3) := by decide +kernel
theorem dX12_readThing_17 : decode cX12_readThing 17 = .ok (.iload_n 1, 1) := by decide +kernel
theorem dX12_readThing_18 : decode cX12_readThing 18 = .ok (.invokestatic 403, 3) := by decide +kernel
theorem dX12_readThing_21 : decode cX12_readThing 21 = .ok (.ifCond .ne 60, 3) := by decide +kernel
theorem dX12_readThing_24 : decode cX12_readThing 24 = .ok (.iload_n 1, 1) := by decide +kernel
theorem dX12_readThing_25 : decode cX12_readThing 25 = .ok (.invokestatic 406, 3) := by decide +kernel
theorem dX12_readThing_28 : decode cX12_readThing 28 = .ok (.ifCond .ne 53, 3) := by decide +kernel
theorem dX12_readThing_31 : decode cX12_readThing 31 = .ok (.iload_n 1, 1) := by decide +kernel
theorem dX12_readThing_32 : decode cX12_readThing 32 = .ok (.invokestatic 409, 3) := by decide +kernel
theorem dX12_readThing_35 : decode cX12_readThing 35 = .ok (.iconst (-1), 1) := by decide +kernel
theorem dX12_readThing_36 : decode cX12_readThing 36 = .ok (.if_icmp .ne 45, 3) := by decide +kernel
theorem dX12_readThing_39 : decode cX12_readThing 39 = .ok (.iload_n 1, 1) := by decide +kernel
theorem dX12_readThing_40 : decode cX12_readThing 40 = .ok (.bipush 40, 2) := by decide +kernel
theorem dX12_readThing_42 : decode cX12_readThing 42 = .ok (.if_icmp .eq 39, 3) := by decide +kernel
theorem dX12_readThing_45 : decode cX12_readThing 45 = .ok (.iload_n 1, 1) := by decide +kernel
theorem dX12_readThing_46 : decode cX12_readThing 46 = .ok (.bipush 91, 2) := by decide +kernel
theorem dX12_readThing_48 : decode cX12_readThing 48 = .ok (.if_icmp .eq 33, 3) := by decide +kernel
theorem dX12_readThing_51 : decode cX12_readThing 51 = .ok (.iload_n 1, 1) := by decide +kernel
theorem dX12_readThing_52 : decode cX12_readThing 52 = .ok (.bipush 63, 2) := by decide +kernel
theorem dX12_readThing_54 : decode cX12_readThing 54 = .ok (.if_icmp .eq 27, 3) := by decide +kernel
theorem dX12_readThing_57 : decode cX12_readThing 57 = .ok (.iload_n 1, 1) := by decide +kernel
theorem dX12_readThing_58 : decode cX12_readThing 58 = .ok (.bipush 33, 2) := by decide +kernel
theorem dX12_readThing_60 : decode cX12_readThing 60 = .ok (.if_icmp .eq 21, 3) := by decide +kernel
theorem dX12_readThing_63 : decode cX12_readThing 63 = .ok (.iload_n 1, 1) := by decide +kernel
theorem dX12_readThing_64 : decode cX12_readThing 64 = .ok (.bipush 38, 2) := by decide +kernel
theorem dX12_readThing_66 : decode cX12_readThing 66 = .ok (.if_icmp .eq 15, 3) := by decide +kernel
theorem dX12_readThing_69 : decode cX12_readThing 69 = .ok (.iload_n 1, 1) := by decide +kernel
theorem dX12_readThing_70 : decode cX12_readThing 70 = .ok (.bipush 95, 2) := by decide +kernel
theorem dX12_readThing_72 : decode cX12_readThing 72 = .ok (.if_icmp .eq 9, 3) := by decide +kernel
theorem dX12_readThing_75 : decode cX12_readThing 75 = .ok (.iload_n 1, 1) := by decide +kernel
theorem dX12_readThing_76 : decode cX12_readThing 76 = .ok (.bipush 58, 2) := by decide +kernel
theorem dX12_readThing_78 : decode cX12_readThing 78 = .ok (.if_icmp .ne 7, 3) := by decide +kernel
theorem dX12_readThing_81 : decode cX12_readThing 81 = .ok (.iconst 1, 1) := by decide +kernel
theorem dX12_readThing_82 : decode cX12_readThing 82 = .ok (.goto 4, 3) := by decide +kernel
theorem dX12_readThing_85 : decode cX12_readThing 85 = .ok (.iconst 0, 1) := by decide +kernel
theorem dX12_readThing_86 : decode cX12_readThing 86 = .ok (.istore_n 3, 1) := by decide +kernel
theorem dX12_readThing_87 : decode cX12_readThing 87 = .ok (.iload_n 3, 1) := by decide +kernel
theorem dX12_readThing_88 : decode cX12_readThing 88 = .ok (.ifCond .eq 31, 3) := by decide +kernel
theorem dX12_readThing_91 : decode cX12_readThing 91 = .ok (.aload_n 0, 1) := by decide +kernel
theorem dX12_readThing_92 : decode cX12_readThing 92 = .ok (.getfield 387, 3) := by decide +kernel
theorem dX12_readThing_95 : decode cX12_readThing 95 = .ok (.aload_n 0, 1) := by decide +kernel
theorem dX12_readThing_96 : decode cX12_readThing 96 = .ok (.getfield 54, 3) := by decide +kernel
theorem dX12_readThing_99 : decode cX12_readThing 99 = .ok (.aload_n 0, 1) := by decide +kernel
theorem dX12_readThing_100 : decode cX12_readThing 100 = .ok (.getfield 413, 3) := by decide +kernel
theorem dX12_readThing_103 : decode cX12_readThing 103 = .ok (.iaload, 1) := by decide +kernel
theorem dX12_readThing_104 : decode cX12_readThing 104 = .ok (.isub, 1) := by decide +kernel
theorem dX12_readThing_105 : decode cX12_readThing 105 = .ok (.bipush 80, 2) := by decide +kernel
theorem dX12_readThing_107 : decode cX12_readThing 107 = .ok (.if_icmp .eq 12, 3) := by decide +kernel
theorem dX12_readThing_110 : decode cX12_readThing 110 = .ok (.aload_n 0, 1) := by decide +kernel
theorem dX12_readThing_111 : decode cX12_readThing 111 = .ok (.getfield 390, 3) := by decide +kernel
theorem dX12_readThing_114 : decode cX12_readThing 114 = .ok (.bipush 20, 2) := by decide +kernel
theorem dX12_readThing_116 : decode cX12_readThing 116 = .ok (.if_icmp .ne 9, 3) := by decide +kernel
theorem dX12_readThing_119 : decode cX12_readThing 119 = .ok (.aload_n 0, 1) := by decide +kernel
theorem dX12_readThing_120 : decode cX12_readThing 120 = .ok (.iload_n 2, 1) := by decide +kernel
theorem dX12_readThing_121 : decode cX12_readThing 121 = .ok (.invokevirtual 369, 3) := by decide +kernel
theorem dX12_readThing_124 : decode cX12_readThing 124 = .ok (.ireturn, 1) := by decide +kernel
theorem dX12_readThing_125 : decode cX12_readThing 125 = .ok (.aload_n 0, 1) := by decide +kernel
theorem dX12_readThing_126 : decode cX12_readThing 126 = .ok (.invokevirtual 399, 3) := by decide +kernel
theorem dX12_readThing_129 : decode cX12_readThing 129 = .ok (.ifCond .eq 32, 3) := by decide +kernel
theorem dX12_readThing_132 : decode cX12_readThing 132 = .ok (.aload_n 0, 1) := by decide +kernel
theorem dX12_readThing_133 : decode cX12_readThing 133 = .ok (.invokevirtual 416, 3) := by decide +kernel
theorem dX12_readThing_136 : decode cX12_readThing 136 = .ok (.ifCond .eq 23, 3) := by decide +kernel
theorem dX12_readThing_139 : decode cX12_readThing 139 = .ok (.aload_n 0, 1) := by decide +kernel
theorem dX12_readThing_140 : decode cX12_readThing 140 = .ok (.aload_n 0, 1) := by decide +kernel
theorem dX12_readThing_141 : decode cX12_readThing 141 = .ok (.getfield 378, 3) := by decide +kernel
theorem dX12_readThing_144 : decode cX12_readThing 144 = .ok (.aload_n 0, 1) := by decide +kernel
theorem dX12_readThing_145 : decode cX12_readThing 145 = .ok (.getfield 381, 3) := by decide +kernel
theorem dX12_readThing_148 : decode cX12_readThing 148 = .ok (.iconst 0, 1) := by decide +kernel
theorem dX12_readThing_149 : decode cX12_readThing 149 = .ok (.invokevirtual 393, 3) := by decide +kernel
theorem dX12_readThing_152 : decode cX12_readThing 152 = .ok (.ifCond .eq 7, 3) := by decide +kernel
theorem dX12_readThing_155 : decode cX12_readThing 155 = .ok (.iconst 1, 1) := by decide +kernel
theorem dX12_readThing_156 : decode cX12_readThing 156 = .ok (.goto 4, 3) := by decide +kernel
theorem dX12_readThing_159 : decode cX12_readThing 159 = .ok (.iconst 0, 1) := by decide +kernel
theorem dX12_readThing_160 : decode cX12_readThing 160 = .ok (.ireturn, 1) := by decide +kernel
theorem dX12_readThing_161 : decode cX12_readThing 161 = .ok (.iload_n 1, 1) := by decide +kernel
theorem dX12_readThing_162 : decode cX12_readThing 162 = .ok (.invokestatic 403, 3) := by decide +kernel
theorem dX12_readThing_165 : decode cX12_readThing 165 = .ok (.ifCond .eq 42, 3) := by decide +kernel
theorem dX12_readThing_168 : decode cX12_readThing 168 = .ok (.aload_n 0, 1) := by decide +kernel
theorem dX12_readThing_169 : decode cX12_readThing 169 = .ok (.getfield 75, 3) := by decide +kernel
theorem dX12_readThing_172 : decode cX12_readThing 172 = .ok (.iload_n 1, 1) := by decide +kernel
theorem dX12_readThing_173 : decode cX12_readThing 173 = .ok (.bipush 109, 2) := by decide +kernel
theorem dX12_readThing_175 : decode cX12_readThing 175 = .ok (.isub, 1) := by decide +kernel
theorem dX12_readThing_176 : decode cX12_readThing 176 = .ok (.iaload, 1) := by decide +kernel
theorem dX12_readThing_177 : decode cX12_readThing 177 = .ok (.ifCond .ne 9, 3) := by decide +kernel
theorem dX12_readThing_180 : decode cX12_readThing 180 = .ok (.aload_n 0, 1) := by decide +kernel
theorem dX12_readThing_181 : decode cX12_readThing 181 = .ok (.iload_n 2, 1) := by decide +kernel
theorem dX12_readThing_182 : decode cX12_readThing 182 = .ok (.invokevirtual 369, 3) := by decide +kernel
theorem dX12_readThing_185 : decode cX12_readThing 185 = .ok (.ireturn, 1) := by decide +kernel
theorem dX12_readThing_186 : decode cX12_readThing 186 = .ok (.aload_n 0, 1) := by decide +kernel
theorem dX12_readThing_187 : decode cX12_readThing 187 = .ok (.dup, 1) := by decide +kernel
theorem dX12_readThing_188 : decode cX12_readThing 188 = .ok (.getfield 362, 3) := by decide +kernel
theorem dX12_readThing_191 : decode cX12_readThing 191 = .ok (.iconst 1, 1) := by decide +kernel
theorem dX12_readThing_192 : decode cX12_readThing 192 = .ok (.iadd, 1) := by decide +kernel
theorem dX12_readThing_193 : decode cX12_readThing 193 = .ok (.putfield 362, 3) := by decide +kernel
theorem dX12_readThing_196 : decode cX12_readThing 196 = .ok (.aload_n 0, 1) := by decide +kernel
theorem dX12_readThing_197 : decode cX12_readThing 197 = .ok (.iconst 4, 1) := by decide +kernel
theorem dX12_readThing_198 : decode cX12_readThing 198 = .ok (.iload_n 1, 1) := by decide +kernel
theorem dX12_readThing_199 : decode cX12_readThing 199 = .ok (.bipush 109, 2) := by decide +kernel
theorem dX12_readThing_201 : decode cX12_readThing 201 = .ok (.isub, 1) := by decide +kernel
theorem dX12_readThing_202 : decode cX12_readThing 202 = .ok (.iconst 0, 1) := by decide +kernel
theorem dX12_readThing_203 : decode cX12_readThing 203 = .ok (.invokevirtual 393, 3) := by decide +kernel
theorem dX12_readThing_206 : decode cX12_readThing 206 = .ok (.ireturn, 1) := by decide +kernel
theorem dX12_readThing_207 : decode cX12_readThing 207 = .ok (.iload_n 1, 1) := by decide +kernel
theorem dX12_readThing_208 : decode cX12_readThing 208 = .ok (.invokestatic 409, 3) := by decide +kernel
theorem dX12_readThing_211 : decode cX12_readThing 211 = .ok (.iconst (-1), 1) := by decide +kernel
theorem dX12_readThing_212 : decode cX12_readThing 212 = .ok (.if_icmp .eq 15, 3) := by decide +kernel
theorem dX12_readThing_215 : decode cX12_readThing 215 = .ok (.aload_n 0, 1) := by decide +kernel
theorem dX12_readThing_216 : decode cX12_readThing 216 = .ok (.bipush 6, 2) := by decide +kernel
theorem dX12_readThing_218 : decode cX12_readThing 218 = .ok (.iload_n 1, 1) := by decide +kernel
theorem dX12_readThing_219 : decode cX12_readThing 219 = .ok (.invokestatic 409, 3) := by decide +kernel
theorem dX12_readThing_222 : decode cX12_readThing 222 = .ok (.iconst 1, 1) := by decide +kernel
theorem dX12_readThing_223 : decode cX12_readThing 223 = .ok (.invokevirtual 419, 3) := by decide +kernel
theorem dX12_readThing_226 : decode cX12_readThing 226 = .ok (.ireturn, 1) := by decide +kernel
theorem dX12_readThing_227 : decode cX12_readThing 227 = .ok (.iload_n 1, 1) := by decide +kernel
theorem dX12_readThing_228 : decode cX12_readThing 228 = .ok (.lookupswitch 195 #[(33, 84), (38, 119), (40, 68), (58, 190), (63, 93), (91, 76), (95, 149)], 68) := by decide +kernel
theorem dX12_readThing_296 : decode cX12_readThing 296 = .ok (.aload_n 0, 1) := by decide +kernel
theorem dX12_readThing_297 : decode cX12_readThing 297 = .ok (.iconst 5, 1) := by decide +kernel
theorem dX12_readThing_298 : decode cX12_readThing 298 = .ok (.iconst 0, 1) := by decide +kernel
theorem dX12_readThing_299 : decode cX12_readThing 299 = .ok (.iconst 2, 1) := by decide +kernel
theorem dX12_readThing_300 : decode cX12_readThing 300 = .ok (.invokevirtual 419, 3) := by decide +kernel
theorem dX12_readThing_303 : decode cX12_readThing 303 = .ok (.ireturn, 1) := by decide +kernel
theorem dX12_readThing_304 : decode cX12_readThing 304 = .ok (.aload_n 0, 1) := by decide +kernel
theorem dX12_readThing_305 : decode cX12_readThing 305 = .ok (.iconst 2, 1) := by decide +kernel
theorem dX12_readThing_306 : decode cX12_readThing 306 = .ok (.iconst 0, 1) := by decide +kernel
theorem dX12_readThing_307 : decode cX12_readThing 307 = .ok (.iconst 2, 1) := by decide +kernel
theorem dX12_readThing_308 : decode cX12_readThing 308 = .ok (.invokevirtual 419, 3) := by decide +kernel
theorem dX12_readThing_311 : decode cX12_readThing 311 = .ok (.ireturn, 1) := by decide +kernel
theorem dX12_readThing_312 : decode cX12_readThing 312 = .ok (.aload_n 0, 1) := by decide +kernel
theorem dX12_readThing_313 : decode cX12_readThing 313 = .ok (.bipush 8, 2) := by decide +kernel
theorem dX12_readThing_315 : decode cX12_readThing 315 = .ok (.iconst 0, 1) := by decide +kernel
theorem dX12_readThing_316 : decode cX12_readThing 316 = .ok (.iconst 1, 1) := by decide +kernel
theorem dX12_readThing_317 : decode cX12_readThing 317 = .ok (.invokevirtual 419, 3) := by decide +kernel
theorem dX12_readThing_320 : decode cX12_readThing 320 = .ok (.ireturn, 1) := by decide +kernel
theorem dX12_readThing_321 : decode cX12_readThing 321 = .ok (.aload_n 0, 1) := by decide +kernel
theorem dX12_readThing_322 : decode cX12_readThing 322 = .ok (.bipush 7, 2) := by decide +kernel
theorem dX12_readThing_324 : decode cX12_readThing 324 = .ok (.iconst 0, 1) := by decide +kernel
theorem dX12_readThing_325 : decode cX12_readThing 325 = .ok (.iconst 3, 1) := by decide +kernel
theorem dX12_readThing_326 : decode cX12_readThing 326 = .ok (.invokevirtual 419, 3) := by decide +kernel
theorem dX12_readThing_329 : decode cX12_readThing 329 = .ok (.ifCond .eq 16, 3) := by decide +kernel
theorem dX12_readThing_332 : decode cX12_readThing 332 = .ok (.aload_n 0, 1) := by decide +kernel
theorem dX12_readThing_333 : decode cX12_readThing 333 = .ok (.bipush 40, 2) := by decide +kernel
theorem dX12_readThing_335 : decode cX12_readThing 335 = .ok (.invokevirtual 422, 3) := by decide +kernel
theorem dX12_readThing_338 : decode cX12_readThing 338 = .ok (.ifCond .eq 7, 3) := by decide +kernel
theorem dX12_readThing_341 : decode cX12_readThing 341 = .ok (.iconst 1, 1) := by decide +kernel
theorem dX12_readThing_342 : decode cX12_readThing 342 = .ok (.goto 4, 3) := by decide +kernel
theorem dX12_readThing_345 : decode cX12_readThing 345 = .ok (.iconst 0, 1) := by decide +kernel
theorem dX12_readThing_346 : decode cX12_readThing 346 = .ok (.ireturn, 1) := by decide +kernel
theorem dX12_readThing_347 : decode cX12_readThing 347 = .ok (.aload_n 0, 1) := by decide +kernel
theorem dX12_readThing_348 : decode cX12_readThing 348 = .ok (.invokevirtual 425, 3) := by decide +kernel
theorem dX12_readThing_351 : decode cX12_readThing 351 = .ok (.ifCond .eq 24, 3) := by decide +kernel
theorem dX12_readThing_354 : decode cX12_readThing 354 = .ok (.aload_n 0, 1) := by decide +kernel
theorem dX12_readThing_355 : decode cX12_readThing 355 = .ok (.bipush 9, 2) := by decide +kernel
theorem dX12_readThing_357 : decode cX12_readThing 357 = .ok (.aload_n 0, 1) := by decide +kernel
theorem dX12_readThing_358 : decode cX12_readThing 358 = .ok (.invokevirtual 365, 3) := by decide +kernel
theorem dX12_readThing_361 : decode cX12_readThing 361 = .ok (.bipush 48, 2) := by decide +kernel
theorem dX12_readThing_363 : decode cX12_readThing 363 = .ok (.isub, 1) := by decide +kernel
theorem dX12_readThing_364 : decode cX12_readThing 364 = .ok (.iconst 1, 1) := by decide +kernel
theorem dX12_readThing_365 : decode cX12_readThing 365 = .ok (.invokevirtual 419, 3) := by decide +kernel
theorem dX12_readThing_368 : decode cX12_readThing 368 = .ok (.ifCond .eq 7, 3) := by decide +kernel
theorem dX12_readThing_371 : decode cX12_readThing 371 = .ok (.iconst 1, 1) := by decide +kernel
theorem dX12_readThing_372 : decode cX12_readThing 372 = .ok (.goto 4, 3) := by decide +kernel
theorem dX12_readThing_375 : decode cX12_readThing 375 = .ok (.iconst 0, 1) := by decide +kernel
theorem dX12_readThing_376 : decode cX12_readThing 376 = .ok (.ireturn, 1) := by decide +kernel
theorem dX12_readThing_377 : decode cX12_readThing 377 = .ok (.aload_n 0, 1) := by decide +kernel
theorem dX12_readThing_378 : decode cX12_readThing 378 = .ok (.invokevirtual 425, 3) := by decide +kernel
theorem dX12_readThing_381 : decode cX12_readThing 381 = .ok (.ifCond .eq 35, 3) := by decide +kernel
theorem dX12_readThing_384 : decode cX12_readThing 384 = .ok (.aload_n 0, 1) := by decide +kernel
theorem dX12_readThing_385 : decode cX12_readThing 385 = .ok (.bipush 10, 2) := by decide +kernel
theorem dX12_readThing_387 : decode cX12_readThing 387 = .ok (.aload_n 0, 1) := by decide +kernel
theorem dX12_readThing_388 : decode cX12_readThing 388 = .ok (.invokevirtual 365, 3) := by decide +kernel
theorem dX12_readThing_391 : decode cX12_readThing 391 = .ok (.bipush 48, 2) := by decide +kernel
theorem dX12_readThing_393 : decode cX12_readThing 393 = .ok (.isub, 1) := by decide +kernel
theorem dX12_readThing_394 : decode cX12_readThing 394 = .ok (.iconst 0, 1) := by decide +kernel
theorem dX12_readThing_395 : decode cX12_readThing 395 = .ok (.invokevirtual 393, 3) := by decide +kernel
theorem dX12_readThing_398 : decode cX12_readThing 398 = .ok (.ifCond .eq 18, 3) := by decide +kernel
theorem dX12_readThing_401 : decode cX12_readThing 401 = .ok (.aload_n 0, 1) := by decide +kernel
theorem dX12_readThing_402 : decode cX12_readThing 402 = .ok (.aload_n 0, 1) := by decide +kernel
theorem dX12_readThing_403 : decode cX12_readThing 403 = .ok (.invokevirtual 365, 3) := by decide +kernel
theorem dX12_readThing_406 : decode cX12_readThing 406 = .ok (.invokevirtual 422, 3) := by decide +kernel
theorem dX12_readThing_409 : decode cX12_readThing 409 = .ok (.ifCond .eq 7, 3) := by decide +kernel
theorem dX12_readThing_412 : decode cX12_readThing 412 = .ok (.iconst 1, 1) := by decide +kernel
theorem dX12_readThing_413 : decode cX12_readThing 413 = .ok (.goto 4, 3) := by decide +kernel
theorem dX12_readThing_416 : decode cX12_readThing 416 = .ok (.iconst 0, 1) := by decide +kernel
theorem dX12_readThing_417 : decode cX12_readThing 417 = .ok (.ireturn, 1) := by decide +kernel
theorem dX12_readThing_418 : decode cX12_readThing 418 = .ok (.aload_n 0, 1) := by decide +kernel
theorem dX12_readThing_419 : decode cX12_readThing 419 = .ok (.invokevirtual 428, 3) := by decide +kernel
theorem dX12_readThing_422 : decode cX12_readThing 422 = .ok (.ireturn, 1) := by decide +kernel
theorem dX12_readThing_423 : decode cX12_readThing 423 = .ok (.aload_n 0, 1) := by decide +kernel
theorem dX12_readThing_424 : decode cX12_readThing 424 = .ok (.iload_n 1, 1) := by decide +kernel
theorem dX12_readThing_425 : decode cX12_readThing 425 = .ok (.invokevirtual 431, 3) := by decide +kernel
theorem dX12_readThing_428 : decode cX12_readThing 428 = .ok (.ireturn, 1) := by decide +kernel
theorem dX12_readPlace_0 : decode cX12_readPlace 0 = .ok (.aload_n 0, 1) := by decide +kernel
theorem dX12_readPlace_1 : decode cX12_readPlace 1 = .ok (.dup, 1) := by decide +kernel
theorem dX12_readPlace_2 : decode cX12_readPlace 2 = .ok (.getfield 362, 3) := by decide +kernel
theorem dX12_readPlace_5 : decode cX12_readPlace 5 = .ok (.iconst 1, 1) := by decide +kernel
theorem dX12_readPlace_6 : decode cX12_readPlace 6 = .ok (.iadd, 1) := by decide +kernel
theorem dX12_readPlace_7 : decode cX12_readPlace 7 = .ok (.putfield 362, 3) := by decide +kernel
theorem dX12_readPlace_10 : decode cX12_readPlace 10 = .ok (.aload_n 0, 1) := by decide +kernel
theorem dX12_readPlace_11 : decode cX12_readPlace 11 = .ok (.invokevirtual 365, 3) := by decide +kernel
theorem dX12_readPlace_14 : decode cX12_readPlace 14 = .ok (.bipush 48, 2) := by decide +kernel
theorem dX12_readPlace_16 : decode cX12_readPlace 16 = .ok (.bipush 55, 2) := by decide +kernel
theorem dX12_readPlace_18 : decode cX12_readPlace 18 = .ok (.invokestatic 359, 3) := by decide +kernel
theorem dX12_readPlace_21 : decode cX12_readPlace 21 = .ok (.ifCond .ne 14, 3) := by decide +kernel
theorem dX12_readPlace_24 : decode cX12_readPlace 24 = .ok (.aload_n 0, 1) := by decide +kernel
theorem dX12_readPlace_25 : decode cX12_readPlace 25 = .ok (.aload_n 0, 1) := by decide +kernel
theorem dX12_readPlace_26 : decode cX12_readPlace 26 = .ok (.getfield 362, 3) := by decide +kernel
theorem dX12_readPlace_29 : decode cX12_readPlace 29 = .ok (.invokevirtual 369, 3) := by decide +kernel
theorem dX12_readPlace_32 : decode cX12_readPlace 32 = .ok (.ifCond .eq 7, 3) := by decide +kernel
theorem dX12_readPlace_35 : decode cX12_readPlace 35 = .ok (.iconst 1, 1) := by decide +kernel
theorem dX12_readPlace_36 : decode cX12_readPlace 36 = .ok (.goto 4, 3) := by decide +kernel
theorem dX12_readPlace_39 : decode cX12_readPlace 39 = .ok (.iconst 0, 1) := by decide +kernel
theorem dX12_readPlace_40 : decode cX12_readPlace 40 = .ok (.ireturn, 1) := by decide +kernel
theorem dX12_readLet_0 : decode cX12_readLet 0 = .ok (.aload_n 0, 1) := by decide +kernel
theorem dX12_readLet_1 : decode cX12_readLet 1 = .ok (.dup, 1) := by decide +kernel
theorem dX12_readLet_2 : decode cX12_readLet 2 = .ok (.getfield 362, 3) := by decide +kernel
theorem dX12_readLet_5 : decode cX12_readLet 5 = .ok (.iconst 1, 1) := by decide +kernel
theorem dX12_readLet_6 : decode cX12_readLet 6 = .ok (.iadd, 1) := by decide +kernel
theorem dX12_readLet_7 : decode cX12_readLet 7 = .ok (.putfield 362, 3) := by decide +kernel
theorem dX12_readLet_10 : decode cX12_readLet 10 = .ok (.aload_n 0, 1) := by decide +kernel
theorem dX12_readLet_11 : decode cX12_readLet 11 = .ok (.invokevirtual 365, 3) := by decide +kernel
theorem dX12_readLet_14 : decode cX12_readLet 14 = .ok (.invokestatic 403, 3) := by decide +kernel
theorem dX12_readLet_17 : decode cX12_readLet 17 = .ok (.ifCond .ne 12, 3) := by decide +kernel
theorem dX12_readLet_20 : decode cX12_readLet 20 = .ok (.aload_n 0, 1) := by decide +kernel
theorem dX12_readLet_21 : decode cX12_readLet 21 = .ok (.aload_n 0, 1) := by decide +kernel
theorem dX12_readLet_22 : decode cX12_readLet 22 = .ok (.getfield 362, 3) := by decide +kernel
theorem dX12_readLet_25 : decode cX12_readLet 25 = .ok (.invokevirtual 369, 3) := by decide +kernel
theorem dX12_readLet_28 : decode cX12_readLet 28 = .ok (.ireturn, 1) := by decide +kernel
theorem dX12_readLet_29 : decode cX12_readLet 29 = .ok (.aload_n 0, 1) := by decide +kernel
theorem dX12_readLet_30 : decode cX12_readLet 30 = .ok (.invokevirtual 365, 3) := by decide +kernel
theorem dX12_readLet_33 : decode cX12_readLet 33 = .ok (.bipush 109, 2) := by decide +kernel
theorem dX12_readLet_35 : decode cX12_readLet 35 = .ok (.isub, 1) := by decide +kernel
theorem dX12_readLet_36 : decode cX12_readLet 36 = .ok (.istore_n 1, 1) := by decide +kernel
theorem dX12_readLet_37 : decode cX12_readLet 37 = .ok (.aload_n 0, 1) := by decide +kernel
theorem dX12_readLet_38 : decode cX12_readLet 38 = .ok (.bipush 11, 2) := by decide +kernel
theorem dX12_readLet_40 : decode cX12_readLet 40 = .ok (.iload_n 1, 1) := by decide +kernel
theorem dX12_readLet_41 : decode cX12_readLet 41 = .ok (.iconst 2, 1) := by decide +kernel
theorem dX12_readLet_42 : decode cX12_readLet 42 = .ok (.invokevirtual 419, 3) := by decide +kernel
theorem dX12_readLet_45 : decode cX12_readLet 45 = .ok (.ifCond .eq 16, 3) := by decide +kernel
theorem dX12_readLet_48 : decode cX12_readLet 48 = .ok (.aload_n 0, 1) := by decide +kernel
theorem dX12_readLet_49 : decode cX12_readLet 49 = .ok (.bipush 61, 2) := by decide +kernel
theorem dX12_readLet_51 : decode cX12_readLet 51 = .ok (.invokevirtual 422, 3) := by decide +kernel
theorem dX12_readLet_54 : decode cX12_readLet 54 = .ok (.ifCond .eq 7, 3) := by decide +kernel
theorem dX12_readLet_57 : decode cX12_readLet 57 = .ok (.iconst 1, 1) := by decide +kernel
theorem dX12_readLet_58 : decode cX12_readLet 58 = .ok (.goto 4, 3) := by decide +kernel
theorem dX12_readLet_61 : decode cX12_readLet 61 = .ok (.iconst 0, 1) := by decide +kernel
theorem dX12_readLet_62 : decode cX12_readLet 62 = .ok (.ireturn, 1) := by decide +kernel
theorem dX12_readCall_0 : decode cX12_readCall 0 = .ok (.aload_n 0, 1) := by decide +kernel
theorem dX12_readCall_1 : decode cX12_readCall 1 = .ok (.bipush 12, 2) := by decide +kernel
theorem dX12_readCall_3 : decode cX12_readCall 3 = .ok (.iload_n 1, 1) := by decide +kernel
theorem dX12_readCall_4 : decode cX12_readCall 4 = .ok (.bipush 97, 2) := by decide +kernel
theorem dX12_readCall_6 : decode cX12_readCall 6 = .ok (.isub, 1) := by decide +kernel
theorem dX12_readCall_7 : decode cX12_readCall 7 = .ok (.iconst 1, 1) := by decide +kernel
theorem dX12_readCall_8 : decode cX12_readCall 8 = .ok (.iadd, 1) := by decide +kernel
theorem dX12_readCall_9 : decode cX12_readCall 9 = .ok (.iconst 0, 1) := by decide +kernel
theorem dX12_readCall_10 : decode cX12_readCall 10 = .ok (.invokevirtual 419, 3) := by decide +kernel
theorem dX12_readCall_13 : decode cX12_readCall 13 = .ok (.ifCond .eq 16, 3) := by decide +kernel
theorem dX12_readCall_16 : decode cX12_readCall 16 = .ok (.aload_n 0, 1) := by decide +kernel
theorem dX12_readCall_17 : decode cX12_readCall 17 = .ok (.bipush 40, 2) := by decide +kernel
theorem dX12_readCall_19 : decode cX12_readCall 19 = .ok (.invokevirtual 422, 3) := by decide +kernel
theorem dX12_readCall_22 : decode cX12_readCall 22 = .ok (.ifCond .eq 7, 3) := by decide +kernel
theorem dX12_readCall_25 : decode cX12_readCall 25 = .ok (.iconst 1, 1) := by decide +kernel
theorem dX12_readCall_26 : decode cX12_readCall 26 = .ok (.goto 4, 3) := by decide +kernel
theorem dX12_readCall_29 : decode cX12_readCall 29 = .ok (.iconst 0, 1) := by decide +kernel
theorem dX12_readCall_30 : decode cX12_readCall 30 = .ok (.istore_n 2, 1) := by decide +kernel
theorem dX12_readCall_31 : decode cX12_readCall 31 = .ok (.iload_n 2, 1) := by decide +kernel
theorem dX12_readCall_32 : decode cX12_readCall 32 = .ok (.ifCond .eq 32, 3) := by decide +kernel
theorem dX12_readCall_35 : decode cX12_readCall 35 = .ok (.aload_n 0, 1) := by decide +kernel
theorem dX12_readCall_36 : decode cX12_readCall 36 = .ok (.invokevirtual 365, 3) := by decide +kernel
theorem dX12_readCall_39 : decode cX12_readCall 39 = .ok (.bipush 41, 2) := by decide +kernel
theorem dX12_readCall_41 : decode cX12_readCall 41 = .ok (.if_icmp .ne 23, 3) := by decide +kernel
theorem dX12_readCall_44 : decode cX12_readCall 44 = .ok (.aload_n 0, 1) := by decide +kernel
theorem dX12_readCall_45 : decode cX12_readCall 45 = .ok (.dup, 1) := by decide +kernel
theorem dX12_readCall_46 : decode cX12_readCall 46 = .ok (.getfield 362, 3) := by decide +kernel
theorem dX12_readCall_49 : decode cX12_readCall 49 = .ok (.iconst 1, 1) := by decide +kernel
theorem dX12_readCall_50 : decode cX12_readCall 50 = .ok (.iadd, 1) := by decide +kernel
theorem dX12_readCall_51 : decode cX12_readCall 51 = .ok (.putfield 362, 3) := by decide +kernel
theorem dX12_readCall_54 : decode cX12_readCall 54 = .ok (.aload_n 0, 1) := by decide +kernel
theorem dX12_readCall_55 : decode cX12_readCall 55 = .ok (.dup, 1) := by decide +kernel
theorem dX12_readCall_56 : decode cX12_readCall 56 = .ok (.getfield 390, 3) := by decide +kernel
theorem dX12_readCall_59 : decode cX12_readCall 59 = .ok (.iconst 1, 1) := by decide +kernel
theorem dX12_readCall_60 : decode cX12_readCall 60 = .ok (.isub, 1) := by decide +kernel
theorem dX12_readCall_61 : decode cX12_readCall 61 = .ok (.putfield 390, 3) := by decide +kernel
theorem dX12_readCall_64 : decode cX12_readCall 64 = .ok (.iload_n 2, 1) := by decide +kernel
theorem dX12_readCall_65 : decode cX12_readCall 65 = .ok (.ireturn, 1) := by decide +kernel
theorem dX12_hasMore_0 : decode cX12_hasMore 0 = .ok (.aload_n 0, 1) := by decide +kernel
theorem dX12_hasMore_1 : decode cX12_hasMore 1 = .ok (.getfield 390, 3) := by decide +kernel
theorem dX12_hasMore_4 : decode cX12_hasMore 4 = .ok (.ifCond .le 197, 3) := by decide +kernel
theorem dX12_hasMore_7 : decode cX12_hasMore 7 = .ok (.aload_n 0, 1) := by decide +kernel
theorem dX12_hasMore_8 : decode cX12_hasMore 8 = .ok (.getfield 69, 3) := by decide +kernel
theorem dX12_hasMore_11 : decode cX12_hasMore 11 = .ok (.aload_n 0, 1) := by decide +kernel
theorem dX12_hasMore_12 : decode cX12_hasMore 12 = .ok (.getfield 390, 3) := by decide +kernel
theorem dX12_hasMore_15 : decode cX12_hasMore 15 = .ok (.iconst 1, 1) := by decide +kernel
theorem dX12_hasMore_16 : decode cX12_hasMore 16 = .ok (.isub, 1) := by decide +kernel
theorem dX12_hasMore_17 : decode cX12_hasMore 17 = .ok (.iaload, 1) := by decide +kernel
theorem dX12_hasMore_18 : decode cX12_hasMore 18 = .ok (.istore_n 1, 1) := by decide +kernel
theorem dX12_hasMore_19 : decode cX12_hasMore 19 = .ok (.aload_n 0, 1) := by decide +kernel
theorem dX12_hasMore_20 : decode cX12_hasMore 20 = .ok (.getfield 72, 3) := by decide +kernel
theorem dX12_hasMore_23 : decode cX12_hasMore 23 = .ok (.aload_n 0, 1) := by decide +kernel
theorem dX12_hasMore_24 : decode cX12_hasMore 24 = .ok (.getfield 390, 3) := by decide +kernel
theorem dX12_hasMore_27 : decode cX12_hasMore 27 = .ok (.iconst 1, 1) := by decide +kernel
theorem dX12_hasMore_28 : decode cX12_hasMore 28 = .ok (.isub, 1) := by decide +kernel
theorem dX12_hasMore_29 : decode cX12_hasMore 29 = .ok (.dup2, 1) := by decide +kernel
theorem dX12_hasMore_30 : decode cX12_hasMore 30 = .ok (.iaload, 1) := by decide +kernel
theorem dX12_hasMore_31 : decode cX12_hasMore 31 = .ok (.iconst 1, 1) := by decide +kernel
theorem dX12_hasMore_32 : decode cX12_hasMore 32 = .ok (.iadd, 1) := by decide +kernel
theorem dX12_hasMore_33 : decode cX12_hasMore 33 = .ok (.iastore, 1) := by decide +kernel
theorem dX12_hasMore_34 : decode cX12_hasMore 34 = .ok (.aload_n 0, 1) := by decide +kernel
theorem dX12_hasMore_35 : decode cX12_hasMore 35 = .ok (.getfield 72, 3) := by decide +kernel
theorem dX12_hasMore_38 : decode cX12_hasMore 38 = .ok (.aload_n 0, 1) := by decide +kernel
theorem dX12_hasMore_39 : decode cX12_hasMore 39 = .ok (.getfield 390, 3) := by decide +kernel
theorem dX12_hasMore_42 : decode cX12_hasMore 42 = .ok (.iconst 1, 1) := by decide +kernel
theorem dX12_hasMore_43 : decode cX12_hasMore 43 = .ok (.isub, 1) := by decide +kernel
theorem dX12_hasMore_44 : decode cX12_hasMore 44 = .ok (.iaload, 1) := by decide +kernel
theorem dX12_hasMore_45 : decode cX12_hasMore 45 = .ok (.istore_n 2, 1) := by decide +kernel
theorem dX12_hasMore_46 : decode cX12_hasMore 46 = .ok (.aload_n 0, 1) := by decide +kernel
theorem dX12_hasMore_47 : decode cX12_hasMore 47 = .ok (.getfield 60, 3) := by decide +kernel
theorem dX12_hasMore_50 : decode cX12_hasMore 50 = .ok (.iload_n 1, 1) := by decide +kernel
theorem dX12_hasMore_51 : decode cX12_hasMore 51 = .ok (.iaload, 1) := by decide +kernel
theorem dX12_hasMore_52 : decode cX12_hasMore 52 = .ok (.istore_n 3, 1) := by decide +kernel
theorem dX12_hasMore_53 : decode cX12_hasMore 53 = .ok (.iload_n 3, 1) := by decide +kernel
theorem dX12_hasMore_54 : decode cX12_hasMore 54 = .ok (.bipush 12, 2) := by decide +kernel
theorem dX12_hasMore_56 : decode cX12_hasMore 56 = .ok (.if_icmp .ne 29, 3) := by decide +kernel
theorem dX12_hasMore_59 : decode cX12_hasMore 59 = .ok (.aload_n 0, 1) := by decide +kernel
theorem dX12_hasMore_60 : decode cX12_hasMore 60 = .ok (.invokevirtual 365, 3) := by decide +kernel
theorem dX12_hasMore_63 : decode cX12_hasMore 63 = .ok (.bipush 44, 2) := by decide +kernel
theorem dX12_hasMore_65 : decode cX12_hasMore 65 = .ok (.if_icmp .ne 20, 3) := by decide +kernel
theorem dX12_hasMore_68 : decode cX12_hasMore 68 = .ok (.iload_n 2, 1) := by decide +kernel
theorem dX12_hasMore_69 : decode cX12_hasMore 69 = .ok (.iconst 5, 1) := by decide +kernel
theorem dX12_hasMore_70 : decode cX12_hasMore 70 = .ok (.if_icmp .ge 15, 3) := by decide +kernel
theorem dX12_hasMore_73 : decode cX12_hasMore 73 = .ok (.aload_n 0, 1) := by decide +kernel
theorem dX12_hasMore_74 : decode cX12_hasMore 74 = .ok (.dup, 1) := by decide +kernel
theorem dX12_hasMore_75 : decode cX12_hasMore 75 = .ok (.getfield 362, 3) := by decide +kernel
theorem dX12_hasMore_78 : decode cX12_hasMore 78 = .ok (.iconst 1, 1) := by decide +kernel
theorem dX12_hasMore_79 : decode cX12_hasMore 79 = .ok (.iadd, 1) := by decide +kernel
theorem dX12_hasMore_80 : decode cX12_hasMore 80 = .ok (.putfield 362, 3) := by decide +kernel
theorem dX12_hasMore_83 : decode cX12_hasMore 83 = .ok (.iconst 1, 1) := by decide +kernel
theorem dX12_hasMore_84 : decode cX12_hasMore 84 = .ok (.ireturn, 1) := by decide +kernel
theorem dX12_hasMore_85 : decode cX12_hasMore 85 = .ok (.iload_n 3, 1) := by decide +kernel
theorem dX12_hasMore_86 : decode cX12_hasMore 86 = .ok (.bipush 12, 2) := by decide +kernel
theorem dX12_hasMore_88 : decode cX12_hasMore 88 = .ok (.if_icmp .ne 10, 3) := by decide +kernel
theorem dX12_hasMore_91 : decode cX12_hasMore 91 = .ok (.aload_n 0, 1) := by decide +kernel
theorem dX12_hasMore_92 : decode cX12_hasMore 92 = .ok (.getfield 66, 3) := by decide +kernel
theorem dX12_hasMore_95 : decode cX12_hasMore 95 = .ok (.iload_n 1, 1) := by decide +kernel
theorem dX12_hasMore_96 : decode cX12_hasMore 96 = .ok (.iload_n 2, 1) := by decide +kernel
theorem dX12_hasMore_97 : decode cX12_hasMore 97 = .ok (.iastore, 1) := by decide +kernel
theorem dX12_hasMore_98 : decode cX12_hasMore 98 = .ok (.iload_n 2, 1) := by decide +kernel
theorem dX12_hasMore_99 : decode cX12_hasMore 99 = .ok (.aload_n 0, 1) := by decide +kernel
theorem dX12_hasMore_100 : decode cX12_hasMore 100 = .ok (.getfield 66, 3) := by decide +kernel
theorem dX12_hasMore_103 : decode cX12_hasMore 103 = .ok (.iload_n 1, 1) := by decide +kernel
theorem dX12_hasMore_104 : decode cX12_hasMore 104 = .ok (.iaload, 1) := by decide +kernel
theorem dX12_hasMore_105 : decode cX12_hasMore 105 = .ok (.if_icmp .ge 10, 3) := by decide +kernel
theorem dX12_hasMore_108 : decode cX12_hasMore 108 = .ok (.aload_n 0, 1) := by decide +kernel
theorem dX12_hasMore_109 : decode cX12_hasMore 109 = .ok (.iload_n 1, 1) := by decide +kernel
theorem dX12_hasMore_110 : decode cX12_hasMore 110 = .ok (.iload_n 3, 1) := by decide +kernel
theorem dX12_hasMore_111 : decode cX12_hasMore 111 = .ok (.invokevirtual 434, 3) := by decide +kernel
theorem dX12_hasMore_114 : decode cX12_hasMore 114 = .ok (.ireturn, 1) := by decide +kernel
theorem dX12_hasMore_115 : decode cX12_hasMore 115 = .ok (.iload_n 3, 1) := by decide +kernel
theorem dX12_hasMore_116 : decode cX12_hasMore 116 = .ok (.iconst 5, 1) := by decide +kernel
theorem dX12_hasMore_117 : decode cX12_hasMore 117 = .ok (.if_icmp .eq 15, 3) := by decide +kernel
theorem dX12_hasMore_120 : decode cX12_hasMore 120 = .ok (.iload_n 3, 1) := by decide +kernel
theorem dX12_hasMore_121 : decode cX12_hasMore 121 = .ok (.bipush 7, 2) := by decide +kernel
theorem dX12_hasMore_123 : decode cX12_hasMore 123 = .ok (.if_icmp .eq 9, 3) := by decide +kernel
theorem dX12_hasMore_126 : decode cX12_hasMore 126 = .ok (.iload_n 3, 1) := by decide +kernel
theorem dX12_hasMore_127 : decode cX12_hasMore 127 = .ok (.bipush 12, 2) := by decide +kernel
theorem dX12_hasMore_129 : decode cX12_hasMore 129 = .ok (.if_icmp .ne 8, 3) := by decide +kernel
theorem dX12_hasMore_132 : decode cX12_hasMore 132 = .ok (.bipush 41, 2) := by decide +kernel
theorem dX12_hasMore_134 : decode cX12_hasMore 134 = .ok (.goto 14, 3) := by decide +kernel
theorem dX12_hasMore_137 : decode cX12_hasMore 137 = .ok (.iload_n 3, 1) := by decide +kernel
theorem dX12_hasMore_138 : decode cX12_hasMore 138 = .ok (.iconst 2, 1) := by decide +kernel
theorem dX12_hasMore_139 : decode cX12_hasMore 139 = .ok (.if_icmp .ne 8, 3) := by decide +kernel
theorem dX12_hasMore_142 : decode cX12_hasMore 142 = .ok (.bipush 93, 2) := by decide +kernel
theorem dX12_hasMore_144 : decode cX12_hasMore 144 = .ok (.goto 4, 3) := by decide +kernel
theorem dX12_hasMore_147 : decode cX12_hasMore 147 = .ok (.iconst (-1), 1) := by decide +kernel
theorem dX12_hasMore_148 : decode cX12_hasMore 148 = .ok (.istore 4, 2) := by decide +kernel
theorem dX12_hasMore_150 : decode cX12_hasMore 150 = .ok (.iload 4, 2) := by decide +kernel
theorem dX12_hasMore_152 : decode cX12_hasMore 152 = .ok (.iconst (-1), 1) := by decide +kernel
theorem dX12_hasMore_153 : decode cX12_hasMore 153 = .ok (.if_icmp .eq 14, 3) := by decide +kernel
theorem dX12_hasMore_156 : decode cX12_hasMore 156 = .ok (.aload_n 0, 1) := by decide +kernel
theorem dX12_hasMore_157 : decode cX12_hasMore 157 = .ok (.iload 4, 2) := by decide +kernel
theorem dX12_hasMore_159 : decode cX12_hasMore 159 = .ok (.invokevirtual 422, 3) := by decide +kernel
theorem dX12_hasMore_162 : decode cX12_hasMore 162 = .ok (.ifCond .ne 5, 3) := by decide +kernel
theorem dX12_hasMore_165 : decode cX12_hasMore 165 = .ok (.iconst 0, 1) := by decide +kernel
theorem dX12_hasMore_166 : decode cX12_hasMore 166 = .ok (.ireturn, 1) := by decide +kernel
theorem dX12_hasMore_167 : decode cX12_hasMore 167 = .ok (.iload_n 3, 1) := by decide +kernel
theorem dX12_hasMore_168 : decode cX12_hasMore 168 = .ok (.bipush 11, 2) := by decide +kernel
theorem dX12_hasMore_170 : decode cX12_hasMore 170 = .ok (.if_icmp .ne 18, 3) := by decide +kernel
theorem dX12_hasMore_173 : decode cX12_hasMore 173 = .ok (.aload_n 0, 1) := by decide +kernel
theorem dX12_hasMore_174 : decode cX12_hasMore 174 = .ok (.getfield 75, 3) := by decide +kernel
theorem dX12_hasMore_177 : decode cX12_hasMore 177 = .ok (.aload_n 0, 1) := by decide +kernel
theorem dX12_hasMore_178 : decode cX12_hasMore 178 = .ok (.getfield 63, 3) := by decide +kernel
theorem dX12_hasMore_181 : decode cX12_hasMore 181 = .ok (.iload_n 1, 1) := by decide +kernel
theorem dX12_hasMore_182 : decode cX12_hasMore 182 = .ok (.iaload, 1) := by decide +kernel
theorem dX12_hasMore_183 : decode cX12_hasMore 183 = .ok (.dup2, 1) := by decide +kernel
theorem dX12_hasMore_184 : decode cX12_hasMore 184 = .ok (.iaload, 1) := by decide +kernel
theorem dX12_hasMore_185 : decode cX12_hasMore 185 = .ok (.iconst 1, 1) := by decide +kernel
theorem dX12_hasMore_186 : decode cX12_hasMore 186 = .ok (.isub, 1) := by decide +kernel
theorem dX12_hasMore_187 : decode cX12_hasMore 187 = .ok (.iastore, 1) := by decide +kernel
theorem dX12_hasMore_188 : decode cX12_hasMore 188 = .ok (.aload_n 0, 1) := by decide +kernel
theorem dX12_hasMore_189 : decode cX12_hasMore 189 = .ok (.dup, 1) := by decide +kernel
theorem dX12_hasMore_190 : decode cX12_hasMore 190 = .ok (.getfield 390, 3) := by decide +kernel
theorem dX12_hasMore_193 : decode cX12_hasMore 193 = .ok (.iconst 1, 1) := by decide +kernel
theorem dX12_hasMore_194 : decode cX12_hasMore 194 = .ok (.isub, 1) := by decide +kernel
theorem dX12_hasMore_195 : decode cX12_hasMore 195 = .ok (.putfield 390, 3) := by decide +kernel
theorem dX12_hasMore_198 : decode cX12_hasMore 198 = .ok (.goto (-198), 3) := by decide +kernel
theorem dX12_hasMore_201 : decode cX12_hasMore 201 = .ok (.iconst 0, 1) := by decide +kernel
theorem dX12_hasMore_202 : decode cX12_hasMore 202 = .ok (.ireturn, 1) := by decide +kernel
theorem dX12_goesOn_0 : decode cX12_goesOn 0 = .ok (.iload_n 2, 1) := by decide +kernel
theorem dX12_goesOn_1 : decode cX12_goesOn 1 = .ok (.iconst 5, 1) := by decide +kernel
theorem dX12_goesOn_2 : decode cX12_goesOn 2 = .ok (.if_icmp .ne 44, 3) := by decide +kernel
theorem dX12_goesOn_5 : decode cX12_goesOn 5 = .ok (.aload_n 0, 1) := by decide +kernel
theorem dX12_goesOn_6 : decode cX12_goesOn 6 = .ok (.invokevirtual 365, 3) := by decide +kernel
theorem dX12_goesOn_9 : decode cX12_goesOn 9 = .ok (.invokestatic 345, 3) := by decide +kernel
theorem dX12_goesOn_12 : decode cX12_goesOn 12 = .ok (.ifCond .ne 12, 3) := by decide +kernel
theorem dX12_goesOn_15 : decode cX12_goesOn 15 = .ok (.aload_n 0, 1) := by decide +kernel
theorem dX12_goesOn_16 : decode cX12_goesOn 16 = .ok (.aload_n 0, 1) := by decide +kernel
theorem dX12_goesOn_17 : decode cX12_goesOn 17 = .ok (.getfield 362, 3) := by decide +kernel
theorem dX12_goesOn_20 : decode cX12_goesOn 20 = .ok (.invokevirtual 369, 3) := by decide +kernel
theorem dX12_goesOn_23 : decode cX12_goesOn 23 = .ok (.ireturn, 1) := by decide +kernel
theorem dX12_goesOn_24 : decode cX12_goesOn 24 = .ok (.aload_n 0, 1) := by decide +kernel
theorem dX12_goesOn_25 : decode cX12_goesOn 25 = .ok (.getfield 63, 3) := by decide +kernel
theorem dX12_goesOn_28 : decode cX12_goesOn 28 = .ok (.iload_n 1, 1) := by decide +kernel
theorem dX12_goesOn_29 : decode cX12_goesOn 29 = .ok (.aload_n 0, 1) := by decide +kernel
theorem dX12_goesOn_30 : decode cX12_goesOn 30 = .ok (.invokevirtual 365, 3) := by decide +kernel
theorem dX12_goesOn_33 : decode cX12_goesOn 33 = .ok (.iastore, 1) := by decide +kernel
theorem dX12_goesOn_34 : decode cX12_goesOn 34 = .ok (.aload_n 0, 1) := by decide +kernel
theorem dX12_goesOn_35 : decode cX12_goesOn 35 = .ok (.dup, 1) := by decide +kernel
theorem dX12_goesOn_36 : decode cX12_goesOn 36 = .ok (.getfield 362, 3) := by decide +kernel
theorem dX12_goesOn_39 : decode cX12_goesOn 39 = .ok (.iconst 1, 1) := by decide +kernel
theorem dX12_goesOn_40 : decode cX12_goesOn 40 = .ok (.iadd, 1) := by decide +kernel
theorem dX12_goesOn_41 : decode cX12_goesOn 41 = .ok (.putfield 362, 3) := by decide +kernel
theorem dX12_goesOn_44 : decode cX12_goesOn 44 = .ok (.iconst 1, 1) := by decide +kernel
theorem dX12_goesOn_45 : decode cX12_goesOn 45 = .ok (.ireturn, 1) := by decide +kernel
theorem dX12_goesOn_46 : decode cX12_goesOn 46 = .ok (.iload_n 2, 1) := by decide +kernel
theorem dX12_goesOn_47 : decode cX12_goesOn 47 = .ok (.bipush 11, 2) := by decide +kernel
theorem dX12_goesOn_49 : decode cX12_goesOn 49 = .ok (.if_icmp .ne 18, 3) := by decide +kernel
theorem dX12_goesOn_52 : decode cX12_goesOn 52 = .ok (.aload_n 0, 1) := by decide +kernel
theorem dX12_goesOn_53 : decode cX12_goesOn 53 = .ok (.getfield 75, 3) := by decide +kernel
theorem dX12_goesOn_56 : decode cX12_goesOn 56 = .ok (.aload_n 0, 1) := by decide +kernel
theorem dX12_goesOn_57 : decode cX12_goesOn 57 = .ok (.getfield 63, 3) := by decide +kernel
theorem dX12_goesOn_60 : decode cX12_goesOn 60 = .ok (.iload_n 1, 1) := by decide +kernel
theorem dX12_goesOn_61 : decode cX12_goesOn 61 = .ok (.iaload, 1) := by decide +kernel
theorem dX12_goesOn_62 : decode cX12_goesOn 62 = .ok (.dup2, 1) := by decide +kernel
theorem dX12_goesOn_63 : decode cX12_goesOn 63 = .ok (.iaload, 1) := by decide +kernel
theorem dX12_goesOn_64 : decode cX12_goesOn 64 = .ok (.iconst 1, 1) := by decide +kernel
theorem dX12_goesOn_65 : decode cX12_goesOn 65 = .ok (.iadd, 1) := by decide +kernel
theorem dX12_goesOn_66 : decode cX12_goesOn 66 = .ok (.iastore, 1) := by decide +kernel
theorem dX12_goesOn_67 : decode cX12_goesOn 67 = .ok (.aload_n 0, 1) := by decide +kernel
theorem dX12_goesOn_68 : decode cX12_goesOn 68 = .ok (.bipush 44, 2) := by decide +kernel
theorem dX12_goesOn_70 : decode cX12_goesOn 70 = .ok (.invokevirtual 422, 3) := by decide +kernel
theorem dX12_goesOn_73 : decode cX12_goesOn 73 = .ok (.ireturn, 1) := by decide +kernel
theorem dX12_readExpression_0 : decode cX12_readExpression 0 = .ok (.aload_n 0, 1) := by decide +kernel
theorem dX12_readExpression_1 : decode cX12_readExpression 1 = .ok (.iconst 0, 1) := by decide +kernel
theorem dX12_readExpression_2 : decode cX12_readExpression 2 = .ok (.putfield 390, 3) := by decide +kernel
theorem dX12_readExpression_5 : decode cX12_readExpression 5 = .ok (.iconst 1, 1) := by decide +kernel
theorem dX12_readExpression_6 : decode cX12_readExpression 6 = .ok (.istore_n 1, 1) := by decide +kernel
theorem dX12_readExpression_7 : decode cX12_readExpression 7 = .ok (.iload_n 1, 1) := by decide +kernel
theorem dX12_readExpression_8 : decode cX12_readExpression 8 = .ok (.ifCond .eq 68, 3) := by decide +kernel
theorem dX12_readExpression_11 : decode cX12_readExpression 11 = .ok (.aload_n 0, 1) := by decide +kernel
theorem dX12_readExpression_12 : decode cX12_readExpression 12 = .ok (.getfield 390, 3) := by decide +kernel
theorem dX12_readExpression_15 : decode cX12_readExpression 15 = .ok (.istore_n 2, 1) := by decide +kernel
theorem dX12_readExpression_16 : decode cX12_readExpression 16 = .ok (.aload_n 0, 1) := by decide +kernel
theorem dX12_readExpression_17 : decode cX12_readExpression 17 = .ok (.getfield 387, 3) := by decide +kernel
theorem dX12_readExpression_20 : decode cX12_readExpression 20 = .ok (.istore_n 3, 1) := by decide +kernel
theorem dX12_readExpression_21 : decode cX12_readExpression 21 = .ok (.aload_n 0, 1) := by decide +kernel
theorem dX12_readExpression_22 : decode cX12_readExpression 22 = .ok (.invokevirtual 437, 3) := by decide +kernel
theorem dX12_readExpression_25 : decode cX12_readExpression 25 = .ok (.ifCond .ne 5, 3) := by decide +kernel
theorem dX12_readExpression_28 : decode cX12_readExpression 28 = .ok (.iconst 0, 1) := by decide +kernel
theorem dX12_readExpression_29 : decode cX12_readExpression 29 = .ok (.ireturn, 1) := by decide +kernel
theorem dX12_readExpression_30 : decode cX12_readExpression 30 = .ok (.aload_n 0, 1) := by decide +kernel
theorem dX12_readExpression_31 : decode cX12_readExpression 31 = .ok (.getfield 390, 3) := by decide +kernel
theorem dX12_readExpression_34 : decode cX12_readExpression 34 = .ok (.iload_n 2, 1) := by decide +kernel
theorem dX12_readExpression_35 : decode cX12_readExpression 35 = .ok (.if_icmp .le 7, 3) := by decide +kernel
theorem dX12_readExpression_38 : decode cX12_readExpression 38 = .ok (.iconst 1, 1) := by decide +kernel
theorem dX12_readExpression_39 : decode cX12_readExpression 39 = .ok (.goto 4, 3) := by decide +kernel
theorem dX12_readExpression_42 : decode cX12_readExpression 42 = .ok (.iconst 0, 1) := by decide +kernel
theorem dX12_readExpression_43 : decode cX12_readExpression 43 = .ok (.istore 4, 2) := by decide +kernel
theorem dX12_readExpression_45 : decode cX12_readExpression 45 = .ok (.iload 4, 2) := by decide +kernel
theorem dX12_readExpression_47 : decode cX12_readExpression 47 = .ok (.ifCond .ne 10, 3) := by decide +kernel
theorem dX12_readExpression_50 : decode cX12_readExpression 50 = .ok (.aload_n 0, 1) := by decide +kernel
theorem dX12_readExpression_51 : decode cX12_readExpression 51 = .ok (.invokevirtual 440, 3) := by decide +kernel
theorem dX12_readExpression_54 : decode cX12_readExpression 54 = .ok (.ifCond .eq 7, 3) := by decide +kernel
theorem dX12_readExpression_57 : decode cX12_readExpression 57 = .ok (.iconst 1, 1) := by decide +kernel
theorem dX12_readExpression_58 : decode cX12_readExpression 58 = .ok (.goto 4, 3) := by decide +kernel
theorem dX12_readExpression_61 : decode cX12_readExpression 61 = .ok (.iconst 0, 1) := by decide +kernel
theorem dX12_readExpression_62 : decode cX12_readExpression 62 = .ok (.istore_n 1, 1) := by decide +kernel
theorem dX12_readExpression_63 : decode cX12_readExpression 63 = .ok (.aload_n 0, 1) := by decide +kernel
theorem dX12_readExpression_64 : decode cX12_readExpression 64 = .ok (.getfield 13, 3) := by decide +kernel
theorem dX12_readExpression_67 : decode cX12_readExpression 67 = .ok (.iconst (-1), 1) := by decide +kernel
theorem dX12_readExpression_68 : decode cX12_readExpression 68 = .ok (.if_icmp .eq 5, 3) := by decide +kernel
theorem dX12_readExpression_71 : decode cX12_readExpression 71 = .ok (.iconst 0, 1) := by decide +kernel
theorem dX12_readExpression_72 : decode cX12_readExpression 72 = .ok (.ireturn, 1) := by decide +kernel
theorem dX12_readExpression_73 : decode cX12_readExpression 73 = .ok (.goto (-66), 3) := by decide +kernel
theorem dX12_readExpression_76 : decode cX12_readExpression 76 = .ok (.iconst 1, 1) := by decide +kernel
theorem dX12_readExpression_77 : decode cX12_readExpression 77 = .ok (.ireturn, 1) := by decide +kernel
theorem dX12_readVars_0 : decode cX12_readVars 0 = .ok (.iconst 0, 1) := by decide +kernel
theorem dX12_readVars_1 : decode cX12_readVars 1 = .ok (.istore_n 1, 1) := by decide +kernel
theorem dX12_readVars_2 : decode cX12_readVars 2 = .ok (.iconst 0, 1) := by decide +kernel
theorem dX12_readVars_3 : decode cX12_readVars 3 = .ok (.istore_n 2, 1) := by decide +kernel
theorem dX12_readVars_4 : decode cX12_readVars 4 = .ok (.iload_n 2, 1) := by decide +kernel
theorem dX12_readVars_5 : decode cX12_readVars 5 = .ok (.bipush 14, 2) := by decide +kernel
theorem dX12_readVars_7 : decode cX12_readVars 7 = .ok (.if_icmp .ge 16, 3) := by decide +kernel
theorem dX12_readVars_10 : decode cX12_readVars 10 = .ok (.aload_n 0, 1) := by decide +kernel
theorem dX12_readVars_11 : decode cX12_readVars 11 = .ok (.getfield 75, 3) := by decide +kernel
theorem dX12_readVars_14 : decode cX12_readVars 14 = .ok (.iload_n 2, 1) := by decide +kernel
theorem dX12_readVars_15 : decode cX12_readVars 15 = .ok (.iconst 0, 1) := by decide +kernel
theorem dX12_readVars_16 : decode cX12_readVars 16 = .ok (.iastore, 1) := by decide +kernel
theorem dX12_readVars_17 : decode cX12_readVars 17 = .ok (.iinc 2 1, 3) := by decide +kernel
theorem dX12_readVars_20 : decode cX12_readVars 20 = .ok (.goto (-16), 3) := by decide +kernel
theorem dX12_readVars_23 : decode cX12_readVars 23 = .ok (.aload_n 0, 1) := by decide +kernel
theorem dX12_readVars_24 : decode cX12_readVars 24 = .ok (.getfield 48, 3) := by decide +kernel
theorem dX12_readVars_27 : decode cX12_readVars 27 = .ok (.aload_n 0, 1) := by decide +kernel
theorem dX12_readVars_28 : decode cX12_readVars 28 = .ok (.getfield 413, 3) := by decide +kernel
theorem dX12_readVars_31 : decode cX12_readVars 31 = .ok (.iconst 0, 1) := by decide +kernel
theorem dX12_readVars_32 : decode cX12_readVars 32 = .ok (.iastore, 1) := by decide +kernel
theorem dX12_readVars_33 : decode cX12_readVars 33 = .ok (.aload_n 0, 1) := by decide +kernel
theorem dX12_readVars_34 : decode cX12_readVars 34 = .ok (.invokevirtual 365, 3) := by decide +kernel
theorem dX12_readVars_37 : decode cX12_readVars 37 = .ok (.bipush 41, 2) := by decide +kernel
theorem dX12_readVars_39 : decode cX12_readVars 39 = .ok (.if_icmp .ne 5, 3) := by decide +kernel
theorem dX12_readVars_42 : decode cX12_readVars 42 = .ok (.iconst 1, 1) := by decide +kernel
theorem dX12_readVars_43 : decode cX12_readVars 43 = .ok (.ireturn, 1) := by decide +kernel
theorem dX12_readVars_44 : decode cX12_readVars 44 = .ok (.iconst 1, 1) := by decide +kernel
theorem dX12_readVars_45 : decode cX12_readVars 45 = .ok (.istore_n 2, 1) := by decide +kernel
theorem dX12_readVars_46 : decode cX12_readVars 46 = .ok (.iload_n 2, 1) := by decide +kernel
theorem dX12_readVars_47 : decode cX12_readVars 47 = .ok (.ifCond .eq 116, 3) := by decide +kernel
theorem dX12_readVars_50 : decode cX12_readVars 50 = .ok (.aload_n 0, 1) := by decide +kernel
theorem dX12_readVars_51 : decode cX12_readVars 51 = .ok (.invokevirtual 365, 3) := by decide +kernel
theorem dX12_readVars_54 : decode cX12_readVars 54 = .ok (.istore_n 3, 1) := by decide +kernel
theorem dX12_readVars_55 : decode cX12_readVars 55 = .ok (.iload_n 3, 1) := by decide +kernel
theorem dX12_readVars_56 : decode cX12_readVars 56 = .ok (.invokestatic 403, 3) := by decide +kernel
theorem dX12_readVars_59 : decode cX12_readVars 59 = .ok (.ifCond .eq 15, 3) := by decide +kernel
theorem dX12_readVars_62 : decode cX12_readVars 62 = .ok (.aload_n 0, 1) := by decide +kernel
theorem dX12_readVars_63 : decode cX12_readVars 63 = .ok (.getfield 75, 3) := by decide +kernel
theorem dX12_readVars_66 : decode cX12_readVars 66 = .ok (.iload_n 3, 1) := by decide +kernel
theorem dX12_readVars_67 : decode cX12_readVars 67 = .ok (.bipush 109, 2) := by decide +kernel
theorem dX12_readVars_69 : decode cX12_readVars 69 = .ok (.isub, 1) := by decide +kernel
theorem dX12_readVars_70 : decode cX12_readVars 70 = .ok (.iaload, 1) := by decide +kernel
theorem dX12_readVars_71 : decode cX12_readVars 71 = .ok (.ifCond .le 12, 3) := by decide +kernel
theorem dX12_readVars_74 : decode cX12_readVars 74 = .ok (.aload_n 0, 1) := by decide +kernel
theorem dX12_readVars_75 : decode cX12_readVars 75 = .ok (.aload_n 0, 1) := by decide +kernel
theorem dX12_readVars_76 : decode cX12_readVars 76 = .ok (.getfield 362, 3) := by decide +kernel
theorem dX12_readVars_79 : decode cX12_readVars 79 = .ok (.invokevirtual 369, 3) := by decide +kernel
theorem dX12_readVars_82 : decode cX12_readVars 82 = .ok (.ireturn, 1) := by decide +kernel
theorem dX12_readVars_83 : decode cX12_readVars 83 = .ok (.aload_n 0, 1) := by decide +kernel
theorem dX12_readVars_84 : decode cX12_readVars 84 = .ok (.getfield 75, 3) := by decide +kernel
theorem dX12_readVars_87 : decode cX12_readVars 87 = .ok (.iload_n 3, 1) := by decide +kernel
theorem dX12_readVars_88 : decode cX12_readVars 88 = .ok (.bipush 109, 2) := by decide +kernel
theorem dX12_readVars_90 : decode cX12_readVars 90 = .ok (.isub, 1) := by decide +kernel
theorem dX12_readVars_91 : decode cX12_readVars 91 = .ok (.dup2, 1) := by decide +kernel
theorem dX12_readVars_92 : decode cX12_readVars 92 = .ok (.iaload, 1) := by decide +kernel
theorem dX12_readVars_93 : decode cX12_readVars 93 = .ok (.iconst 1, 1) := by decide +kernel
theorem dX12_readVars_94 : decode cX12_readVars 94 = .ok (.iadd, 1) := by decide +kernel
theorem dX12_readVars_95 : decode cX12_readVars 95 = .ok (.iastore, 1) := by decide +kernel
theorem dX12_readVars_96 : decode cX12_readVars 96 = .ok (.aload_n 0, 1) := by decide +kernel
theorem dX12_readVars_97 : decode cX12_readVars 97 = .ok (.getfield 51, 3) := by decide +kernel
theorem dX12_readVars_100 : decode cX12_readVars 100 = .ok (.iconst 5, 1) := by decide +kernel
theorem dX12_readVars_101 : decode cX12_readVars 101 = .ok (.aload_n 0, 1) := by decide +kernel
theorem dX12_readVars_102 : decode cX12_readVars 102 = .ok (.getfield 413, 3) := by decide +kernel
theorem dX12_readVars_105 : decode cX12_readVars 105 = .ok (.imul, 1) := by decide +kernel
theorem dX12_readVars_106 : decode cX12_readVars 106 = .ok (.iload_n 1, 1) := by decide +kernel
theorem dX12_readVars_107 : decode cX12_readVars 107 = .ok (.iadd, 1) := by decide +kernel
theorem dX12_readVars_108 : decode cX12_readVars 108 = .ok (.iload_n 3, 1) := by decide +kernel
theorem dX12_readVars_109 : decode cX12_readVars 109 = .ok (.bipush 109, 2) := by decide +kernel
theorem dX12_readVars_111 : decode cX12_readVars 111 = .ok (.isub, 1) := by decide +kernel
theorem dX12_readVars_112 : decode cX12_readVars 112 = .ok (.iastore, 1) := by decide +kernel
theorem dX12_readVars_113 : decode cX12_readVars 113 = .ok (.iinc 1 1, 3) := by decide +kernel
theorem dX12_readVars_116 : decode cX12_readVars 116 = .ok (.aload_n 0, 1) := by decide +kernel
theorem dX12_readVars_117 : decode cX12_readVars 117 = .ok (.dup, 1) := by decide +kernel
theorem dX12_readVars_118 : decode cX12_readVars 118 = .ok (.getfield 362, 3) := by decide +kernel
theorem dX12_readVars_121 : decode cX12_readVars 121 = .ok (.iconst 1, 1) := by decide +kernel
theorem dX12_readVars_122 : decode cX12_readVars 122 = .ok (.iadd, 1) := by decide +kernel
theorem dX12_readVars_123 : decode cX12_readVars 123 = .ok (.putfield 362, 3) := by decide +kernel
theorem dX12_readVars_126 : decode cX12_readVars 126 = .ok (.aload_n 0, 1) := by decide +kernel
theorem dX12_readVars_127 : decode cX12_readVars 127 = .ok (.invokevirtual 365, 3) := by decide +kernel
theorem dX12_readVars_130 : decode cX12_readVars 130 = .ok (.bipush 44, 2) := by decide +kernel
theorem dX12_readVars_132 : decode cX12_readVars 132 = .ok (.if_icmp .ne 12, 3) := by decide +kernel
theorem dX12_readVars_135 : decode cX12_readVars 135 = .ok (.iload_n 1, 1) := by decide +kernel
theorem dX12_readVars_136 : decode cX12_readVars 136 = .ok (.iconst 5, 1) := by decide +kernel
theorem dX12_readVars_137 : decode cX12_readVars 137 = .ok (.if_icmp .ge 7, 3) := by decide +kernel
theorem dX12_readVars_140 : decode cX12_readVars 140 = .ok (.iconst 1, 1) := by decide +kernel
theorem dX12_readVars_141 : decode cX12_readVars 141 = .ok (.goto 4, 3) := by decide +kernel
theorem dX12_readVars_144 : decode cX12_readVars 144 = .ok (.iconst 0, 1) := by decide +kernel
theorem dX12_readVars_145 : decode cX12_readVars 145 = .ok (.istore_n 2, 1) := by decide +kernel
theorem dX12_readVars_146 : decode cX12_readVars 146 = .ok (.iload_n 2, 1) := by decide +kernel
theorem dX12_readVars_147 : decode cX12_readVars 147 = .ok (.ifCond .eq 13, 3) := by decide +kernel
theorem dX12_readVars_150 : decode cX12_readVars 150 = .ok (.aload_n 0, 1) := by decide +kernel
theorem dX12_readVars_151 : decode cX12_readVars 151 = .ok (.dup, 1) := by decide +kernel
theorem dX12_readVars_152 : decode cX12_readVars 152 = .ok (.getfield 362, 3) := by decide +kernel
theorem dX12_readVars_155 : decode cX12_readVars 155 = .ok (.iconst 1, 1) := by decide +kernel
theorem dX12_readVars_156 : decode cX12_readVars 156 = .ok (.iadd, 1) := by decide +kernel
theorem dX12_readVars_157 : decode cX12_readVars 157 = .ok (.putfield 362, 3) := by decide +kernel
theorem dX12_readVars_160 : decode cX12_readVars 160 = .ok (.goto (-114), 3) := by decide +kernel
theorem dX12_readVars_163 : decode cX12_readVars 163 = .ok (.aload_n 0, 1) := by decide +kernel
theorem dX12_readVars_164 : decode cX12_readVars 164 = .ok (.getfield 48, 3) := by decide +kernel
theorem dX12_readVars_167 : decode cX12_readVars 167 = .ok (.aload_n 0, 1) := by decide +kernel
theorem dX12_readVars_168 : decode cX12_readVars 168 = .ok (.getfield 413, 3) := by decide +kernel
theorem dX12_readVars_171 : decode cX12_readVars 171 = .ok (.iload_n 1, 1) := by decide +kernel
theorem dX12_readVars_172 : decode cX12_readVars 172 = .ok (.iastore, 1) := by decide +kernel
theorem dX12_readVars_173 : decode cX12_readVars 173 = .ok (.iconst 1, 1) := by decide +kernel
theorem dX12_readVars_174 : decode cX12_readVars 174 = .ok (.ireturn, 1) := by decide +kernel
theorem dX12_isNew_0 : decode cX12_isNew 0 = .ok (.iconst 0, 1) := by decide +kernel
theorem dX12_isNew_1 : decode cX12_isNew 1 = .ok (.istore_n 3, 1) := by decide +kernel
theorem dX12_isNew_2 : decode cX12_isNew 2 = .ok (.iload_n 3, 1) := by decide +kernel
theorem dX12_isNew_3 : decode cX12_isNew 3 = .ok (.aload_n 0, 1) := by decide +kernel
theorem dX12_isNew_4 : decode cX12_isNew 4 = .ok (.getfield 413, 3) := by decide +kernel
theorem dX12_isNew_7 : decode cX12_isNew 7 = .ok (.if_icmp .ge 31, 3) := by decide +kernel
theorem dX12_isNew_10 : decode cX12_isNew 10 = .ok (.aload_n 0, 1) := by decide +kernel
theorem dX12_isNew_11 : decode cX12_isNew 11 = .ok (.getfield 45, 3) := by decide +kernel
theorem dX12_isNew_14 : decode cX12_isNew 14 = .ok (.iload_n 3, 1) := by decide +kernel
theorem dX12_isNew_15 : decode cX12_isNew 15 = .ok (.iaload, 1) := by decide +kernel
theorem dX12_isNew_16 : decode cX12_isNew 16 = .ok (.iload_n 1, 1) := by decide +kernel
theorem dX12_isNew_17 : decode cX12_isNew 17 = .ok (.if_icmp .ne 15, 3) := by decide +kernel
theorem dX12_isNew_20 : decode cX12_isNew 20 = .ok (.aload_n 0, 1) := by decide +kernel
theorem dX12_isNew_21 : decode cX12_isNew 21 = .ok (.getfield 48, 3) := by decide +kernel
theorem dX12_isNew_24 : decode cX12_isNew 24 = .ok (.iload_n 3, 1) := by decide +kernel
theorem dX12_isNew_25 : decode cX12_isNew 25 = .ok (.iaload, 1) := by decide +kernel
theorem dX12_isNew_26 : decode cX12_isNew 26 = .ok (.iload_n 2, 1) := by decide +kernel
theorem dX12_isNew_27 : decode cX12_isNew 27 = .ok (.if_icmp .ne 5, 3) := by decide +kernel
theorem dX12_isNew_30 : decode cX12_isNew 30 = .ok (.iconst 0, 1) := by decide +kernel
theorem dX12_isNew_31 : decode cX12_isNew 31 = .ok (.ireturn, 1) := by decide +kernel
theorem dX12_isNew_32 : decode cX12_isNew 32 = .ok (.iinc 3 1, 3) := by decide +kernel
theorem dX12_isNew_35 : decode cX12_isNew 35 = .ok (.goto (-33), 3) := by decide +kernel
theorem dX12_isNew_38 : decode cX12_isNew 38 = .ok (.iconst 1, 1) := by decide +kernel
theorem dX12_isNew_39 : decode cX12_isNew 39 = .ok (.ireturn, 1) := by decide +kernel
theorem dX12_readFunction_0 : decode cX12_readFunction 0 = .ok (.aload_n 0, 1) := by decide +kernel
theorem dX12_readFunction_1 : decode cX12_readFunction 1 = .ok (.getfield 362, 3) := by decide +kernel
theorem dX12_readFunction_4 : decode cX12_readFunction 4 = .ok (.istore_n 1, 1) := by decide +kernel
theorem dX12_readFunction_5 : decode cX12_readFunction 5 = .ok (.aload_n 0, 1) := by decide +kernel
theorem dX12_readFunction_6 : decode cX12_readFunction 6 = .ok (.invokevirtual 365, 3) := by decide +kernel
theorem dX12_readFunction_9 : decode cX12_readFunction 9 = .ok (.invokestatic 406, 3) := by decide +kernel
theorem dX12_readFunction_12 : decode cX12_readFunction 12 = .ok (.ifCond .ne 12, 3) := by decide +kernel
theorem dX12_readFunction_15 : decode cX12_readFunction 15 = .ok (.aload_n 0, 1) := by decide +kernel
theorem dX12_readFunction_16 : decode cX12_readFunction 16 = .ok (.aload_n 0, 1) := by decide +kernel
theorem dX12_readFunction_17 : decode cX12_readFunction 17 = .ok (.getfield 362, 3) := by decide +kernel
theorem dX12_readFunction_20 : decode cX12_readFunction 20 = .ok (.invokevirtual 369, 3) := by decide +kernel
theorem dX12_readFunction_23 : decode cX12_readFunction 23 = .ok (.ireturn, 1) := by decide +kernel
theorem dX12_readFunction_24 : decode cX12_readFunction 24 = .ok (.aload_n 0, 1) := by decide +kernel
theorem dX12_readFunction_25 : decode cX12_readFunction 25 = .ok (.invokevirtual 365, 3) := by decide +kernel
theorem dX12_readFunction_28 : decode cX12_readFunction 28 = .ok (.bipush 97, 2) := by decide +kernel
theorem dX12_readFunction_30 : decode cX12_readFunction 30 = .ok (.isub, 1) := by decide +kernel
theorem dX12_readFunction_31 : decode cX12_readFunction 31 = .ok (.iconst 1, 1) := by decide +kernel
theorem dX12_readFunction_32 : decode cX12_readFunction 32 = .ok (.iadd, 1) := by decide +kernel
theorem dX12_readFunction_33 : decode cX12_readFunction 33 = .ok (.istore_n 2, 1) := by decide +kernel
theorem dX12_readFunction_34 : decode cX12_readFunction 34 = .ok (.aload_n 0, 1) := by decide +kernel
theorem dX12_readFunction_35 : decode cX12_readFunction 35 = .ok (.dup, 1) := by decide +kernel
theorem dX12_readFunction_36 : decode cX12_readFunction 36 = .ok (.getfield 362, 3) := by decide +kernel
theorem dX12_readFunction_39 : decode cX12_readFunction 39 = .ok (.iconst 1, 1) := by decide +kernel
theorem dX12_readFunction_40 : decode cX12_readFunction 40 = .ok (.iadd, 1) := by decide +kernel
theorem dX12_readFunction_41 : decode cX12_readFunction 41 = .ok (.putfield 362, 3) := by decide +kernel
theorem dX12_readFunction_44 : decode cX12_readFunction 44 = .ok (.aload_n 0, 1) := by decide +kernel
theorem dX12_readFunction_45 : decode cX12_readFunction 45 = .ok (.getfield 54, 3) := by decide +kernel
theorem dX12_readFunction_48 : decode cX12_readFunction 48 = .ok (.aload_n 0, 1) := by decide +kernel
theorem dX12_readFunction_49 : decode cX12_readFunction 49 = .ok (.getfield 413, 3) := by decide +kernel
theorem dX12_readFunction_52 : decode cX12_readFunction 52 = .ok (.aload_n 0, 1) := by decide +kernel
theorem dX12_readFunction_53 : decode cX12_readFunction 53 = .ok (.getfield 387, 3) := by decide +kernel
theorem dX12_readFunction_56 : decode cX12_readFunction 56 = .ok (.iastore, 1) := by decide +kernel
theorem dX12_readFunction_57 : decode cX12_readFunction 57 = .ok (.aload_n 0, 1) := by decide +kernel
theorem dX12_readFunction_58 : decode cX12_readFunction 58 = .ok (.bipush 40, 2) := by decide +kernel
theorem dX12_readFunction_60 : decode cX12_readFunction 60 = .ok (.invokevirtual 422, 3) := by decide +kernel
theorem dX12_readFunction_63 : decode cX12_readFunction 63 = .ok (.ifCond .eq 19, 3) := by decide +kernel
theorem dX12_readFunction_66 : decode cX12_readFunction 66 = .ok (.aload_n 0, 1) := by decide +kernel
theorem dX12_readFunction_67 : decode cX12_readFunction 67 = .ok (.invokevirtual 443, 3) := by decide +kernel
theorem dX12_readFunction_70 : decode cX12_readFunction 70 = .ok (.ifCond .eq 12, 3) := by decide +kernel
theorem dX12_readFunction_73 : decode cX12_readFunction 73 = .ok (.aload_n 0, 1) := by decide +kernel
theorem dX12_readFunction_74 : decode cX12_readFunction 74 = .ok (.bipush 41, 2) := by decide +kernel
theorem dX12_readFunction_76 : decode cX12_readFunction 76 = .ok (.invokevirtual 422, 3) := by decide +kernel
theorem dX12_readFunction_79 : decode cX12_readFunction 79 = .ok (.ifCond .ne 5, 3) := by decide +kernel
theorem dX12_readFunction_82 : decode cX12_readFunction 82 = .ok (.iconst 0, 1) := by decide +kernel
theorem dX12_readFunction_83 : decode cX12_readFunction 83 = .ok (.ireturn, 1) := by decide +kernel
theorem dX12_readFunction_84 : decode cX12_readFunction 84 = .ok (.aload_n 0, 1) := by decide +kernel
theorem dX12_readFunction_85 : decode cX12_readFunction 85 = .ok (.invokevirtual 365, 3) := by decide +kernel
theorem dX12_readFunction_88 : decode cX12_readFunction 88 = .ok (.bipush 61, 2) := by decide +kernel
theorem dX12_readFunction_90 : decode cX12_readFunction 90 = .ok (.if_icmp .eq 12, 3) := by decide +kernel
theorem dX12_readFunction_93 : decode cX12_readFunction 93 = .ok (.aload_n 0, 1) := by decide +kernel
theorem dX12_readFunction_94 : decode cX12_readFunction 94 = .ok (.aload_n 0, 1) := by decide +kernel
theorem dX12_readFunction_95 : decode cX12_readFunction 95 = .ok (.getfield 362, 3) := by decide +kernel
theorem dX12_readFunction_98 : decode cX12_readFunction 98 = .ok (.invokevirtual 369, 3) := by decide +kernel
theorem dX12_readFunction_101 : decode cX12_readFunction 101 = .ok (.ireturn, 1) := by decide +kernel
theorem dX12_readFunction_102 : decode cX12_readFunction 102 = .ok (.aload_n 0, 1) := by decide +kernel
theorem dX12_readFunction_103 : decode cX12_readFunction 103 = .ok (.iload_n 2, 1) := by decide +kernel
theorem dX12_readFunction_104 : decode cX12_readFunction 104 = .ok (.aload_n 0, 1) := by decide +kernel
theorem dX12_readFunction_105 : decode cX12_readFunction 105 = .ok (.getfield 48, 3) := by decide +kernel
theorem dX12_readFunction_108 : decode cX12_readFunction 108 = .ok (.aload_n 0, 1) := by decide +kernel
theorem dX12_readFunction_109 : decode cX12_readFunction 109 = .ok (.getfield 413, 3) := by decide +kernel
theorem dX12_readFunction_112 : decode cX12_readFunction 112 = .ok (.iaload, 1) := by decide +kernel
theorem dX12_readFunction_113 : decode cX12_readFunction 113 = .ok (.invokevirtual 446, 3) := by decide +kernel
theorem dX12_readFunction_116 : decode cX12_readFunction 116 = .ok (.ifCond .ne 9, 3) := by decide +kernel
theorem dX12_readFunction_119 : decode cX12_readFunction 119 = .ok (.aload_n 0, 1) := by decide +kernel
theorem dX12_readFunction_120 : decode cX12_readFunction 120 = .ok (.iload_n 1, 1) := by decide +kernel
theorem dX12_readFunction_121 : decode cX12_readFunction 121 = .ok (.invokevirtual 369, 3) := by decide +kernel
theorem dX12_readFunction_124 : decode cX12_readFunction 124 = .ok (.ireturn, 1) := by decide +kernel
theorem dX12_readFunction_125 : decode cX12_readFunction 125 = .ok (.aload_n 0, 1) := by decide +kernel
theorem dX12_readFunction_126 : decode cX12_readFunction 126 = .ok (.dup, 1) := by decide +kernel
theorem dX12_readFunction_127 : decode cX12_readFunction 127 = .ok (.getfield 362, 3) := by decide +kernel
theorem dX12_readFunction_130 : decode cX12_readFunction 130 = .ok (.iconst 1, 1) := by decide +kernel
theorem dX12_readFunction_131 : decode cX12_readFunction 131 = .ok (.iadd, 1) := by decide +kernel
theorem dX12_readFunction_132 : decode cX12_readFunction 132 = .ok (.putfield 362, 3) := by decide +kernel
theorem dX12_readFunction_135 : decode cX12_readFunction 135 = .ok (.aload_n 0, 1) := by decide +kernel
theorem dX12_readFunction_136 : decode cX12_readFunction 136 = .ok (.getfield 45, 3) := by decide +kernel
theorem dX12_readFunction_139 : decode cX12_readFunction 139 = .ok (.aload_n 0, 1) := by decide +kernel
theorem dX12_readFunction_140 : decode cX12_readFunction 140 = .ok (.getfield 413, 3) := by decide +kernel
theorem dX12_readFunction_143 : decode cX12_readFunction 143 = .ok (.iload_n 2, 1) := by decide +kernel
theorem dX12_readFunction_144 : decode cX12_readFunction 144 = .ok (.iastore, 1) := by decide +kernel
theorem dX12_readFunction_145 : decode cX12_readFunction 145 = .ok (.aload_n 0, 1) := by decide +kernel
theorem dX12_readFunction_146 : decode cX12_readFunction 146 = .ok (.invokevirtual 449, 3) := by decide +kernel
theorem dX12_readFunction_149 : decode cX12_readFunction 149 = .ok (.ifCond .eq 12, 3) := by decide +kernel
theorem dX12_readFunction_152 : decode cX12_readFunction 152 = .ok (.aload_n 0, 1) := by decide +kernel
theorem dX12_readFunction_153 : decode cX12_readFunction 153 = .ok (.bipush 59, 2) := by decide +kernel
theorem dX12_readFunction_155 : decode cX12_readFunction 155 = .ok (.invokevirtual 422, 3) := by decide +kernel
theorem dX12_readFunction_158 : decode cX12_readFunction 158 = .ok (.ifCond .ne 5, 3) := by decide +kernel
theorem dX12_readFunction_161 : decode cX12_readFunction 161 = .ok (.iconst 0, 1) := by decide +kernel
theorem dX12_readFunction_162 : decode cX12_readFunction 162 = .ok (.ireturn, 1) := by decide +kernel
theorem dX12_readFunction_163 : decode cX12_readFunction 163 = .ok (.aload_n 0, 1) := by decide +kernel
theorem dX12_readFunction_164 : decode cX12_readFunction 164 = .ok (.getfield 57, 3) := by decide +kernel
theorem dX12_readFunction_167 : decode cX12_readFunction 167 = .ok (.aload_n 0, 1) := by decide +kernel
theorem dX12_readFunction_168 : decode cX12_readFunction 168 = .ok (.getfield 413, 3) := by decide +kernel
theorem dX12_readFunction_171 : decode cX12_readFunction 171 = .ok (.aload_n 0, 1) := by decide +kernel
theorem dX12_readFunction_172 : decode cX12_readFunction 172 = .ok (.getfield 387, 3) := by decide +kernel
theorem dX12_readFunction_175 : decode cX12_readFunction 175 = .ok (.aload_n 0, 1) := by decide +kernel
theorem dX12_readFunction_176 : decode cX12_readFunction 176 = .ok (.getfield 54, 3) := by decide +kernel
theorem dX12_readFunction_179 : decode cX12_readFunction 179 = .ok (.aload_n 0, 1) := by decide +kernel
theorem dX12_readFunction_180 : decode cX12_readFunction 180 = .ok (.getfield 413, 3) := by decide +kernel
theorem dX12_readFunction_183 : decode cX12_readFunction 183 = .ok (.iaload, 1) := by decide +kernel
theorem dX12_readFunction_184 : decode cX12_readFunction 184 = .ok (.isub, 1) := by decide +kernel
theorem dX12_readFunction_185 : decode cX12_readFunction 185 = .ok (.iastore, 1) := by decide +kernel
theorem dX12_readFunction_186 : decode cX12_readFunction 186 = .ok (.aload_n 0, 1) := by decide +kernel
theorem dX12_readFunction_187 : decode cX12_readFunction 187 = .ok (.dup, 1) := by decide +kernel
theorem dX12_readFunction_188 : decode cX12_readFunction 188 = .ok (.getfield 413, 3) := by decide +kernel
theorem dX12_readFunction_191 : decode cX12_readFunction 191 = .ok (.iconst 1, 1) := by decide +kernel
theorem dX12_readFunction_192 : decode cX12_readFunction 192 = .ok (.iadd, 1) := by decide +kernel
theorem dX12_readFunction_193 : decode cX12_readFunction 193 = .ok (.putfield 413, 3) := by decide +kernel
theorem dX12_readFunction_196 : decode cX12_readFunction 196 = .ok (.iconst 1, 1) := by decide +kernel
theorem dX12_readFunction_197 : decode cX12_readFunction 197 = .ok (.ireturn, 1) := by decide +kernel
theorem dX12_readProgram_0 : decode cX12_readProgram 0 = .ok (.aload_n 0, 1) := by decide +kernel
theorem dX12_readProgram_1 : decode cX12_readProgram 1 = .ok (.invokevirtual 452, 3) := by decide +kernel
theorem dX12_readProgram_4 : decode cX12_readProgram 4 = .ok (.aload_n 0, 1) := by decide +kernel
theorem dX12_readProgram_5 : decode cX12_readProgram 5 = .ok (.iconst 0, 1) := by decide +kernel
theorem dX12_readProgram_6 : decode cX12_readProgram 6 = .ok (.putfield 413, 3) := by decide +kernel
theorem dX12_readProgram_9 : decode cX12_readProgram 9 = .ok (.aload_n 0, 1) := by decide +kernel
theorem dX12_readProgram_10 : decode cX12_readProgram 10 = .ok (.iconst 0, 1) := by decide +kernel
theorem dX12_readProgram_11 : decode cX12_readProgram 11 = .ok (.putfield 387, 3) := by decide +kernel
theorem dX12_readProgram_14 : decode cX12_readProgram 14 = .ok (.aload_n 0, 1) := by decide +kernel
theorem dX12_readProgram_15 : decode cX12_readProgram 15 = .ok (.getfield 362, 3) := by decide +kernel
theorem dX12_readProgram_18 : decode cX12_readProgram 18 = .ok (.aload_n 0, 1) := by decide +kernel
theorem dX12_readProgram_19 : decode cX12_readProgram 19 = .ok (.getfield 352, 3) := by decide +kernel
theorem dX12_readProgram_22 : decode cX12_readProgram 22 = .ok (.if_icmp .ge 12, 3) := by decide +kernel
theorem dX12_readProgram_25 : decode cX12_readProgram 25 = .ok (.aload_n 0, 1) := by decide +kernel
theorem dX12_readProgram_26 : decode cX12_readProgram 26 = .ok (.invokevirtual 455, 3) := by decide +kernel
theorem dX12_readProgram_29 : decode cX12_readProgram 29 = .ok (.ifCond .ne (-15), 3) := by decide +kernel
theorem dX12_readProgram_32 : decode cX12_readProgram 32 = .ok (.iconst 0, 1) := by decide +kernel
theorem dX12_readProgram_33 : decode cX12_readProgram 33 = .ok (.ireturn, 1) := by decide +kernel
theorem dX12_readProgram_34 : decode cX12_readProgram 34 = .ok (.iconst 1, 1) := by decide +kernel
theorem dX12_readProgram_35 : decode cX12_readProgram 35 = .ok (.ireturn, 1) := by decide +kernel
theorem dX12_copy_0 : decode cX12_copy 0 = .ok (.iconst 0, 1) := by decide +kernel
theorem dX12_copy_1 : decode cX12_copy 1 = .ok (.istore 5, 2) := by decide +kernel
theorem dX12_copy_3 : decode cX12_copy 3 = .ok (.iload 5, 2) := by decide +kernel
theorem dX12_copy_5 : decode cX12_copy 5 = .ok (.iload_n 2, 1) := by decide +kernel
theorem dX12_copy_6 : decode cX12_copy 6 = .ok (.if_icmp .ge 22, 3) := by decide +kernel
theorem dX12_copy_9 : decode cX12_copy 9 = .ok (.aload_n 3, 1) := by decide +kernel
theorem dX12_copy_10 : decode cX12_copy 10 = .ok (.iload 4, 2) := by decide +kernel
theorem dX12_copy_12 : decode cX12_copy 12 = .ok (.iload 5, 2) := by decide +kernel
theorem dX12_copy_14 : decode cX12_copy 14 = .ok (.iadd, 1) := by decide +kernel
theorem dX12_copy_15 : decode cX12_copy 15 = .ok (.aload_n 0, 1) := by decide +kernel
theorem dX12_copy_16 : decode cX12_copy 16 = .ok (.iload_n 1, 1) := by decide +kernel
theorem dX12_copy_17 : decode cX12_copy 17 = .ok (.iload 5, 2) := by decide +kernel
theorem dX12_copy_19 : decode cX12_copy 19 = .ok (.iadd, 1) := by decide +kernel
theorem dX12_copy_20 : decode cX12_copy 20 = .ok (.iaload, 1) := by decide +kernel
theorem dX12_copy_21 : decode cX12_copy 21 = .ok (.iastore, 1) := by decide +kernel
theorem dX12_copy_22 : decode cX12_copy 22 = .ok (.iinc 5 1, 3) := by decide +kernel
theorem dX12_copy_25 : decode cX12_copy 25 = .ok (.goto (-22), 3) := by decide +kernel
theorem dX12_copy_28 : decode cX12_copy 28 = .ok (.return_, 1) := by decide +kernel
theorem dX12_layBehind_0 : decode cX12_layBehind 0 = .ok (.aload_n 0, 1) := by decide +kernel
theorem dX12_layBehind_1 : decode cX12_layBehind 1 = .ok (.getfield 458, 3) := by decide +kernel
theorem dX12_layBehind_4 : decode cX12_layBehind 4 = .ok (.iconst 1, 1) := by decide +kernel
theorem dX12_layBehind_5 : decode cX12_layBehind 5 = .ok (.isub, 1) := by decide +kernel
theorem dX12_layBehind_6 : decode cX12_layBehind 6 = .ok (.istore_n 1, 1) := by decide +kernel
theorem dX12_layBehind_7 : decode cX12_layBehind 7 = .ok (.iload_n 1, 1) := by decide +kernel
theorem dX12_layBehind_8 : decode cX12_layBehind 8 = .ok (.ifCond .lt 45, 3) := by decide +kernel
theorem dX12_layBehind_11 : decode cX12_layBehind 11 = .ok (.iload_n 1, 1) := by decide +kernel
theorem dX12_layBehind_12 : decode cX12_layBehind 12 = .ok (.iconst 1, 1) := by decide +kernel
theorem dX12_layBehind_13 : decode cX12_layBehind 13 = .ok (.iadd, 1) := by decide +kernel
theorem dX12_layBehind_14 : decode cX12_layBehind 14 = .ok (.istore_n 2, 1) := by decide +kernel
theorem dX12_layBehind_15 : decode cX12_layBehind 15 = .ok (.iconst 0, 1) := by decide +kernel
theorem dX12_layBehind_16 : decode cX12_layBehind 16 = .ok (.istore_n 3, 1) := by decide +kernel
theorem dX12_layBehind_17 : decode cX12_layBehind 17 = .ok (.iload_n 3, 1) := by decide +kernel
theorem dX12_layBehind_18 : decode cX12_layBehind 18 = .ok (.aload_n 0, 1) := by decide +kernel
theorem dX12_layBehind_19 : decode cX12_layBehind 19 = .ok (.getfield 39, 3) := by decide +kernel
theorem dX12_layBehind_22 : decode cX12_layBehind 22 = .ok (.iload_n 1, 1) := by decide +kernel
theorem dX12_layBehind_23 : decode cX12_layBehind 23 = .ok (.iaload, 1) := by decide +kernel
theorem dX12_layBehind_24 : decode cX12_layBehind 24 = .ok (.if_icmp .ge 16, 3) := by decide +kernel
theorem dX12_layBehind_27 : decode cX12_layBehind 27 = .ok (.aload_n 0, 1) := by decide +kernel
theorem dX12_layBehind_28 : decode cX12_layBehind 28 = .ok (.getfield 42, 3) := by decide +kernel
theorem dX12_layBehind_31 : decode cX12_layBehind 31 = .ok (.iload_n 2, 1) := by decide +kernel
theorem dX12_layBehind_32 : decode cX12_layBehind 32 = .ok (.iaload, 1) := by decide +kernel
theorem dX12_layBehind_33 : decode cX12_layBehind 33 = .ok (.istore_n 2, 1) := by decide +kernel
theorem dX12_layBehind_34 : decode cX12_layBehind 34 = .ok (.iinc 3 1, 3) := by decide +kernel
theorem dX12_layBehind_37 : decode cX12_layBehind 37 = .ok (.goto (-20), 3) := by decide +kernel
theorem dX12_layBehind_40 : decode cX12_layBehind 40 = .ok (.aload_n 0, 1) := by decide +kernel
theorem dX12_layBehind_41 : decode cX12_layBehind 41 = .ok (.getfield 42, 3) := by decide +kernel
theorem dX12_layBehind_44 : decode cX12_layBehind 44 = .ok (.iload_n 1, 1) := by decide +kernel
theorem dX12_layBehind_45 : decode cX12_layBehind 45 = .ok (.iload_n 2, 1) := by decide +kernel
theorem dX12_layBehind_46 : decode cX12_layBehind 46 = .ok (.iastore, 1) := by decide +kernel
theorem dX12_layBehind_47 : decode cX12_layBehind 47 = .ok (.iinc 1 (-1), 3) := by decide +kernel
theorem dX12_layBehind_50 : decode cX12_layBehind 50 = .ok (.goto (-43), 3) := by decide +kernel
theorem dX12_layBehind_53 : decode cX12_layBehind 53 = .ok (.return_, 1) := by decide +kernel
theorem dX12_program_0 : decode cX12_program 0 = .ok (.aload_n 0, 1) := by decide +kernel
theorem dX12_program_1 : decode cX12_program 1 = .ok (.invokevirtual 461, 3) := by decide +kernel
theorem dX12_program_4 : decode cX12_program 4 = .ok (.istore_n 1, 1) := by decide +kernel
theorem dX12_program_5 : decode cX12_program 5 = .ok (.aload_n 0, 1) := by decide +kernel
theorem dX12_program_6 : decode cX12_program 6 = .ok (.iconst 0, 1) := by decide +kernel
theorem dX12_program_7 : decode cX12_program 7 = .ok (.putfield 352, 3) := by decide +kernel
theorem dX12_program_10 : decode cX12_program 10 = .ok (.iload_n 1, 1) := by decide +kernel
theorem dX12_program_11 : decode cX12_program 11 = .ok (.ifCond .ne 5, 3) := by decide +kernel
theorem dX12_program_14 : decode cX12_program 14 = .ok (.iconst (-1), 1) := by decide +kernel
theorem dX12_program_15 : decode cX12_program 15 = .ok (.ireturn, 1) := by decide +kernel
theorem dX12_program_16 : decode cX12_program 16 = .ok (.aload_n 0, 1) := by decide +kernel
theorem dX12_program_17 : decode cX12_program 17 = .ok (.iconst 0, 1) := by decide +kernel
theorem dX12_program_18 : decode cX12_program 18 = .ok (.putfield 464, 3) := by decide +kernel
theorem dX12_program_21 : decode cX12_program 21 = .ok (.aload_n 0, 1) := by decide +kernel
theorem dX12_program_22 : decode cX12_program 22 = .ok (.aload_n 0, 1) := by decide +kernel
theorem dX12_program_23 : decode cX12_program 23 = .ok (.getfield 413, 3) := by decide +kernel
theorem dX12_program_26 : decode cX12_program 26 = .ok (.putfield 468, 3) := by decide +kernel
theorem dX12_program_29 : decode cX12_program 29 = .ok (.aload_n 0, 1) := by decide +kernel
theorem dX12_program_30 : decode cX12_program 30 = .ok (.aload_n 0, 1) := by decide +kernel
theorem dX12_program_31 : decode cX12_program 31 = .ok (.getfield 387, 3) := by decide +kernel
theorem dX12_program_34 : decode cX12_program 34 = .ok (.putfield 458, 3) := by decide +kernel
theorem dX12_program_37 : decode cX12_program 37 = .ok (.aload_n 0, 1) := by decide +kernel
theorem dX12_program_38 : decode cX12_program 38 = .ok (.getfield 45, 3) := by decide +kernel
theorem dX12_program_41 : decode cX12_program 41 = .ok (.iconst 0, 1) := by decide +kernel
theorem dX12_program_42 : decode cX12_program 42 = .ok (.aload_n 0, 1) := by decide +kernel
theorem dX12_program_43 : decode cX12_program 43 = .ok (.getfield 468, 3) := by decide +kernel
theorem dX12_program_46 : decode cX12_program 46 = .ok (.aload_n 0, 1) := by decide +kernel
theorem dX12_program_47 : decode cX12_program 47 = .ok (.getfield 17, 3) := by decide +kernel
theorem dX12_program_50 : decode cX12_program 50 = .ok (.iconst 0, 1) := by decide +kernel
theorem dX12_program_51 : decode cX12_program 51 = .ok (.invokestatic 471, 3) := by decide +kernel
theorem dX12_program_54 : decode cX12_program 54 = .ok (.aload_n 0, 1) := by decide +kernel
theorem dX12_program_55 : decode cX12_program 55 = .ok (.getfield 48, 3) := by decide +kernel
theorem dX12_program_58 : decode cX12_program 58 = .ok (.iconst 0, 1) := by decide +kernel
theorem dX12_program_59 : decode cX12_program 59 = .ok (.aload_n 0, 1) := by decide +kernel
theorem dX12_program_60 : decode cX12_program 60 = .ok (.getfield 468, 3) := by decide +kernel
theorem dX12_program_63 : decode cX12_program 63 = .ok (.aload_n 0, 1) := by decide +kernel
theorem dX12_program_64 : decode cX12_program 64 = .ok (.getfield 21, 3) := by decide +kernel
theorem dX12_program_67 : decode cX12_program 67 = .ok (.iconst 0, 1) := by decide +kernel
theorem dX12_program_68 : decode cX12_program 68 = .ok (.invokestatic 471, 3) := by decide +kernel
theorem dX12_program_71 : decode cX12_program 71 = .ok (.aload_n 0, 1) := by decide +kernel
theorem dX12_program_72 : decode cX12_program 72 = .ok (.getfield 51, 3) := by decide +kernel
theorem dX12_program_75 : decode cX12_program 75 = .ok (.iconst 0, 1) := by decide +kernel
theorem dX12_program_76 : decode cX12_program 76 = .ok (.iconst 5, 1) := by decide +kernel
theorem dX12_program_77 : decode cX12_program 77 = .ok (.aload_n 0, 1) := by decide +kernel
theorem dX12_program_78 : decode cX12_program 78 = .ok (.getfield 468, 3) := by decide +kernel
theorem dX12_program_81 : decode cX12_program 81 = .ok (.imul, 1) := by decide +kernel
theorem dX12_program_82 : decode cX12_program 82 = .ok (.aload_n 0, 1) := by decide +kernel
theorem dX12_program_83 : decode cX12_program 83 = .ok (.getfield 24, 3) := by decide +kernel
theorem dX12_program_86 : decode cX12_program 86 = .ok (.iconst 0, 1) := by decide +kernel
theorem dX12_program_87 : decode cX12_program 87 = .ok (.invokestatic 471, 3) := by decide +kernel
theorem dX12_program_90 : decode cX12_program 90 = .ok (.aload_n 0, 1) := by decide +kernel
theorem dX12_program_91 : decode cX12_program 91 = .ok (.getfield 54, 3) := by decide +kernel
theorem dX12_program_94 : decode cX12_program 94 = .ok (.iconst 0, 1) := by decide +kernel
theorem dX12_program_95 : decode cX12_program 95 = .ok (.aload_n 0, 1) := by decide +kernel
theorem dX12_program_96 : decode cX12_program 96 = .ok (.getfield 468, 3) := by decide +kernel
theorem dX12_program_99 : decode cX12_program 99 = .ok (.aload_n 0, 1) := by decide +kernel
theorem dX12_program_100 : decode cX12_program 100 = .ok (.getfield 27, 3) := by decide +kernel
theorem dX12_program_103 : decode cX12_program 103 = .ok (.iconst 0, 1) := by decide +kernel
theorem dX12_program_104 : decode cX12_program 104 = .ok (.invokestatic 471, 3) := by decide +kernel
theorem dX12_program_107 : decode cX12_program 107 = .ok (.aload_n 0, 1) := by decide +kernel
theorem dX12_program_108 : decode cX12_program 108 = .ok (.getfield 57, 3) := by decide +kernel
theorem dX12_program_111 : decode cX12_program 111 = .ok (.iconst 0, 1) := by decide +kernel
theorem dX12_program_112 : decode cX12_program 112 = .ok (.aload_n 0, 1) := by decide +kernel
theorem dX12_program_113 : decode cX12_program 113 = .ok (.getfield 468, 3) := by decide +kernel
theorem dX12_program_116 : decode cX12_program 116 = .ok (.aload_n 0, 1) := by decide +kernel
theorem dX12_program_117 : decode cX12_program 117 = .ok (.getfield 30, 3) := by decide +kernel
theorem dX12_program_120 : decode cX12_program 120 = .ok (.iconst 0, 1) := by decide +kernel
theorem dX12_program_121 : decode cX12_program 121 = .ok (.invokestatic 471, 3) := by decide +kernel
theorem dX12_program_124 : decode cX12_program 124 = .ok (.aload_n 0, 1) := by decide +kernel
theorem dX12_program_125 : decode cX12_program 125 = .ok (.getfield 60, 3) := by decide +kernel
theorem dX12_program_128 : decode cX12_program 128 = .ok (.iconst 0, 1) := by decide +kernel
theorem dX12_program_129 : decode cX12_program 129 = .ok (.aload_n 0, 1) := by decide +kernel
theorem dX12_program_130 : decode cX12_program 130 = .ok (.getfield 458, 3) := by decide +kernel
theorem dX12_program_133 : decode cX12_program 133 = .ok (.aload_n 0, 1) := by decide +kernel
theorem dX12_program_134 : decode cX12_program 134 = .ok (.getfield 33, 3) := by decide +kernel
theorem dX12_program_137 : decode cX12_program 137 = .ok (.iconst 0, 1) := by decide +kernel
theorem dX12_program_138 : decode cX12_program 138 = .ok (.invokestatic 471, 3) := by decide +kernel
theorem dX12_program_141 : decode cX12_program 141 = .ok (.aload_n 0, 1) := by decide +kernel
theorem dX12_program_142 : decode cX12_program 142 = .ok (.getfield 63, 3) := by decide +kernel
theorem dX12_program_145 : decode cX12_program 145 = .ok (.iconst 0, 1) := by decide +kernel
theorem dX12_program_146 : decode cX12_program 146 = .ok (.aload_n 0, 1) := by decide +kernel
theorem dX12_program_147 : decode cX12_program 147 = .ok (.getfield 458, 3) := by decide +kernel
theorem dX12_program_150 : decode cX12_program 150 = .ok (.aload_n 0, 1) := by decide +kernel
theorem dX12_program_151 : decode cX12_program 151 = .ok (.getfield 36, 3) := by decide +kernel
theorem dX12_program_154 : decode cX12_program 154 = .ok (.iconst 0, 1) := by decide +kernel
theorem dX12_program_155 : decode cX12_program 155 = .ok (.invokestatic 471, 3) := by decide +kernel
theorem dX12_program_158 : decode cX12_program 158 = .ok (.aload_n 0, 1) := by decide +kernel
theorem dX12_program_159 : decode cX12_program 159 = .ok (.getfield 66, 3) := by decide +kernel
theorem dX12_program_162 : decode cX12_program 162 = .ok (.iconst 0, 1) := by decide +kernel
theorem dX12_program_163 : decode cX12_program 163 = .ok (.aload_n 0, 1) := by decide +kernel
theorem dX12_program_164 : decode cX12_program 164 = .ok (.getfield 458, 3) := by decide +kernel
theorem dX12_program_167 : decode cX12_program 167 = .ok (.aload_n 0, 1) := by decide +kernel
theorem dX12_program_168 : decode cX12_program 168 = .ok (.getfield 39, 3) := by decide +kernel
theorem dX12_program_171 : decode cX12_program 171 = .ok (.iconst 0, 1) := by decide +kernel
theorem dX12_program_172 : decode cX12_program 172 = .ok (.invokestatic 471, 3) := by decide +kernel
theorem dX12_program_175 : decode cX12_program 175 = .ok (.aload_n 0, 1) := by decide +kernel
theorem dX12_program_176 : decode cX12_program 176 = .ok (.invokevirtual 475, 3) := by decide +kernel
theorem dX12_program_179 : decode cX12_program 179 = .ok (.aload_n 0, 1) := by decide +kernel
theorem dX12_program_180 : decode cX12_program 180 = .ok (.getfield 468, 3) := by decide +kernel
theorem dX12_program_183 : decode cX12_program 183 = .ok (.ireturn, 1) := by decide +kernel
theorem dX12_functionOf_0 : decode cX12_functionOf 0 = .ok (.iconst 0, 1) := by decide +kernel
theorem dX12_functionOf_1 : decode cX12_functionOf 1 = .ok (.istore_n 3, 1) := by decide +kernel
theorem dX12_functionOf_2 : decode cX12_functionOf 2 = .ok (.iload_n 3, 1) := by decide +kernel
theorem dX12_functionOf_3 : decode cX12_functionOf 3 = .ok (.aload_n 0, 1) := by decide +kernel
theorem dX12_functionOf_4 : decode cX12_functionOf 4 = .ok (.getfield 468, 3) := by decide +kernel
theorem dX12_functionOf_7 : decode cX12_functionOf 7 = .ok (.if_icmp .ge 31, 3) := by decide +kernel
theorem dX12_functionOf_10 : decode cX12_functionOf 10 = .ok (.aload_n 0, 1) := by decide +kernel
theorem dX12_functionOf_11 : decode cX12_functionOf 11 = .ok (.getfield 17, 3) := by decide +kernel
theorem dX12_functionOf_14 : decode cX12_functionOf 14 = .ok (.iload_n 3, 1) := by decide +kernel
theorem dX12_functionOf_15 : decode cX12_functionOf 15 = .ok (.iaload, 1) := by decide +kernel
theorem dX12_functionOf_16 : decode cX12_functionOf 16 = .ok (.iload_n 1, 1) := by decide +kernel
theorem dX12_functionOf_17 : decode cX12_functionOf 17 = .ok (.if_icmp .ne 15, 3) := by decide +kernel
theorem dX12_functionOf_20 : decode cX12_functionOf 20 = .ok (.aload_n 0, 1) := by decide +kernel
theorem dX12_functionOf_21 : decode cX12_functionOf 21 = .ok (.getfield 21, 3) := by decide +kernel
theorem dX12_functionOf_24 : decode cX12_functionOf 24 = .ok (.iload_n 3, 1) := by decide +kernel
theorem dX12_functionOf_25 : decode cX12_functionOf 25 = .ok (.iaload, 1) := by decide +kernel
theorem dX12_functionOf_26 : decode cX12_functionOf 26 = .ok (.iload_n 2, 1) := by decide +kernel
theorem dX12_functionOf_27 : decode cX12_functionOf 27 = .ok (.if_icmp .ne 5, 3) := by decide +kernel
theorem dX12_functionOf_30 : decode cX12_functionOf 30 = .ok (.iload_n 3, 1) := by decide +kernel
theorem dX12_functionOf_31 : decode cX12_functionOf 31 = .ok (.ireturn, 1) := by decide +kernel
theorem dX12_functionOf_32 : decode cX12_functionOf 32 = .ok (.iinc 3 1, 3) := by decide +kernel
theorem dX12_functionOf_35 : decode cX12_functionOf 35 = .ok (.goto (-33), 3) := by decide +kernel
theorem dX12_functionOf_38 : decode cX12_functionOf 38 = .ok (.iconst (-1), 1) := by decide +kernel
theorem dX12_functionOf_39 : decode cX12_functionOf 39 = .ok (.ireturn, 1) := by decide +kernel
theorem dX12_readPart_0 : decode cX12_readPart 0 = .ok (.iconst 0, 1) := by decide +kernel
theorem dX12_readPart_1 : decode cX12_readPart 1 = .ok (.istore_n 2, 1) := by decide +kernel
theorem dX12_readPart_2 : decode cX12_readPart 2 = .ok (.iconst 1, 1) := by decide +kernel
theorem dX12_readPart_3 : decode cX12_readPart 3 = .ok (.istore_n 3, 1) := by decide +kernel
theorem dX12_readPart_4 : decode cX12_readPart 4 = .ok (.iload_n 3, 1) := by decide +kernel
theorem dX12_readPart_5 : decode cX12_readPart 5 = .ok (.ifCond .eq 199, 3) := by decide +kernel
theorem dX12_readPart_8 : decode cX12_readPart 8 = .ok (.aload_n 0, 1) := by decide +kernel
theorem dX12_readPart_9 : decode cX12_readPart 9 = .ok (.invokevirtual 365, 3) := by decide +kernel
theorem dX12_readPart_12 : decode cX12_readPart 12 = .ok (.istore 4, 2) := by decide +kernel
theorem dX12_readPart_14 : decode cX12_readPart 14 = .ok (.iload 4, 2) := by decide +kernel
theorem dX12_readPart_16 : decode cX12_readPart 16 = .ok (.bipush 42, 2) := by decide +kernel
theorem dX12_readPart_18 : decode cX12_readPart 18 = .ok (.if_icmp .ne 11, 3) := by decide +kernel
theorem dX12_readPart_21 : decode cX12_readPart 21 = .ok (.iload_n 1, 1) := by decide +kernel
theorem dX12_readPart_22 : decode cX12_readPart 22 = .ok (.ifCond .eq 7, 3) := by decide +kernel
theorem dX12_readPart_25 : decode cX12_readPart 25 = .ok (.iconst 1, 1) := by decide +kernel
theorem dX12_readPart_26 : decode cX12_readPart 26 = .ok (.goto 4, 3) := by decide +kernel
theorem dX12_readPart_29 : decode cX12_readPart 29 = .ok (.iconst 0, 1) := by decide +kernel
theorem dX12_readPart_30 : decode cX12_readPart 30 = .ok (.istore 5, 2) := by decide +kernel
theorem dX12_readPart_32 : decode cX12_readPart 32 = .ok (.iload 5, 2) := by decide +kernel
theorem dX12_readPart_34 : decode cX12_readPart 34 = .ok (.ifCond .ne 17, 3) := by decide +kernel
theorem dX12_readPart_37 : decode cX12_readPart 37 = .ok (.iload 4, 2) := by decide +kernel
theorem dX12_readPart_39 : decode cX12_readPart 39 = .ok (.bipush 91, 2) := by decide +kernel
theorem dX12_readPart_41 : decode cX12_readPart 41 = .ok (.if_icmp .eq 10, 3) := by decide +kernel
theorem dX12_readPart_44 : decode cX12_readPart 44 = .ok (.aload_n 0, 1) := by decide +kernel
theorem dX12_readPart_45 : decode cX12_readPart 45 = .ok (.invokevirtual 399, 3) := by decide +kernel
theorem dX12_readPart_48 : decode cX12_readPart 48 = .ok (.ifCond .eq 26, 3) := by decide +kernel
theorem dX12_readPart_51 : decode cX12_readPart 51 = .ok (.aload_n 0, 1) := by decide +kernel
theorem dX12_readPart_52 : decode cX12_readPart 52 = .ok (.getfield 478, 3) := by decide +kernel
theorem dX12_readPart_55 : decode cX12_readPart 55 = .ok (.bipush 30, 2) := by decide +kernel
theorem dX12_readPart_57 : decode cX12_readPart 57 = .ok (.if_icmp .eq 17, 3) := by decide +kernel
theorem dX12_readPart_60 : decode cX12_readPart 60 = .ok (.iload 5, 2) := by decide +kernel
theorem dX12_readPart_62 : decode cX12_readPart 62 = .ok (.ifCond .eq 21, 3) := by decide +kernel
theorem dX12_readPart_65 : decode cX12_readPart 65 = .ok (.aload_n 0, 1) := by decide +kernel
theorem dX12_readPart_66 : decode cX12_readPart 66 = .ok (.getfield 481, 3) := by decide +kernel
theorem dX12_readPart_69 : decode cX12_readPart 69 = .ok (.bipush 8, 2) := by decide +kernel
theorem dX12_readPart_71 : decode cX12_readPart 71 = .ok (.if_icmp .ne 12, 3) := by decide +kernel
theorem dX12_readPart_74 : decode cX12_readPart 74 = .ok (.aload_n 0, 1) := by decide +kernel
theorem dX12_readPart_75 : decode cX12_readPart 75 = .ok (.aload_n 0, 1) := by decide +kernel
theorem dX12_readPart_76 : decode cX12_readPart 76 = .ok (.getfield 362, 3) := by decide +kernel
theorem dX12_readPart_79 : decode cX12_readPart 79 = .ok (.invokevirtual 369, 3) := by decide +kernel
theorem dX12_readPart_82 : decode cX12_readPart 82 = .ok (.ireturn, 1) := by decide +kernel
theorem dX12_readPart_83 : decode cX12_readPart 83 = .ok (.iload 4, 2) := by decide +kernel
theorem dX12_readPart_85 : decode cX12_readPart 85 = .ok (.bipush 91, 2) := by decide +kernel
theorem dX12_readPart_87 : decode cX12_readPart 87 = .ok (.if_icmp .ne 32, 3) := by decide +kernel
theorem dX12_readPart_90 : decode cX12_readPart 90 = .ok (.aload_n 0, 1) := by decide +kernel
theorem dX12_readPart_91 : decode cX12_readPart 91 = .ok (.dup, 1) := by decide +kernel
theorem dX12_readPart_92 : decode cX12_readPart 92 = .ok (.getfield 362, 3) := by decide +kernel
theorem dX12_readPart_95 : decode cX12_readPart 95 = .ok (.iconst 1, 1) := by decide +kernel
theorem dX12_readPart_96 : decode cX12_readPart 96 = .ok (.iadd, 1) := by decide +kernel
theorem dX12_readPart_97 : decode cX12_readPart 97 = .ok (.putfield 362, 3) := by decide +kernel
theorem dX12_readPart_100 : decode cX12_readPart 100 = .ok (.aload_n 0, 1) := by decide +kernel
theorem dX12_readPart_101 : decode cX12_readPart 101 = .ok (.iconst 2, 1) := by decide +kernel
theorem dX12_readPart_102 : decode cX12_readPart 102 = .ok (.iconst 0, 1) := by decide +kernel
theorem dX12_readPart_103 : decode cX12_readPart 103 = .ok (.invokevirtual 484, 3) := by decide +kernel
theorem dX12_readPart_106 : decode cX12_readPart 106 = .ok (.aload_n 0, 1) := by decide +kernel
theorem dX12_readPart_107 : decode cX12_readPart 107 = .ok (.getfield 84, 3) := by decide +kernel
theorem dX12_readPart_110 : decode cX12_readPart 110 = .ok (.iload_n 2, 1) := by decide +kernel
theorem dX12_readPart_111 : decode cX12_readPart 111 = .ok (.iconst 0, 1) := by decide +kernel
theorem dX12_readPart_112 : decode cX12_readPart 112 = .ok (.iastore, 1) := by decide +kernel
theorem dX12_readPart_113 : decode cX12_readPart 113 = .ok (.iinc 2 1, 3) := by decide +kernel
theorem dX12_readPart_116 : decode cX12_readPart 116 = .ok (.goto (-112), 3) := by decide +kernel
theorem dX12_readPart_119 : decode cX12_readPart 119 = .ok (.iload 5, 2) := by decide +kernel
theorem dX12_readPart_121 : decode cX12_readPart 121 = .ok (.ifCond .eq 32, 3) := by decide +kernel
theorem dX12_readPart_124 : decode cX12_readPart 124 = .ok (.aload_n 0, 1) := by decide +kernel
theorem dX12_readPart_125 : decode cX12_readPart 125 = .ok (.dup, 1) := by decide +kernel
theorem dX12_readPart_126 : decode cX12_readPart 126 = .ok (.getfield 362, 3) := by decide +kernel
theorem dX12_readPart_129 : decode cX12_readPart 129 = .ok (.iconst 1, 1) := by decide +kernel
theorem dX12_readPart_130 : decode cX12_readPart 130 = .ok (.iadd, 1) := by decide +kernel
theorem dX12_readPart_131 : decode cX12_readPart 131 = .ok (.putfield 362, 3) := by decide +kernel
theorem dX12_readPart_134 : decode cX12_readPart 134 = .ok (.aload_n 0, 1) := by decide +kernel
theorem dX12_readPart_135 : decode cX12_readPart 135 = .ok (.dup, 1) := by decide +kernel
theorem dX12_readPart_136 : decode cX12_readPart 136 = .ok (.getfield 481, 3) := by decide +kernel
theorem dX12_readPart_139 : decode cX12_readPart 139 = .ok (.iconst 1, 1) := by decide +kernel
theorem dX12_readPart_140 : decode cX12_readPart 140 = .ok (.iadd, 1) := by decide +kernel
theorem dX12_readPart_141 : decode cX12_readPart 141 = .ok (.putfield 481, 3) := by decide +kernel
theorem dX12_readPart_144 : decode cX12_readPart 144 = .ok (.aload_n 0, 1) := by decide +kernel
theorem dX12_readPart_145 : decode cX12_readPart 145 = .ok (.iconst 3, 1) := by decide +kernel
theorem dX12_readPart_146 : decode cX12_readPart 146 = .ok (.iconst 0, 1) := by decide +kernel
theorem dX12_readPart_147 : decode cX12_readPart 147 = .ok (.invokevirtual 484, 3) := by decide +kernel
theorem dX12_readPart_150 : decode cX12_readPart 150 = .ok (.goto 27, 3) := by decide +kernel
theorem dX12_readPart_153 : decode cX12_readPart 153 = .ok (.aload_n 0, 1) := by decide +kernel
theorem dX12_readPart_154 : decode cX12_readPart 154 = .ok (.invokevirtual 416, 3) := by decide +kernel
theorem dX12_readPart_157 : decode cX12_readPart 157 = .ok (.ifCond .eq 18, 3) := by decide +kernel
theorem dX12_readPart_160 : decode cX12_readPart 160 = .ok (.aload_n 0, 1) := by decide +kernel
theorem dX12_readPart_161 : decode cX12_readPart 161 = .ok (.aload_n 0, 1) := by decide +kernel
theorem dX12_readPart_162 : decode cX12_readPart 162 = .ok (.getfield 378, 3) := by decide +kernel
theorem dX12_readPart_165 : decode cX12_readPart 165 = .ok (.aload_n 0, 1) := by decide +kernel
theorem dX12_readPart_166 : decode cX12_readPart 166 = .ok (.getfield 381, 3) := by decide +kernel
theorem dX12_readPart_169 : decode cX12_readPart 169 = .ok (.invokevirtual 484, 3) := by decide +kernel
theorem dX12_readPart_172 : decode cX12_readPart 172 = .ok (.goto 5, 3) := by decide +kernel
theorem dX12_readPart_175 : decode cX12_readPart 175 = .ok (.iconst 0, 1) := by decide +kernel
theorem dX12_readPart_176 : decode cX12_readPart 176 = .ok (.ireturn, 1) := by decide +kernel
theorem dX12_readPart_177 : decode cX12_readPart 177 = .ok (.aload_n 0, 1) := by decide +kernel
theorem dX12_readPart_178 : decode cX12_readPart 178 = .ok (.iload_n 2, 1) := by decide +kernel
theorem dX12_readPart_179 : decode cX12_readPart 179 = .ok (.invokevirtual 487, 3) := by decide +kernel
theorem dX12_readPart_182 : decode cX12_readPart 182 = .ok (.istore_n 2, 1) := by decide +kernel
theorem dX12_readPart_183 : decode cX12_readPart 183 = .ok (.iload_n 2, 1) := by decide +kernel
theorem dX12_readPart_184 : decode cX12_readPart 184 = .ok (.ifCond .le 15, 3) := by decide +kernel
theorem dX12_readPart_187 : decode cX12_readPart 187 = .ok (.aload_n 0, 1) := by decide +kernel
theorem dX12_readPart_188 : decode cX12_readPart 188 = .ok (.getfield 13, 3) := by decide +kernel
theorem dX12_readPart_191 : decode cX12_readPart 191 = .ok (.iconst (-1), 1) := by decide +kernel
theorem dX12_readPart_192 : decode cX12_readPart 192 = .ok (.if_icmp .ne 7, 3) := by decide +kernel
theorem dX12_readPart_195 : decode cX12_readPart 195 = .ok (.iconst 1, 1) := by decide +kernel
theorem dX12_readPart_196 : decode cX12_readPart 196 = .ok (.goto 4, 3) := by decide +kernel
theorem dX12_readPart_199 : decode cX12_readPart 199 = .ok (.iconst 0, 1) := by decide +kernel
theorem dX12_readPart_200 : decode cX12_readPart 200 = .ok (.istore_n 3, 1) := by decide +kernel
theorem dX12_readPart_201 : decode cX12_readPart 201 = .ok (.goto (-197), 3) := by decide +kernel
theorem dX12_readPart_204 : decode cX12_readPart 204 = .ok (.aload_n 0, 1) := by decide +kernel
theorem dX12_readPart_205 : decode cX12_readPart 205 = .ok (.getfield 13, 3) := by decide +kernel
theorem dX12_readPart_208 : decode cX12_readPart 208 = .ok (.iconst (-1), 1) := by decide +kernel
theorem dX12_readPart_209 : decode cX12_readPart 209 = .ok (.if_icmp .ne 7, 3) := by decide +kernel
theorem dX12_readPart_212 : decode cX12_readPart 212 = .ok (.iconst 1, 1) := by decide +kernel
theorem dX12_readPart_213 : decode cX12_readPart 213 = .ok (.goto 4, 3) := by decide +kernel
theorem dX12_readPart_216 : decode cX12_readPart 216 = .ok (.iconst 0, 1) := by decide +kernel
theorem dX12_readPart_217 : decode cX12_readPart 217 = .ok (.ireturn, 1) := by decide +kernel
theorem dX12_layRead_0 : decode cX12_layRead 0 = .ok (.aload_n 0, 1) := by decide +kernel
theorem dX12_layRead_1 : decode cX12_layRead 1 = .ok (.getfield 78, 3) := by decide +kernel
theorem dX12_layRead_4 : decode cX12_layRead 4 = .ok (.aload_n 0, 1) := by decide +kernel
theorem dX12_layRead_5 : decode cX12_layRead 5 = .ok (.getfield 478, 3) := by decide +kernel
theorem dX12_layRead_8 : decode cX12_layRead 8 = .ok (.iload_n 1, 1) := by decide +kernel
theorem dX12_layRead_9 : decode cX12_layRead 9 = .ok (.iastore, 1) := by decide +kernel
theorem dX12_layRead_10 : decode cX12_layRead 10 = .ok (.aload_n 0, 1) := by decide +kernel
theorem dX12_layRead_11 : decode cX12_layRead 11 = .ok (.getfield 81, 3) := by decide +kernel
theorem dX12_layRead_14 : decode cX12_layRead 14 = .ok (.aload_n 0, 1) := by decide +kernel
theorem dX12_layRead_15 : decode cX12_layRead 15 = .ok (.getfield 478, 3) := by decide +kernel
theorem dX12_layRead_18 : decode cX12_layRead 18 = .ok (.iload_n 2, 1) := by decide +kernel
theorem dX12_layRead_19 : decode cX12_layRead 19 = .ok (.iastore, 1) := by decide +kernel
theorem dX12_layRead_20 : decode cX12_layRead 20 = .ok (.aload_n 0, 1) := by decide +kernel
theorem dX12_layRead_21 : decode cX12_layRead 21 = .ok (.dup, 1) := by decide +kernel
theorem dX12_layRead_22 : decode cX12_layRead 22 = .ok (.getfield 478, 3) := by decide +kernel
theorem dX12_layRead_25 : decode cX12_layRead 25 = .ok (.iconst 1, 1) := by decide +kernel
theorem dX12_layRead_26 : decode cX12_layRead 26 = .ok (.iadd, 1) := by decide +kernel
theorem dX12_layRead_27 : decode cX12_layRead 27 = .ok (.putfield 478, 3) := by decide +kernel
theorem dX12_layRead_30 : decode cX12_layRead 30 = .ok (.return_, 1) := by decide +kernel
theorem dX12_closeAll_0 : decode cX12_closeAll 0 = .ok (.iload_n 1, 1) := by decide +kernel
theorem dX12_closeAll_1 : decode cX12_closeAll 1 = .ok (.istore_n 2, 1) := by decide +kernel
theorem dX12_closeAll_2 : decode cX12_closeAll 2 = .ok (.iload_n 2, 1) := by decide +kernel
theorem dX12_closeAll_3 : decode cX12_closeAll 3 = .ok (.ifCond .le 53, 3) := by decide +kernel
theorem dX12_closeAll_6 : decode cX12_closeAll 6 = .ok (.aload_n 0, 1) := by decide +kernel
theorem dX12_closeAll_7 : decode cX12_closeAll 7 = .ok (.getfield 84, 3) := by decide +kernel
theorem dX12_closeAll_10 : decode cX12_closeAll 10 = .ok (.iload_n 2, 1) := by decide +kernel
theorem dX12_closeAll_11 : decode cX12_closeAll 11 = .ok (.iconst 1, 1) := by decide +kernel
theorem dX12_closeAll_12 : decode cX12_closeAll 12 = .ok (.isub, 1) := by decide +kernel
theorem dX12_closeAll_13 : decode cX12_closeAll 13 = .ok (.dup2, 1) := by decide +kernel
theorem dX12_closeAll_14 : decode cX12_closeAll 14 = .ok (.iaload, 1) := by decide +kernel
theorem dX12_closeAll_15 : decode cX12_closeAll 15 = .ok (.iconst 1, 1) := by decide +kernel
theorem dX12_closeAll_16 : decode cX12_closeAll 16 = .ok (.iadd, 1) := by decide +kernel
theorem dX12_closeAll_17 : decode cX12_closeAll 17 = .ok (.iastore, 1) := by decide +kernel
theorem dX12_closeAll_18 : decode cX12_closeAll 18 = .ok (.aload_n 0, 1) := by decide +kernel
theorem dX12_closeAll_19 : decode cX12_closeAll 19 = .ok (.getfield 84, 3) := by decide +kernel
theorem dX12_closeAll_22 : decode cX12_closeAll 22 = .ok (.iload_n 2, 1) := by decide +kernel
theorem dX12_closeAll_23 : decode cX12_closeAll 23 = .ok (.iconst 1, 1) := by decide +kernel
theorem dX12_closeAll_24 : decode cX12_closeAll 24 = .ok (.isub, 1) := by decide +kernel
theorem dX12_closeAll_25 : decode cX12_closeAll 25 = .ok (.iaload, 1) := by decide +kernel
theorem dX12_closeAll_26 : decode cX12_closeAll 26 = .ok (.iconst 1, 1) := by decide +kernel
theorem dX12_closeAll_27 : decode cX12_closeAll 27 = .ok (.if_icmp .ne 12, 3) := by decide +kernel
theorem dX12_closeAll_30 : decode cX12_closeAll 30 = .ok (.aload_n 0, 1) := by decide +kernel
theorem dX12_closeAll_31 : decode cX12_closeAll 31 = .ok (.bipush 44, 2) := by decide +kernel
theorem dX12_closeAll_33 : decode cX12_closeAll 33 = .ok (.invokevirtual 422, 3) := by decide +kernel
theorem dX12_closeAll_36 : decode cX12_closeAll 36 = .ok (.istore_n 3, 1) := by decide +kernel
theorem dX12_closeAll_37 : decode cX12_closeAll 37 = .ok (.iload_n 2, 1) := by decide +kernel
theorem dX12_closeAll_38 : decode cX12_closeAll 38 = .ok (.ireturn, 1) := by decide +kernel
theorem dX12_closeAll_39 : decode cX12_closeAll 39 = .ok (.aload_n 0, 1) := by decide +kernel
theorem dX12_closeAll_40 : decode cX12_closeAll 40 = .ok (.bipush 93, 2) := by decide +kernel
theorem dX12_closeAll_42 : decode cX12_closeAll 42 = .ok (.invokevirtual 422, 3) := by decide +kernel
theorem dX12_closeAll_45 : decode cX12_closeAll 45 = .ok (.ifCond .ne 5, 3) := by decide +kernel
theorem dX12_closeAll_48 : decode cX12_closeAll 48 = .ok (.iload_n 2, 1) := by decide +kernel
theorem dX12_closeAll_49 : decode cX12_closeAll 49 = .ok (.ireturn, 1) := by decide +kernel
theorem dX12_closeAll_50 : decode cX12_closeAll 50 = .ok (.iinc 2 (-1), 3) := by decide +kernel
theorem dX12_closeAll_53 : decode cX12_closeAll 53 = .ok (.goto (-51), 3) := by decide +kernel
theorem dX12_closeAll_56 : decode cX12_closeAll 56 = .ok (.iconst 0, 1) := by decide +kernel
theorem dX12_closeAll_57 : decode cX12_closeAll 57 = .ok (.ireturn, 1) := by decide +kernel
theorem dX12_readTask_0 : decode cX12_readTask 0 = .ok (.aload_n 0, 1) := by decide +kernel
theorem dX12_readTask_1 : decode cX12_readTask 1 = .ok (.invokevirtual 452, 3) := by decide +kernel
theorem dX12_readTask_4 : decode cX12_readTask 4 = .ok (.aload_n 0, 1) := by decide +kernel
theorem dX12_readTask_5 : decode cX12_readTask 5 = .ok (.iconst 0, 1) := by decide +kernel
theorem dX12_readTask_6 : decode cX12_readTask 6 = .ok (.putfield 478, 3) := by decide +kernel
theorem dX12_readTask_9 : decode cX12_readTask 9 = .ok (.aload_n 0, 1) := by decide +kernel
theorem dX12_readTask_10 : decode cX12_readTask 10 = .ok (.iconst 0, 1) := by decide +kernel
theorem dX12_readTask_11 : decode cX12_readTask 11 = .ok (.putfield 481, 3) := by decide +kernel
theorem dX12_readTask_14 : decode cX12_readTask 14 = .ok (.aload_n 0, 1) := by decide +kernel
theorem dX12_readTask_15 : decode cX12_readTask 15 = .ok (.iconst 0, 1) := by decide +kernel
theorem dX12_readTask_16 : decode cX12_readTask 16 = .ok (.putfield 490, 3) := by decide +kernel
theorem dX12_readTask_19 : decode cX12_readTask 19 = .ok (.aload_n 0, 1) := by decide +kernel
theorem dX12_readTask_20 : decode cX12_readTask 20 = .ok (.invokevirtual 365, 3) := by decide +kernel
theorem dX12_readTask_23 : decode cX12_readTask 23 = .ok (.invokestatic 406, 3) := by decide +kernel
theorem dX12_readTask_26 : decode cX12_readTask 26 = .ok (.ifCond .ne 12, 3) := by decide +kernel
theorem dX12_readTask_29 : decode cX12_readTask 29 = .ok (.aload_n 0, 1) := by decide +kernel
theorem dX12_readTask_30 : decode cX12_readTask 30 = .ok (.aload_n 0, 1) := by decide +kernel
theorem dX12_readTask_31 : decode cX12_readTask 31 = .ok (.getfield 362, 3) := by decide +kernel
theorem dX12_readTask_34 : decode cX12_readTask 34 = .ok (.invokevirtual 369, 3) := by decide +kernel
theorem dX12_readTask_37 : decode cX12_readTask 37 = .ok (.ireturn, 1) := by decide +kernel
theorem dX12_readTask_38 : decode cX12_readTask 38 = .ok (.aload_n 0, 1) := by decide +kernel
theorem dX12_readTask_39 : decode cX12_readTask 39 = .ok (.aload_n 0, 1) := by decide +kernel
