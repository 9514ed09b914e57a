theorem dX3_count_27 : decode cX3_count 27 = .ok (.getfield 34, 3) := by decide +kernel
theorem dX3_count_30 : decode cX3_count 30 = .ok (.iconst 1, 1) := by decide +kernel
theorem dX3_count_31 : decode cX3_count 31 = .ok (.iadd, 1) := by decide +kernel
theorem dX3_count_32 : decode cX3_count 32 = .ok (.putfield 34, 3) := by decide +kernel
theorem dX3_count_35 : decode cX3_count 35 = .ok (.aload_n 0, 1) := by decide +kernel
theorem dX3_count_36 : decode cX3_count 36 = .ok (.getfield 11, 3) := by decide +kernel
theorem dX3_count_39 : decode cX3_count 39 = .ok (.aload_n 0, 1) := by decide +kernel
theorem dX3_count_40 : decode cX3_count 40 = .ok (.getfield 30, 3) := by decide +kernel
theorem dX3_count_43 : decode cX3_count 43 = .ok (.iconst 1, 1) := by decide +kernel
theorem dX3_count_44 : decode cX3_count 44 = .ok (.isub, 1) := by decide +kernel
theorem dX3_count_45 : decode cX3_count 45 = .ok (.bipush 6, 2) := by decide +kernel
theorem dX3_count_47 : decode cX3_count 47 = .ok (.imul, 1) := by decide +kernel
theorem dX3_count_48 : decode cX3_count 48 = .ok (.iload_n 1, 1) := by decide +kernel
theorem dX3_count_49 : decode cX3_count 49 = .ok (.iadd, 1) := by decide +kernel
theorem dX3_count_50 : decode cX3_count 50 = .ok (.dup2, 1) := by decide +kernel
theorem dX3_count_51 : decode cX3_count 51 = .ok (.iaload, 1) := by decide +kernel
theorem dX3_count_52 : decode cX3_count 52 = .ok (.iconst 1, 1) := by decide +kernel
theorem dX3_count_53 : decode cX3_count 53 = .ok (.iadd, 1) := by decide +kernel
theorem dX3_count_54 : decode cX3_count 54 = .ok (.iastore, 1) := by decide +kernel
theorem dX3_count_55 : decode cX3_count 55 = .ok (.aload_n 0, 1) := by decide +kernel
theorem dX3_count_56 : decode cX3_count 56 = .ok (.getfield 11, 3) := by decide +kernel
theorem dX3_count_59 : decode cX3_count 59 = .ok (.aload_n 0, 1) := by decide +kernel
theorem dX3_count_60 : decode cX3_count 60 = .ok (.getfield 30, 3) := by decide +kernel
theorem dX3_count_63 : decode cX3_count 63 = .ok (.iconst 1, 1) := by decide +kernel
theorem dX3_count_64 : decode cX3_count 64 = .ok (.isub, 1) := by decide +kernel
theorem dX3_count_65 : decode cX3_count 65 = .ok (.bipush 6, 2) := by decide +kernel
theorem dX3_count_67 : decode cX3_count 67 = .ok (.imul, 1) := by decide +kernel
theorem dX3_count_68 : decode cX3_count 68 = .ok (.iload_n 1, 1) := by decide +kernel
theorem dX3_count_69 : decode cX3_count 69 = .ok (.iadd, 1) := by decide +kernel
theorem dX3_count_70 : decode cX3_count 70 = .ok (.iaload, 1) := by decide +kernel
theorem dX3_count_71 : decode cX3_count 71 = .ok (.ireturn, 1) := by decide +kernel
theorem dX3_add_0 : decode cX3_add 0 = .ok (.aload_n 0, 1) := by decide +kernel
theorem dX3_add_1 : decode cX3_add 1 = .ok (.getfield 37, 3) := by decide +kernel
theorem dX3_add_4 : decode cX3_add 4 = .ok (.sipush 2472, 3) := by decide +kernel
theorem dX3_add_7 : decode cX3_add 7 = .ok (.if_icmp .lt 5, 3) := by decide +kernel
theorem dX3_add_10 : decode cX3_add 10 = .ok (.iconst (-1), 1) := by decide +kernel
theorem dX3_add_11 : decode cX3_add 11 = .ok (.ireturn, 1) := by decide +kernel
theorem dX3_add_12 : decode cX3_add 12 = .ok (.aload_n 0, 1) := by decide +kernel
theorem dX3_add_13 : decode cX3_add 13 = .ok (.getfield 21, 3) := by decide +kernel
theorem dX3_add_16 : decode cX3_add 16 = .ok (.aload_n 0, 1) := by decide +kernel
theorem dX3_add_17 : decode cX3_add 17 = .ok (.getfield 37, 3) := by decide +kernel
theorem dX3_add_20 : decode cX3_add 20 = .ok (.iload_n 1, 1) := by decide +kernel
theorem dX3_add_21 : decode cX3_add 21 = .ok (.iastore, 1) := by decide +kernel
theorem dX3_add_22 : decode cX3_add 22 = .ok (.aload_n 0, 1) := by decide +kernel
theorem dX3_add_23 : decode cX3_add 23 = .ok (.getfield 24, 3) := by decide +kernel
theorem dX3_add_26 : decode cX3_add 26 = .ok (.aload_n 0, 1) := by decide +kernel
theorem dX3_add_27 : decode cX3_add 27 = .ok (.getfield 37, 3) := by decide +kernel
theorem dX3_add_30 : decode cX3_add 30 = .ok (.iload_n 2, 1) := by decide +kernel
theorem dX3_add_31 : decode cX3_add 31 = .ok (.iastore, 1) := by decide +kernel
theorem dX3_add_32 : decode cX3_add 32 = .ok (.aload_n 0, 1) := by decide +kernel
theorem dX3_add_33 : decode cX3_add 33 = .ok (.getfield 27, 3) := by decide +kernel
theorem dX3_add_36 : decode cX3_add 36 = .ok (.aload_n 0, 1) := by decide +kernel
theorem dX3_add_37 : decode cX3_add 37 = .ok (.getfield 37, 3) := by decide +kernel
theorem dX3_add_40 : decode cX3_add 40 = .ok (.iload_n 3, 1) := by decide +kernel
theorem dX3_add_41 : decode cX3_add 41 = .ok (.iastore, 1) := by decide +kernel
theorem dX3_add_42 : decode cX3_add 42 = .ok (.aload_n 0, 1) := by decide +kernel
theorem dX3_add_43 : decode cX3_add 43 = .ok (.dup, 1) := by decide +kernel
theorem dX3_add_44 : decode cX3_add 44 = .ok (.getfield 37, 3) := by decide +kernel
theorem dX3_add_47 : decode cX3_add 47 = .ok (.iconst 1, 1) := by decide +kernel
theorem dX3_add_48 : decode cX3_add 48 = .ok (.iadd, 1) := by decide +kernel
theorem dX3_add_49 : decode cX3_add 49 = .ok (.putfield 37, 3) := by decide +kernel
theorem dX3_add_52 : decode cX3_add 52 = .ok (.aload_n 0, 1) := by decide +kernel
theorem dX3_add_53 : decode cX3_add 53 = .ok (.getfield 37, 3) := by decide +kernel
theorem dX3_add_56 : decode cX3_add 56 = .ok (.iconst 1, 1) := by decide +kernel
theorem dX3_add_57 : decode cX3_add 57 = .ok (.isub, 1) := by decide +kernel
theorem dX3_add_58 : decode cX3_add 58 = .ok (.ireturn, 1) := by decide +kernel
theorem dX3_leadHere_0 : decode cX3_leadHere 0 = .ok (.iload_n 1, 1) := by decide +kernel
theorem dX3_leadHere_1 : decode cX3_leadHere 1 = .ok (.ifCond .lt 20, 3) := by decide +kernel
theorem dX3_leadHere_4 : decode cX3_leadHere 4 = .ok (.iload_n 1, 1) := by decide +kernel
theorem dX3_leadHere_5 : decode cX3_leadHere 5 = .ok (.sipush 2472, 3) := by decide +kernel
theorem dX3_leadHere_8 : decode cX3_leadHere 8 = .ok (.if_icmp .ge 13, 3) := by decide +kernel
theorem dX3_leadHere_11 : decode cX3_leadHere 11 = .ok (.aload_n 0, 1) := by decide +kernel
theorem dX3_leadHere_12 : decode cX3_leadHere 12 = .ok (.getfield 24, 3) := by decide +kernel
theorem dX3_leadHere_15 : decode cX3_leadHere 15 = .ok (.iload_n 1, 1) := by decide +kernel
theorem dX3_leadHere_16 : decode cX3_leadHere 16 = .ok (.aload_n 0, 1) := by decide +kernel
theorem dX3_leadHere_17 : decode cX3_leadHere 17 = .ok (.getfield 37, 3) := by decide +kernel
theorem dX3_leadHere_20 : decode cX3_leadHere 20 = .ok (.iastore, 1) := by decide +kernel
theorem dX3_leadHere_21 : decode cX3_leadHere 21 = .ok (.return_, 1) := by decide +kernel
theorem dX3_about_0 : decode cX3_about 0 = .ok (.iload_n 1, 1) := by decide +kernel
theorem dX3_about_1 : decode cX3_about 1 = .ok (.ifCond .lt 21, 3) := by decide +kernel
theorem dX3_about_4 : decode cX3_about 4 = .ok (.iload_n 1, 1) := by decide +kernel
theorem dX3_about_5 : decode cX3_about 5 = .ok (.aload_n 0, 1) := by decide +kernel
theorem dX3_about_6 : decode cX3_about 6 = .ok (.getfield 30, 3) := by decide +kernel
theorem dX3_about_9 : decode cX3_about 9 = .ok (.if_icmp .ge 13, 3) := by decide +kernel
theorem dX3_about_12 : decode cX3_about 12 = .ok (.iload_n 2, 1) := by decide +kernel
theorem dX3_about_13 : decode cX3_about 13 = .ok (.ifCond .lt 9, 3) := by decide +kernel
theorem dX3_about_16 : decode cX3_about 16 = .ok (.iload_n 2, 1) := by decide +kernel
theorem dX3_about_17 : decode cX3_about 17 = .ok (.bipush 6, 2) := by decide +kernel
theorem dX3_about_19 : decode cX3_about 19 = .ok (.if_icmp .lt 7, 3) := by decide +kernel
theorem dX3_about_22 : decode cX3_about 22 = .ok (.iconst (-1), 1) := by decide +kernel
theorem dX3_about_23 : decode cX3_about 23 = .ok (.goto 14, 3) := by decide +kernel
theorem dX3_about_26 : decode cX3_about 26 = .ok (.aload_n 0, 1) := by decide +kernel
theorem dX3_about_27 : decode cX3_about 27 = .ok (.getfield 11, 3) := by decide +kernel
theorem dX3_about_30 : decode cX3_about 30 = .ok (.iload_n 1, 1) := by decide +kernel
theorem dX3_about_31 : decode cX3_about 31 = .ok (.bipush 6, 2) := by decide +kernel
theorem dX3_about_33 : decode cX3_about 33 = .ok (.imul, 1) := by decide +kernel
theorem dX3_about_34 : decode cX3_about 34 = .ok (.iload_n 2, 1) := by decide +kernel
theorem dX3_about_35 : decode cX3_about 35 = .ok (.iadd, 1) := by decide +kernel
theorem dX3_about_36 : decode cX3_about 36 = .ok (.iaload, 1) := by decide +kernel
theorem dX3_about_37 : decode cX3_about 37 = .ok (.ireturn, 1) := by decide +kernel
theorem dX3_startOf_0 : decode cX3_startOf 0 = .ok (.iload_n 1, 1) := by decide +kernel
theorem dX3_startOf_1 : decode cX3_startOf 1 = .ok (.ifCond .lt 31, 3) := by decide +kernel
theorem dX3_startOf_4 : decode cX3_startOf 4 = .ok (.iload_n 1, 1) := by decide +kernel
theorem dX3_startOf_5 : decode cX3_startOf 5 = .ok (.bipush 72, 2) := by decide +kernel
theorem dX3_startOf_7 : decode cX3_startOf 7 = .ok (.if_icmp .ge 25, 3) := by decide +kernel
theorem dX3_startOf_10 : decode cX3_startOf 10 = .ok (.aload_n 0, 1) := by decide +kernel
theorem dX3_startOf_11 : decode cX3_startOf 11 = .ok (.getfield 18, 3) := by decide +kernel
theorem dX3_startOf_14 : decode cX3_startOf 14 = .ok (.iload_n 1, 1) := by decide +kernel
theorem dX3_startOf_15 : decode cX3_startOf 15 = .ok (.iaload, 1) := by decide +kernel
theorem dX3_startOf_16 : decode cX3_startOf 16 = .ok (.ifCond .lt 16, 3) := by decide +kernel
theorem dX3_startOf_19 : decode cX3_startOf 19 = .ok (.aload_n 0, 1) := by decide +kernel
theorem dX3_startOf_20 : decode cX3_startOf 20 = .ok (.getfield 18, 3) := by decide +kernel
theorem dX3_startOf_23 : decode cX3_startOf 23 = .ok (.iload_n 1, 1) := by decide +kernel
theorem dX3_startOf_24 : decode cX3_startOf 24 = .ok (.iaload, 1) := by decide +kernel
theorem dX3_startOf_25 : decode cX3_startOf 25 = .ok (.aload_n 0, 1) := by decide +kernel
theorem dX3_startOf_26 : decode cX3_startOf 26 = .ok (.getfield 30, 3) := by decide +kernel
theorem dX3_startOf_29 : decode cX3_startOf 29 = .ok (.if_icmp .lt 5, 3) := by decide +kernel
theorem dX3_startOf_32 : decode cX3_startOf 32 = .ok (.iconst (-1), 1) := by decide +kernel
theorem dX3_startOf_33 : decode cX3_startOf 33 = .ok (.ireturn, 1) := by decide +kernel
theorem dX3_startOf_34 : decode cX3_startOf 34 = .ok (.aload_n 0, 1) := by decide +kernel
theorem dX3_startOf_35 : decode cX3_startOf 35 = .ok (.getfield 15, 3) := by decide +kernel
theorem dX3_startOf_38 : decode cX3_startOf 38 = .ok (.aload_n 0, 1) := by decide +kernel
theorem dX3_startOf_39 : decode cX3_startOf 39 = .ok (.getfield 18, 3) := by decide +kernel
theorem dX3_startOf_42 : decode cX3_startOf 42 = .ok (.iload_n 1, 1) := by decide +kernel
theorem dX3_startOf_43 : decode cX3_startOf 43 = .ok (.iaload, 1) := by decide +kernel
theorem dX3_startOf_44 : decode cX3_startOf 44 = .ok (.iaload, 1) := by decide +kernel
theorem dX3_startOf_45 : decode cX3_startOf 45 = .ok (.ireturn, 1) := by decide +kernel
theorem dX3_stepAt_0 : decode cX3_stepAt 0 = .ok (.iload_n 1, 1) := by decide +kernel
theorem dX3_stepAt_1 : decode cX3_stepAt 1 = .ok (.ifCond .lt 20, 3) := by decide +kernel
theorem dX3_stepAt_4 : decode cX3_stepAt 4 = .ok (.iload_n 1, 1) := by decide +kernel
theorem dX3_stepAt_5 : decode cX3_stepAt 5 = .ok (.aload_n 0, 1) := by decide +kernel
theorem dX3_stepAt_6 : decode cX3_stepAt 6 = .ok (.getfield 37, 3) := by decide +kernel
theorem dX3_stepAt_9 : decode cX3_stepAt 9 = .ok (.if_icmp .ge 12, 3) := by decide +kernel
theorem dX3_stepAt_12 : decode cX3_stepAt 12 = .ok (.aload_n 0, 1) := by decide +kernel
theorem dX3_stepAt_13 : decode cX3_stepAt 13 = .ok (.getfield 21, 3) := by decide +kernel
theorem dX3_stepAt_16 : decode cX3_stepAt 16 = .ok (.iload_n 1, 1) := by decide +kernel
theorem dX3_stepAt_17 : decode cX3_stepAt 17 = .ok (.iaload, 1) := by decide +kernel
theorem dX3_stepAt_18 : decode cX3_stepAt 18 = .ok (.goto 5, 3) := by decide +kernel
theorem dX3_stepAt_21 : decode cX3_stepAt 21 = .ok (.bipush 14, 2) := by decide +kernel
theorem dX3_stepAt_23 : decode cX3_stepAt 23 = .ok (.ireturn, 1) := by decide +kernel
theorem dX3_markAt_0 : decode cX3_markAt 0 = .ok (.iload_n 1, 1) := by decide +kernel
theorem dX3_markAt_1 : decode cX3_markAt 1 = .ok (.ifCond .lt 20, 3) := by decide +kernel
theorem dX3_markAt_4 : decode cX3_markAt 4 = .ok (.iload_n 1, 1) := by decide +kernel
theorem dX3_markAt_5 : decode cX3_markAt 5 = .ok (.aload_n 0, 1) := by decide +kernel
theorem dX3_markAt_6 : decode cX3_markAt 6 = .ok (.getfield 37, 3) := by decide +kernel
theorem dX3_markAt_9 : decode cX3_markAt 9 = .ok (.if_icmp .ge 12, 3) := by decide +kernel
theorem dX3_markAt_12 : decode cX3_markAt 12 = .ok (.aload_n 0, 1) := by decide +kernel
theorem dX3_markAt_13 : decode cX3_markAt 13 = .ok (.getfield 24, 3) := by decide +kernel
theorem dX3_markAt_16 : decode cX3_markAt 16 = .ok (.iload_n 1, 1) := by decide +kernel
theorem dX3_markAt_17 : decode cX3_markAt 17 = .ok (.iaload, 1) := by decide +kernel
theorem dX3_markAt_18 : decode cX3_markAt 18 = .ok (.goto 4, 3) := by decide +kernel
theorem dX3_markAt_21 : decode cX3_markAt 21 = .ok (.iconst 0, 1) := by decide +kernel
theorem dX3_markAt_22 : decode cX3_markAt 22 = .ok (.ireturn, 1) := by decide +kernel
theorem dX3_bitsAt_0 : decode cX3_bitsAt 0 = .ok (.iload_n 1, 1) := by decide +kernel
theorem dX3_bitsAt_1 : decode cX3_bitsAt 1 = .ok (.ifCond .lt 20, 3) := by decide +kernel
theorem dX3_bitsAt_4 : decode cX3_bitsAt 4 = .ok (.iload_n 1, 1) := by decide +kernel
theorem dX3_bitsAt_5 : decode cX3_bitsAt 5 = .ok (.aload_n 0, 1) := by decide +kernel
theorem dX3_bitsAt_6 : decode cX3_bitsAt 6 = .ok (.getfield 37, 3) := by decide +kernel
theorem dX3_bitsAt_9 : decode cX3_bitsAt 9 = .ok (.if_icmp .ge 12, 3) := by decide +kernel
theorem dX3_bitsAt_12 : decode cX3_bitsAt 12 = .ok (.aload_n 0, 1) := by decide +kernel
theorem dX3_bitsAt_13 : decode cX3_bitsAt 13 = .ok (.getfield 27, 3) := by decide +kernel
theorem dX3_bitsAt_16 : decode cX3_bitsAt 16 = .ok (.iload_n 1, 1) := by decide +kernel
theorem dX3_bitsAt_17 : decode cX3_bitsAt 17 = .ok (.iaload, 1) := by decide +kernel
theorem dX3_bitsAt_18 : decode cX3_bitsAt 18 = .ok (.goto 4, 3) := by decide +kernel
theorem dX3_bitsAt_21 : decode cX3_bitsAt 21 = .ok (.iconst 0, 1) := by decide +kernel
theorem dX3_bitsAt_22 : decode cX3_bitsAt 22 = .ok (.ireturn, 1) := by decide +kernel
theorem dX4_init_0 : decode cX4_init 0 = .ok (.aload_n 0, 1) := by decide +kernel
theorem dX4_init_1 : decode cX4_init 1 = .ok (.invokespecial 3, 3) := by decide +kernel
theorem dX4_init_4 : decode cX4_init 4 = .ok (.aload_n 0, 1) := by decide +kernel
theorem dX4_init_5 : decode cX4_init 5 = .ok (.aload_n 1, 1) := by decide +kernel
theorem dX4_init_6 : decode cX4_init 6 = .ok (.putfield 9, 3) := by decide +kernel
theorem dX4_init_9 : decode cX4_init 9 = .ok (.aload_n 0, 1) := by decide +kernel
theorem dX4_init_10 : decode cX4_init 10 = .ok (.iconst 0, 1) := by decide +kernel
theorem dX4_init_11 : decode cX4_init 11 = .ok (.putfield 15, 3) := by decide +kernel
theorem dX4_init_14 : decode cX4_init 14 = .ok (.aload_n 0, 1) := by decide +kernel
theorem dX4_init_15 : decode cX4_init 15 = .ok (.iconst 0, 1) := by decide +kernel
theorem dX4_init_16 : decode cX4_init 16 = .ok (.putfield 19, 3) := by decide +kernel
theorem dX4_init_19 : decode cX4_init 19 = .ok (.aload_n 0, 1) := by decide +kernel
theorem dX4_init_20 : decode cX4_init 20 = .ok (.iconst (-1), 1) := by decide +kernel
theorem dX4_init_21 : decode cX4_init 21 = .ok (.putfield 22, 3) := by decide +kernel
theorem dX4_init_24 : decode cX4_init 24 = .ok (.aload_n 0, 1) := by decide +kernel
theorem dX4_init_25 : decode cX4_init 25 = .ok (.aload_n 2, 1) := by decide +kernel
theorem dX4_init_26 : decode cX4_init 26 = .ok (.putfield 25, 3) := by decide +kernel
theorem dX4_init_29 : decode cX4_init 29 = .ok (.aload_n 0, 1) := by decide +kernel
theorem dX4_init_30 : decode cX4_init 30 = .ok (.bipush 32, 2) := by decide +kernel
theorem dX4_init_32 : decode cX4_init 32 = .ok (.newarray .int, 2) := by decide +kernel
theorem dX4_init_34 : decode cX4_init 34 = .ok (.putfield 31, 3) := by decide +kernel
theorem dX4_init_37 : decode cX4_init 37 = .ok (.aload_n 0, 1) := by decide +kernel
theorem dX4_init_38 : decode cX4_init 38 = .ok (.iconst 0, 1) := by decide +kernel
theorem dX4_init_39 : decode cX4_init 39 = .ok (.putfield 34, 3) := by decide +kernel
theorem dX4_init_42 : decode cX4_init 42 = .ok (.return_, 1) := by decide +kernel
theorem dX4_begin_0 : decode cX4_begin 0 = .ok (.aload_n 0, 1) := by decide +kernel
theorem dX4_begin_1 : decode cX4_begin 1 = .ok (.iload_n 1, 1) := by decide +kernel
theorem dX4_begin_2 : decode cX4_begin 2 = .ok (.aload_n 0, 1) := by decide +kernel
theorem dX4_begin_3 : decode cX4_begin 3 = .ok (.getfield 9, 3) := by decide +kernel
theorem dX4_begin_6 : decode cX4_begin 6 = .ok (.arraylength, 1) := by decide +kernel
theorem dX4_begin_7 : decode cX4_begin 7 = .ok (.invokestatic 37, 3) := by decide +kernel
theorem dX4_begin_10 : decode cX4_begin 10 = .ok (.putfield 15, 3) := by decide +kernel
theorem dX4_begin_13 : decode cX4_begin 13 = .ok (.aload_n 0, 1) := by decide +kernel
theorem dX4_begin_14 : decode cX4_begin 14 = .ok (.iconst 0, 1) := by decide +kernel
theorem dX4_begin_15 : decode cX4_begin 15 = .ok (.putfield 19, 3) := by decide +kernel
theorem dX4_begin_18 : decode cX4_begin 18 = .ok (.aload_n 0, 1) := by decide +kernel
theorem dX4_begin_19 : decode cX4_begin 19 = .ok (.iconst (-1), 1) := by decide +kernel
theorem dX4_begin_20 : decode cX4_begin 20 = .ok (.putfield 22, 3) := by decide +kernel
theorem dX4_begin_23 : decode cX4_begin 23 = .ok (.return_, 1) := by decide +kernel
theorem dX4_badPlace_0 : decode cX4_badPlace 0 = .ok (.aload_n 0, 1) := by decide +kernel
theorem dX4_badPlace_1 : decode cX4_badPlace 1 = .ok (.getfield 22, 3) := by decide +kernel
theorem dX4_badPlace_4 : decode cX4_badPlace 4 = .ok (.ireturn, 1) := by decide +kernel
theorem dX4_isWell_0 : decode cX4_isWell 0 = .ok (.aload_n 0, 1) := by decide +kernel
theorem dX4_isWell_1 : decode cX4_isWell 1 = .ok (.getfield 22, 3) := by decide +kernel
theorem dX4_isWell_4 : decode cX4_isWell 4 = .ok (.iconst (-1), 1) := by decide +kernel
theorem dX4_isWell_5 : decode cX4_isWell 5 = .ok (.if_icmp .ne 7, 3) := by decide +kernel
theorem dX4_isWell_8 : decode cX4_isWell 8 = .ok (.iconst 1, 1) := by decide +kernel
theorem dX4_isWell_9 : decode cX4_isWell 9 = .ok (.goto 4, 3) := by decide +kernel
theorem dX4_isWell_12 : decode cX4_isWell 12 = .ok (.iconst 0, 1) := by decide +kernel
theorem dX4_isWell_13 : decode cX4_isWell 13 = .ok (.ireturn, 1) := by decide +kernel
theorem dX4_fail_0 : decode cX4_fail 0 = .ok (.aload_n 0, 1) := by decide +kernel
theorem dX4_fail_1 : decode cX4_fail 1 = .ok (.getfield 22, 3) := by decide +kernel
theorem dX4_fail_4 : decode cX4_fail 4 = .ok (.iconst (-1), 1) := by decide +kernel
theorem dX4_fail_5 : decode cX4_fail 5 = .ok (.if_icmp .ne 8, 3) := by decide +kernel
theorem dX4_fail_8 : decode cX4_fail 8 = .ok (.aload_n 0, 1) := by decide +kernel
theorem dX4_fail_9 : decode cX4_fail 9 = .ok (.iload_n 1, 1) := by decide +kernel
theorem dX4_fail_10 : decode cX4_fail 10 = .ok (.putfield 22, 3) := by decide +kernel
theorem dX4_fail_13 : decode cX4_fail 13 = .ok (.return_, 1) := by decide +kernel
theorem dX4_here_0 : decode cX4_here 0 = .ok (.aload_n 0, 1) := by decide +kernel
theorem dX4_here_1 : decode cX4_here 1 = .ok (.getfield 19, 3) := by decide +kernel
theorem dX4_here_4 : decode cX4_here 4 = .ok (.ifCond .lt 26, 3) := by decide +kernel
theorem dX4_here_7 : decode cX4_here 7 = .ok (.aload_n 0, 1) := by decide +kernel
theorem dX4_here_8 : decode cX4_here 8 = .ok (.getfield 19, 3) := by decide +kernel
theorem dX4_here_11 : decode cX4_here 11 = .ok (.aload_n 0, 1) := by decide +kernel
theorem dX4_here_12 : decode cX4_here 12 = .ok (.getfield 15, 3) := by decide +kernel
theorem dX4_here_15 : decode cX4_here 15 = .ok (.if_icmp .ge 15, 3) := by decide +kernel
theorem dX4_here_18 : decode cX4_here 18 = .ok (.aload_n 0, 1) := by decide +kernel
theorem dX4_here_19 : decode cX4_here 19 = .ok (.getfield 9, 3) := by decide +kernel
theorem dX4_here_22 : decode cX4_here 22 = .ok (.aload_n 0, 1) := by decide +kernel
theorem dX4_here_23 : decode cX4_here 23 = .ok (.getfield 19, 3) := by decide +kernel
theorem dX4_here_26 : decode cX4_here 26 = .ok (.iaload, 1) := by decide +kernel
theorem dX4_here_27 : decode cX4_here 27 = .ok (.goto 4, 3) := by decide +kernel
theorem dX4_here_30 : decode cX4_here 30 = .ok (.iconst (-1), 1) := by decide +kernel
theorem dX4_here_31 : decode cX4_here 31 = .ok (.ireturn, 1) := by decide +kernel
theorem dX4_take_0 : decode cX4_take 0 = .ok (.aload_n 0, 1) := by decide +kernel
theorem dX4_take_1 : decode cX4_take 1 = .ok (.invokevirtual 43, 3) := by decide +kernel
theorem dX4_take_4 : decode cX4_take 4 = .ok (.ifCond .ne 5, 3) := by decide +kernel
theorem dX4_take_7 : decode cX4_take 7 = .ok (.iconst 0, 1) := by decide +kernel
theorem dX4_take_8 : decode cX4_take 8 = .ok (.ireturn, 1) := by decide +kernel
theorem dX4_take_9 : decode cX4_take 9 = .ok (.aload_n 0, 1) := by decide +kernel
theorem dX4_take_10 : decode cX4_take 10 = .ok (.invokevirtual 47, 3) := by decide +kernel
theorem dX4_take_13 : decode cX4_take 13 = .ok (.iload_n 1, 1) := by decide +kernel
theorem dX4_take_14 : decode cX4_take 14 = .ok (.if_icmp .eq 13, 3) := by decide +kernel
theorem dX4_take_17 : decode cX4_take 17 = .ok (.aload_n 0, 1) := by decide +kernel
theorem dX4_take_18 : decode cX4_take 18 = .ok (.aload_n 0, 1) := by decide +kernel
theorem dX4_take_19 : decode cX4_take 19 = .ok (.getfield 19, 3) := by decide +kernel
theorem dX4_take_22 : decode cX4_take 22 = .ok (.invokevirtual 51, 3) := by decide +kernel
theorem dX4_take_25 : decode cX4_take 25 = .ok (.iconst 0, 1) := by decide +kernel
theorem dX4_take_26 : decode cX4_take 26 = .ok (.ireturn, 1) := by decide +kernel
theorem dX4_take_27 : decode cX4_take 27 = .ok (.aload_n 0, 1) := by decide +kernel
theorem dX4_take_28 : decode cX4_take 28 = .ok (.dup, 1) := by decide +kernel
theorem dX4_take_29 : decode cX4_take 29 = .ok (.getfield 19, 3) := by decide +kernel
theorem dX4_take_32 : decode cX4_take 32 = .ok (.iconst 1, 1) := by decide +kernel
theorem dX4_take_33 : decode cX4_take 33 = .ok (.iadd, 1) := by decide +kernel
theorem dX4_take_34 : decode cX4_take 34 = .ok (.putfield 19, 3) := by decide +kernel
theorem dX4_take_37 : decode cX4_take 37 = .ok (.iconst 1, 1) := by decide +kernel
theorem dX4_take_38 : decode cX4_take 38 = .ok (.ireturn, 1) := by decide +kernel
theorem dX4_isDigit_0 : decode cX4_isDigit 0 = .ok (.iload_n 0, 1) := by decide +kernel
theorem dX4_isDigit_1 : decode cX4_isDigit 1 = .ok (.bipush 48, 2) := by decide +kernel
theorem dX4_isDigit_3 : decode cX4_isDigit 3 = .ok (.if_icmp .lt 13, 3) := by decide +kernel
theorem dX4_isDigit_6 : decode cX4_isDigit 6 = .ok (.iload_n 0, 1) := by decide +kernel
theorem dX4_isDigit_7 : decode cX4_isDigit 7 = .ok (.bipush 57, 2) := by decide +kernel
theorem dX4_isDigit_9 : decode cX4_isDigit 9 = .ok (.if_icmp .gt 7, 3) := by decide +kernel
theorem dX4_isDigit_12 : decode cX4_isDigit 12 = .ok (.iconst 1, 1) := by decide +kernel
theorem dX4_isDigit_13 : decode cX4_isDigit 13 = .ok (.goto 4, 3) := by decide +kernel
theorem dX4_isDigit_16 : decode cX4_isDigit 16 = .ok (.iconst 0, 1) := by decide +kernel
theorem dX4_isDigit_17 : decode cX4_isDigit 17 = .ok (.ireturn, 1) := by decide +kernel
theorem dX4_isVar_0 : decode cX4_isVar 0 = .ok (.iload_n 0, 1) := by decide +kernel
theorem dX4_isVar_1 : decode cX4_isVar 1 = .ok (.bipush 109, 2) := by decide +kernel
theorem dX4_isVar_3 : decode cX4_isVar 3 = .ok (.if_icmp .lt 13, 3) := by decide +kernel
theorem dX4_isVar_6 : decode cX4_isVar 6 = .ok (.iload_n 0, 1) := by decide +kernel
theorem dX4_isVar_7 : decode cX4_isVar 7 = .ok (.bipush 122, 2) := by decide +kernel
theorem dX4_isVar_9 : decode cX4_isVar 9 = .ok (.if_icmp .gt 7, 3) := by decide +kernel
theorem dX4_isVar_12 : decode cX4_isVar 12 = .ok (.iconst 1, 1) := by decide +kernel
theorem dX4_isVar_13 : decode cX4_isVar 13 = .ok (.goto 4, 3) := by decide +kernel
theorem dX4_isVar_16 : decode cX4_isVar 16 = .ok (.iconst 0, 1) := by decide +kernel
theorem dX4_isVar_17 : decode cX4_isVar 17 = .ok (.ireturn, 1) := by decide +kernel
theorem dX4_isLetter_0 : decode cX4_isLetter 0 = .ok (.iload_n 0, 1) := by decide +kernel
theorem dX4_isLetter_1 : decode cX4_isLetter 1 = .ok (.bipush 97, 2) := by decide +kernel
theorem dX4_isLetter_3 : decode cX4_isLetter 3 = .ok (.if_icmp .lt 13, 3) := by decide +kernel
theorem dX4_isLetter_6 : decode cX4_isLetter 6 = .ok (.iload_n 0, 1) := by decide +kernel
theorem dX4_isLetter_7 : decode cX4_isLetter 7 = .ok (.bipush 108, 2) := by decide +kernel
theorem dX4_isLetter_9 : decode cX4_isLetter 9 = .ok (.if_icmp .gt 7, 3) := by decide +kernel
theorem dX4_isLetter_12 : decode cX4_isLetter 12 = .ok (.iconst 1, 1) := by decide +kernel
theorem dX4_isLetter_13 : decode cX4_isLetter 13 = .ok (.goto 4, 3) := by decide +kernel
theorem dX4_isLetter_16 : decode cX4_isLetter 16 = .ok (.iconst 0, 1) := by decide +kernel
theorem dX4_isLetter_17 : decode cX4_isLetter 17 = .ok (.ireturn, 1) := by decide +kernel
theorem dX4_isNumber_0 : decode cX4_isNumber 0 = .ok (.iload_n 0, 1) := by decide +kernel
theorem dX4_isNumber_1 : decode cX4_isNumber 1 = .ok (.bipush 45, 2) := by decide +kernel
theorem dX4_isNumber_3 : decode cX4_isNumber 3 = .ok (.if_icmp .eq 10, 3) := by decide +kernel
theorem dX4_isNumber_6 : decode cX4_isNumber 6 = .ok (.iload_n 0, 1) := by decide +kernel
theorem dX4_isNumber_7 : decode cX4_isNumber 7 = .ok (.invokestatic 55, 3) := by decide +kernel
theorem dX4_isNumber_10 : decode cX4_isNumber 10 = .ok (.ifCond .eq 7, 3) := by decide +kernel
theorem dX4_isNumber_13 : decode cX4_isNumber 13 = .ok (.iconst 1, 1) := by decide +kernel
theorem dX4_isNumber_14 : decode cX4_isNumber 14 = .ok (.goto 4, 3) := by decide +kernel
theorem dX4_isNumber_17 : decode cX4_isNumber 17 = .ok (.iconst 0, 1) := by decide +kernel
theorem dX4_isNumber_18 : decode cX4_isNumber 18 = .ok (.ireturn, 1) := by decide +kernel
theorem dX4_readProgram_0 : decode cX4_readProgram 0 = .ok (.aload_n 0, 1) := by decide +kernel
theorem dX4_readProgram_1 : decode cX4_readProgram 1 = .ok (.aload_n 1, 1) := by decide +kernel
theorem dX4_readProgram_2 : decode cX4_readProgram 2 = .ok (.putfield 25, 3) := by decide +kernel
theorem dX4_readProgram_5 : decode cX4_readProgram 5 = .ok (.aload_n 0, 1) := by decide +kernel
theorem dX4_readProgram_6 : decode cX4_readProgram 6 = .ok (.getfield 25, 3) := by decide +kernel
theorem dX4_readProgram_9 : decode cX4_readProgram 9 = .ok (.invokevirtual 59, 3) := by decide +kernel
theorem dX4_readProgram_12 : decode cX4_readProgram 12 = .ok (.iconst 0, 1) := by decide +kernel
theorem dX4_readProgram_13 : decode cX4_readProgram 13 = .ok (.istore_n 2, 1) := by decide +kernel
theorem dX4_readProgram_14 : decode cX4_readProgram 14 = .ok (.iload_n 2, 1) := by decide +kernel
theorem dX4_readProgram_15 : decode cX4_readProgram 15 = .ok (.sipush 800, 3) := by decide +kernel
theorem dX4_readProgram_18 : decode cX4_readProgram 18 = .ok (.if_icmp .gt 31, 3) := by decide +kernel
theorem dX4_readProgram_21 : decode cX4_readProgram 21 = .ok (.aload_n 0, 1) := by decide +kernel
theorem dX4_readProgram_22 : decode cX4_readProgram 22 = .ok (.invokevirtual 43, 3) := by decide +kernel
theorem dX4_readProgram_25 : decode cX4_readProgram 25 = .ok (.ifCond .eq 24, 3) := by decide +kernel
theorem dX4_readProgram_28 : decode cX4_readProgram 28 = .ok (.aload_n 0, 1) := by decide +kernel
theorem dX4_readProgram_29 : decode cX4_readProgram 29 = .ok (.getfield 19, 3) := by decide +kernel
theorem dX4_readProgram_32 : decode cX4_readProgram 32 = .ok (.aload_n 0, 1) := by decide +kernel
theorem dX4_readProgram_33 : decode cX4_readProgram 33 = .ok (.getfield 15, 3) := by decide +kernel
theorem dX4_readProgram_36 : decode cX4_readProgram 36 = .ok (.if_icmp .ge 13, 3) := by decide +kernel
theorem dX4_readProgram_39 : decode cX4_readProgram 39 = .ok (.aload_n 0, 1) := by decide +kernel
theorem dX4_readProgram_40 : decode cX4_readProgram 40 = .ok (.invokevirtual 64, 3) := by decide +kernel
theorem dX4_readProgram_43 : decode cX4_readProgram 43 = .ok (.iinc 2 1, 3) := by decide +kernel
theorem dX4_readProgram_46 : decode cX4_readProgram 46 = .ok (.goto (-32), 3) := by decide +kernel
theorem dX4_readProgram_49 : decode cX4_readProgram 49 = .ok (.return_, 1) := by decide +kernel
theorem dX4_readFunction_0 : decode cX4_readFunction 0 = .ok (.aload_n 0, 1) := by decide +kernel
theorem dX4_readFunction_1 : decode cX4_readFunction 1 = .ok (.getfield 19, 3) := by decide +kernel
theorem dX4_readFunction_4 : decode cX4_readFunction 4 = .ok (.istore_n 1, 1) := by decide +kernel
theorem dX4_readFunction_5 : decode cX4_readFunction 5 = .ok (.aload_n 0, 1) := by decide +kernel
theorem dX4_readFunction_6 : decode cX4_readFunction 6 = .ok (.invokevirtual 47, 3) := by decide +kernel
theorem dX4_readFunction_9 : decode cX4_readFunction 9 = .ok (.istore_n 2, 1) := by decide +kernel
theorem dX4_readFunction_10 : decode cX4_readFunction 10 = .ok (.iload_n 2, 1) := by decide +kernel
theorem dX4_readFunction_11 : decode cX4_readFunction 11 = .ok (.invokestatic 67, 3) := by decide +kernel
theorem dX4_readFunction_14 : decode cX4_readFunction 14 = .ok (.ifCond .ne 12, 3) := by decide +kernel
theorem dX4_readFunction_17 : decode cX4_readFunction 17 = .ok (.aload_n 0, 1) := by decide +kernel
theorem dX4_readFunction_18 : decode cX4_readFunction 18 = .ok (.aload_n 0, 1) := by decide +kernel
theorem dX4_readFunction_19 : decode cX4_readFunction 19 = .ok (.getfield 19, 3) := by decide +kernel
theorem dX4_readFunction_22 : decode cX4_readFunction 22 = .ok (.invokevirtual 51, 3) := by decide +kernel
theorem dX4_readFunction_25 : decode cX4_readFunction 25 = .ok (.return_, 1) := by decide +kernel
theorem dX4_readFunction_26 : decode cX4_readFunction 26 = .ok (.aload_n 0, 1) := by decide +kernel
theorem dX4_readFunction_27 : decode cX4_readFunction 27 = .ok (.dup, 1) := by decide +kernel
theorem dX4_readFunction_28 : decode cX4_readFunction 28 = .ok (.getfield 19, 3) := by decide +kernel
theorem dX4_readFunction_31 : decode cX4_readFunction 31 = .ok (.iconst 1, 1) := by decide +kernel
theorem dX4_readFunction_32 : decode cX4_readFunction 32 = .ok (.iadd, 1) := by decide +kernel
theorem dX4_readFunction_33 : decode cX4_readFunction 33 = .ok (.putfield 19, 3) := by decide +kernel
theorem dX4_readFunction_36 : decode cX4_readFunction 36 = .ok (.aload_n 0, 1) := by decide +kernel
theorem dX4_readFunction_37 : decode cX4_readFunction 37 = .ok (.iconst 0, 1) := by decide +kernel
theorem dX4_readFunction_38 : decode cX4_readFunction 38 = .ok (.putfield 34, 3) := by decide +kernel
theorem dX4_readFunction_41 : decode cX4_readFunction 41 = .ok (.aload_n 0, 1) := by decide +kernel
theorem dX4_readFunction_42 : decode cX4_readFunction 42 = .ok (.bipush 40, 2) := by decide +kernel
theorem dX4_readFunction_44 : decode cX4_readFunction 44 = .ok (.invokevirtual 70, 3) := by decide +kernel
theorem dX4_readFunction_47 : decode cX4_readFunction 47 = .ok (.pop, 1) := by decide +kernel
theorem dX4_readFunction_48 : decode cX4_readFunction 48 = .ok (.aload_n 0, 1) := by decide +kernel
theorem dX4_readFunction_49 : decode cX4_readFunction 49 = .ok (.invokevirtual 73, 3) := by decide +kernel
theorem dX4_readFunction_52 : decode cX4_readFunction 52 = .ok (.aload_n 0, 1) := by decide +kernel
theorem dX4_readFunction_53 : decode cX4_readFunction 53 = .ok (.bipush 41, 2) := by decide +kernel
theorem dX4_readFunction_55 : decode cX4_readFunction 55 = .ok (.invokevirtual 70, 3) := by decide +kernel
theorem dX4_readFunction_58 : decode cX4_readFunction 58 = .ok (.pop, 1) := by decide +kernel
theorem dX4_readFunction_59 : decode cX4_readFunction 59 = .ok (.aload_n 0, 1) := by decide +kernel
theorem dX4_readFunction_60 : decode cX4_readFunction 60 = .ok (.invokevirtual 43, 3) := by decide +kernel
theorem dX4_readFunction_63 : decode cX4_readFunction 63 = .ok (.ifCond .ne 4, 3) := by decide +kernel
theorem dX4_readFunction_66 : decode cX4_readFunction 66 = .ok (.return_, 1) := by decide +kernel
theorem dX4_readFunction_67 : decode cX4_readFunction 67 = .ok (.iload_n 2, 1) := by decide +kernel
theorem dX4_readFunction_68 : decode cX4_readFunction 68 = .ok (.bipush 97, 2) := by decide +kernel
theorem dX4_readFunction_70 : decode cX4_readFunction 70 = .ok (.isub, 1) := by decide +kernel
theorem dX4_readFunction_71 : decode cX4_readFunction 71 = .ok (.bipush 6, 2) := by decide +kernel
theorem dX4_readFunction_73 : decode cX4_readFunction 73 = .ok (.imul, 1) := by decide +kernel
theorem dX4_readFunction_74 : decode cX4_readFunction 74 = .ok (.aload_n 0, 1) := by decide +kernel
theorem dX4_readFunction_75 : decode cX4_readFunction 75 = .ok (.getfield 34, 3) := by decide +kernel
theorem dX4_readFunction_78 : decode cX4_readFunction 78 = .ok (.iadd, 1) := by decide +kernel
theorem dX4_readFunction_79 : decode cX4_readFunction 79 = .ok (.istore_n 3, 1) := by decide +kernel
theorem dX4_readFunction_80 : decode cX4_readFunction 80 = .ok (.aload_n 0, 1) := by decide +kernel
theorem dX4_readFunction_81 : decode cX4_readFunction 81 = .ok (.invokevirtual 47, 3) := by decide +kernel
theorem dX4_readFunction_84 : decode cX4_readFunction 84 = .ok (.bipush 61, 2) := by decide +kernel
theorem dX4_readFunction_86 : decode cX4_readFunction 86 = .ok (.if_icmp .ne 20, 3) := by decide +kernel
theorem dX4_readFunction_89 : decode cX4_readFunction 89 = .ok (.aload_n 0, 1) := by decide +kernel
theorem dX4_readFunction_90 : decode cX4_readFunction 90 = .ok (.getfield 25, 3) := by decide +kernel
theorem dX4_readFunction_93 : decode cX4_readFunction 93 = .ok (.iload_n 3, 1) := by decide +kernel
theorem dX4_readFunction_94 : decode cX4_readFunction 94 = .ok (.invokevirtual 76, 3) := by decide +kernel
theorem dX4_readFunction_97 : decode cX4_readFunction 97 = .ok (.iconst (-1), 1) := by decide +kernel
theorem dX4_readFunction_98 : decode cX4_readFunction 98 = .ok (.if_icmp .eq 8, 3) := by decide +kernel
theorem dX4_readFunction_101 : decode cX4_readFunction 101 = .ok (.aload_n 0, 1) := by decide +kernel
theorem dX4_readFunction_102 : decode cX4_readFunction 102 = .ok (.iload_n 1, 1) := by decide +kernel
theorem dX4_readFunction_103 : decode cX4_readFunction 103 = .ok (.invokevirtual 51, 3) := by decide +kernel
theorem dX4_readFunction_106 : decode cX4_readFunction 106 = .ok (.aload_n 0, 1) := by decide +kernel
theorem dX4_readFunction_107 : decode cX4_readFunction 107 = .ok (.bipush 61, 2) := by decide +kernel
theorem dX4_readFunction_109 : decode cX4_readFunction 109 = .ok (.invokevirtual 70, 3) := by decide +kernel
theorem dX4_readFunction_112 : decode cX4_readFunction 112 = .ok (.ifCond .eq 35, 3) := by decide +kernel
theorem dX4_readFunction_115 : decode cX4_readFunction 115 = .ok (.aload_n 0, 1) := by decide +kernel
theorem dX4_readFunction_116 : decode cX4_readFunction 116 = .ok (.getfield 25, 3) := by decide +kernel
theorem dX4_readFunction_119 : decode cX4_readFunction 119 = .ok (.iload_n 3, 1) := by decide +kernel
theorem dX4_readFunction_120 : decode cX4_readFunction 120 = .ok (.invokevirtual 80, 3) := by decide +kernel
theorem dX4_readFunction_123 : decode cX4_readFunction 123 = .ok (.aload_n 0, 1) := by decide +kernel
theorem dX4_readFunction_124 : decode cX4_readFunction 124 = .ok (.iconst 0, 1) := by decide +kernel
theorem dX4_readFunction_125 : decode cX4_readFunction 125 = .ok (.invokevirtual 83, 3) := by decide +kernel
theorem dX4_readFunction_128 : decode cX4_readFunction 128 = .ok (.aload_n 0, 1) := by decide +kernel
theorem dX4_readFunction_129 : decode cX4_readFunction 129 = .ok (.bipush 59, 2) := by decide +kernel
theorem dX4_readFunction_131 : decode cX4_readFunction 131 = .ok (.invokevirtual 70, 3) := by decide +kernel
theorem dX4_readFunction_134 : decode cX4_readFunction 134 = .ok (.pop, 1) := by decide +kernel
theorem dX4_readFunction_135 : decode cX4_readFunction 135 = .ok (.aload_n 0, 1) := by decide +kernel
theorem dX4_readFunction_136 : decode cX4_readFunction 136 = .ok (.getfield 25, 3) := by decide +kernel
theorem dX4_readFunction_139 : decode cX4_readFunction 139 = .ok (.bipush 14, 2) := by decide +kernel
theorem dX4_readFunction_141 : decode cX4_readFunction 141 = .ok (.iconst 0, 1) := by decide +kernel
theorem dX4_readFunction_142 : decode cX4_readFunction 142 = .ok (.iconst 0, 1) := by decide +kernel
theorem dX4_readFunction_143 : decode cX4_readFunction 143 = .ok (.invokevirtual 86, 3) := by decide +kernel
theorem dX4_readFunction_146 : decode cX4_readFunction 146 = .ok (.pop, 1) := by decide +kernel
theorem dX4_readFunction_147 : decode cX4_readFunction 147 = .ok (.return_, 1) := by decide +kernel
theorem dX4_readNames_0 : decode cX4_readNames 0 = .ok (.aload_n 0, 1) := by decide +kernel
theorem dX4_readNames_1 : decode cX4_readNames 1 = .ok (.invokevirtual 47, 3) := by decide +kernel
theorem dX4_readNames_4 : decode cX4_readNames 4 = .ok (.bipush 41, 2) := by decide +kernel
theorem dX4_readNames_6 : decode cX4_readNames 6 = .ok (.if_icmp .ne 4, 3) := by decide +kernel
theorem dX4_readNames_9 : decode cX4_readNames 9 = .ok (.return_, 1) := by decide +kernel
theorem dX4_readNames_10 : decode cX4_readNames 10 = .ok (.aload_n 0, 1) := by decide +kernel
theorem dX4_readNames_11 : decode cX4_readNames 11 = .ok (.invokevirtual 90, 3) := by decide +kernel
theorem dX4_readNames_14 : decode cX4_readNames 14 = .ok (.iconst 1, 1) := by decide +kernel
theorem dX4_readNames_15 : decode cX4_readNames 15 = .ok (.istore_n 1, 1) := by decide +kernel
theorem dX4_readNames_16 : decode cX4_readNames 16 = .ok (.iload_n 1, 1) := by decide +kernel
theorem dX4_readNames_17 : decode cX4_readNames 17 = .ok (.iconst 5, 1) := by decide +kernel
theorem dX4_readNames_18 : decode cX4_readNames 18 = .ok (.if_icmp .ge 39, 3) := by decide +kernel
theorem dX4_readNames_21 : decode cX4_readNames 21 = .ok (.aload_n 0, 1) := by decide +kernel
theorem dX4_readNames_22 : decode cX4_readNames 22 = .ok (.invokevirtual 43, 3) := by decide +kernel
theorem dX4_readNames_25 : decode cX4_readNames 25 = .ok (.ifCond .eq 32, 3) := by decide +kernel
theorem dX4_readNames_28 : decode cX4_readNames 28 = .ok (.aload_n 0, 1) := by decide +kernel
theorem dX4_readNames_29 : decode cX4_readNames 29 = .ok (.invokevirtual 47, 3) := by decide +kernel
theorem dX4_readNames_32 : decode cX4_readNames 32 = .ok (.bipush 44, 2) := by decide +kernel
theorem dX4_readNames_34 : decode cX4_readNames 34 = .ok (.if_icmp .ne 23, 3) := by decide +kernel
theorem dX4_readNames_37 : decode cX4_readNames 37 = .ok (.aload_n 0, 1) := by decide +kernel
theorem dX4_readNames_38 : decode cX4_readNames 38 = .ok (.dup, 1) := by decide +kernel
theorem dX4_readNames_39 : decode cX4_readNames 39 = .ok (.getfield 19, 3) := by decide +kernel
theorem dX4_readNames_42 : decode cX4_readNames 42 = .ok (.iconst 1, 1) := by decide +kernel
theorem dX4_readNames_43 : decode cX4_readNames 43 = .ok (.iadd, 1) := by decide +kernel
theorem dX4_readNames_44 : decode cX4_readNames 44 = .ok (.putfield 19, 3) := by decide +kernel
theorem dX4_readNames_47 : decode cX4_readNames 47 = .ok (.aload_n 0, 1) := by decide +kernel
theorem dX4_readNames_48 : decode cX4_readNames 48 = .ok (.invokevirtual 90, 3) := by decide +kernel
theorem dX4_readNames_51 : decode cX4_readNames 51 = .ok (.iinc 1 1, 3) := by decide +kernel
theorem dX4_readNames_54 : decode cX4_readNames 54 = .ok (.goto (-38), 3) := by decide +kernel
theorem dX4_readNames_57 : decode cX4_readNames 57 = .ok (.return_, 1) := by decide +kernel
theorem dX4_readName_0 : decode cX4_readName 0 = .ok (.aload_n 0, 1) := by decide +kernel
theorem dX4_readName_1 : decode cX4_readName 1 = .ok (.invokevirtual 43, 3) := by decide +kernel
theorem dX4_readName_4 : decode cX4_readName 4 = .ok (.ifCond .ne 4, 3) := by decide +kernel
theorem dX4_readName_7 : decode cX4_readName 7 = .ok (.return_, 1) := by decide +kernel
theorem dX4_readName_8 : decode cX4_readName 8 = .ok (.aload_n 0, 1) := by decide +kernel
theorem dX4_readName_9 : decode cX4_readName 9 = .ok (.invokevirtual 47, 3) := by decide +kernel
theorem dX4_readName_12 : decode cX4_readName 12 = .ok (.istore_n 1, 1) := by decide +kernel
theorem dX4_readName_13 : decode cX4_readName 13 = .ok (.iload_n 1, 1) := by decide +kernel
theorem dX4_readName_14 : decode cX4_readName 14 = .ok (.invokestatic 95, 3) := by decide +kernel
theorem dX4_readName_17 : decode cX4_readName 17 = .ok (.ifCond .eq 12, 3) := by decide +kernel
theorem dX4_readName_20 : decode cX4_readName 20 = .ok (.aload_n 0, 1) := by decide +kernel
theorem dX4_readName_21 : decode cX4_readName 21 = .ok (.iload_n 1, 1) := by decide +kernel
theorem dX4_readName_22 : decode cX4_readName 22 = .ok (.invokevirtual 98, 3) := by decide +kernel
theorem dX4_readName_25 : decode cX4_readName 25 = .ok (.iconst (-1), 1) := by decide +kernel
theorem dX4_readName_26 : decode cX4_readName 26 = .ok (.if_icmp .eq 12, 3) := by decide +kernel
theorem dX4_readName_29 : decode cX4_readName 29 = .ok (.aload_n 0, 1) := by decide +kernel
theorem dX4_readName_30 : decode cX4_readName 30 = .ok (.aload_n 0, 1) := by decide +kernel
theorem dX4_readName_31 : decode cX4_readName 31 = .ok (.getfield 19, 3) := by decide +kernel
theorem dX4_readName_34 : decode cX4_readName 34 = .ok (.invokevirtual 51, 3) := by decide +kernel
theorem dX4_readName_37 : decode cX4_readName 37 = .ok (.return_, 1) := by decide +kernel
theorem dX4_readName_38 : decode cX4_readName 38 = .ok (.aload_n 0, 1) := by decide +kernel
theorem dX4_readName_39 : decode cX4_readName 39 = .ok (.dup, 1) := by decide +kernel
theorem dX4_readName_40 : decode cX4_readName 40 = .ok (.getfield 19, 3) := by decide +kernel
theorem dX4_readName_43 : decode cX4_readName 43 = .ok (.iconst 1, 1) := by decide +kernel
theorem dX4_readName_44 : decode cX4_readName 44 = .ok (.iadd, 1) := by decide +kernel
theorem dX4_readName_45 : decode cX4_readName 45 = .ok (.putfield 19, 3) := by decide +kernel
theorem dX4_readName_48 : decode cX4_readName 48 = .ok (.aload_n 0, 1) := by decide +kernel
theorem dX4_readName_49 : decode cX4_readName 49 = .ok (.iload_n 1, 1) := by decide +kernel
theorem dX4_readName_50 : decode cX4_readName 50 = .ok (.invokevirtual 101, 3) := by decide +kernel
theorem dX4_readName_53 : decode cX4_readName 53 = .ok (.return_, 1) := by decide +kernel
theorem dX4_nameOne_0 : decode cX4_nameOne 0 = .ok (.aload_n 0, 1) := by decide +kernel
theorem dX4_nameOne_1 : decode cX4_nameOne 1 = .ok (.getfield 34, 3) := by decide +kernel
theorem dX4_nameOne_4 : decode cX4_nameOne 4 = .ok (.aload_n 0, 1) := by decide +kernel
theorem dX4_nameOne_5 : decode cX4_nameOne 5 = .ok (.getfield 31, 3) := by decide +kernel
theorem dX4_nameOne_8 : decode cX4_nameOne 8 = .ok (.arraylength, 1) := by decide +kernel
theorem dX4_nameOne_9 : decode cX4_nameOne 9 = .ok (.if_icmp .ge 23, 3) := by decide +kernel
theorem dX4_nameOne_12 : decode cX4_nameOne 12 = .ok (.aload_n 0, 1) := by decide +kernel
theorem dX4_nameOne_13 : decode cX4_nameOne 13 = .ok (.getfield 31, 3) := by decide +kernel
theorem dX4_nameOne_16 : decode cX4_nameOne 16 = .ok (.aload_n 0, 1) := by decide +kernel
theorem dX4_nameOne_17 : decode cX4_nameOne 17 = .ok (.getfield 34, 3) := by decide +kernel
theorem dX4_nameOne_20 : decode cX4_nameOne 20 = .ok (.iload_n 1, 1) := by decide +kernel
theorem dX4_nameOne_21 : decode cX4_nameOne 21 = .ok (.iastore, 1) := by decide +kernel
theorem dX4_nameOne_22 : decode cX4_nameOne 22 = .ok (.aload_n 0, 1) := by decide +kernel
theorem dX4_nameOne_23 : decode cX4_nameOne 23 = .ok (.dup, 1) := by decide +kernel
theorem dX4_nameOne_24 : decode cX4_nameOne 24 = .ok (.getfield 34, 3) := by decide +kernel
theorem dX4_nameOne_27 : decode cX4_nameOne 27 = .ok (.iconst 1, 1) := by decide +kernel
theorem dX4_nameOne_28 : decode cX4_nameOne 28 = .ok (.iadd, 1) := by decide +kernel
theorem dX4_nameOne_29 : decode cX4_nameOne 29 = .ok (.putfield 34, 3) := by decide +kernel
theorem dX4_nameOne_32 : decode cX4_nameOne 32 = .ok (.return_, 1) := by decide +kernel
theorem dX4_slotOf_0 : decode cX4_slotOf 0 = .ok (.aload_n 0, 1) := by decide +kernel
theorem dX4_slotOf_1 : decode cX4_slotOf 1 = .ok (.getfield 34, 3) := by decide +kernel
theorem dX4_slotOf_4 : decode cX4_slotOf 4 = .ok (.iconst 1, 1) := by decide +kernel
theorem dX4_slotOf_5 : decode cX4_slotOf 5 = .ok (.isub, 1) := by decide +kernel
theorem dX4_slotOf_6 : decode cX4_slotOf 6 = .ok (.istore_n 2, 1) := by decide +kernel
theorem dX4_slotOf_7 : decode cX4_slotOf 7 = .ok (.iload_n 2, 1) := by decide +kernel
theorem dX4_slotOf_8 : decode cX4_slotOf 8 = .ok (.ifCond .lt 30, 3) := by decide +kernel
theorem dX4_slotOf_11 : decode cX4_slotOf 11 = .ok (.iload_n 2, 1) := by decide +kernel
theorem dX4_slotOf_12 : decode cX4_slotOf 12 = .ok (.aload_n 0, 1) := by decide +kernel
theorem dX4_slotOf_13 : decode cX4_slotOf 13 = .ok (.getfield 31, 3) := by decide +kernel
theorem dX4_slotOf_16 : decode cX4_slotOf 16 = .ok (.arraylength, 1) := by decide +kernel
theorem dX4_slotOf_17 : decode cX4_slotOf 17 = .ok (.if_icmp .ge 15, 3) := by decide +kernel
theorem dX4_slotOf_20 : decode cX4_slotOf 20 = .ok (.aload_n 0, 1) := by decide +kernel
theorem dX4_slotOf_21 : decode cX4_slotOf 21 = .ok (.getfield 31, 3) := by decide +kernel
theorem dX4_slotOf_24 : decode cX4_slotOf 24 = .ok (.iload_n 2, 1) := by decide +kernel
theorem dX4_slotOf_25 : decode cX4_slotOf 25 = .ok (.iaload, 1) := by decide +kernel
theorem dX4_slotOf_26 : decode cX4_slotOf 26 = .ok (.iload_n 1, 1) := by decide +kernel
theorem dX4_slotOf_27 : decode cX4_slotOf 27 = .ok (.if_icmp .ne 5, 3) := by decide +kernel
theorem dX4_slotOf_30 : decode cX4_slotOf 30 = .ok (.iload_n 2, 1) := by decide +kernel
theorem dX4_slotOf_31 : decode cX4_slotOf 31 = .ok (.ireturn, 1) := by decide +kernel
theorem dX4_slotOf_32 : decode cX4_slotOf 32 = .ok (.iinc 2 (-1), 3) := by decide +kernel
theorem dX4_slotOf_35 : decode cX4_slotOf 35 = .ok (.goto (-28), 3) := by decide +kernel
theorem dX4_slotOf_38 : decode cX4_slotOf 38 = .ok (.iconst (-1), 1) := by decide +kernel
theorem dX4_slotOf_39 : decode cX4_slotOf 39 = .ok (.ireturn, 1) := by decide +kernel
theorem dX4_readExpression_0 : decode cX4_readExpression 0 = .ok (.aload_n 0, 1) := by decide +kernel
theorem dX4_readExpression_1 : decode cX4_readExpression 1 = .ok (.invokevirtual 43, 3) := by decide +kernel
theorem dX4_readExpression_4 : decode cX4_readExpression 4 = .ok (.ifCond .ne 4, 3) := by decide +kernel
theorem dX4_readExpression_7 : decode cX4_readExpression 7 = .ok (.return_, 1) := by decide +kernel
theorem dX4_readExpression_8 : decode cX4_readExpression 8 = .ok (.aload_n 0, 1) := by decide +kernel
theorem dX4_readExpression_9 : decode cX4_readExpression 9 = .ok (.invokevirtual 47, 3) := by decide +kernel
theorem dX4_readExpression_12 : decode cX4_readExpression 12 = .ok (.istore_n 2, 1) := by decide +kernel
theorem dX4_readExpression_13 : decode cX4_readExpression 13 = .ok (.iload_n 1, 1) := by decide +kernel
theorem dX4_readExpression_14 : decode cX4_readExpression 14 = .ok (.bipush 20, 2) := by decide +kernel
theorem dX4_readExpression_16 : decode cX4_readExpression 16 = .ok (.if_icmp .ge 16, 3) := by decide +kernel
theorem dX4_readExpression_19 : decode cX4_readExpression 19 = .ok (.aload_n 0, 1) := by decide +kernel
theorem dX4_readExpression_20 : decode cX4_readExpression 20 = .ok (.getfield 25, 3) := by decide +kernel
theorem dX4_readExpression_23 : decode cX4_readExpression 23 = .ok (.iconst 2, 1) := by decide +kernel
theorem dX4_readExpression_24 : decode cX4_readExpression 24 = .ok (.invokevirtual 104, 3) := by decide +kernel
theorem dX4_readExpression_27 : decode cX4_readExpression 27 = .ok (.bipush 80, 2) := by decide +kernel
theorem dX4_readExpression_29 : decode cX4_readExpression 29 = .ok (.if_icmp .le 14, 3) := by decide +kernel
theorem dX4_readExpression_32 : decode cX4_readExpression 32 = .ok (.aload_n 0, 1) := by decide +kernel
theorem dX4_readExpression_33 : decode cX4_readExpression 33 = .ok (.aload_n 0, 1) := by decide +kernel
theorem dX4_readExpression_34 : decode cX4_readExpression 34 = .ok (.getfield 19, 3) := by decide +kernel
theorem dX4_readExpression_37 : decode cX4_readExpression 37 = .ok (.invokevirtual 51, 3) := by decide +kernel
theorem dX4_readExpression_40 : decode cX4_readExpression 40 = .ok (.goto 72, 3) := by decide +kernel
theorem dX4_readExpression_43 : decode cX4_readExpression 43 = .ok (.iload_n 2, 1) := by decide +kernel
theorem dX4_readExpression_44 : decode cX4_readExpression 44 = .ok (.invokestatic 107, 3) := by decide +kernel
theorem dX4_readExpression_47 : decode cX4_readExpression 47 = .ok (.ifCond .eq 28, 3) := by decide +kernel
theorem dX4_readExpression_50 : decode cX4_readExpression 50 = .ok (.aload_n 0, 1) := by decide +kernel
theorem dX4_readExpression_51 : decode cX4_readExpression 51 = .ok (.invokevirtual 110, 3) := by decide +kernel
theorem dX4_readExpression_54 : decode cX4_readExpression 54 = .ok (.lstore_n 3, 1) := by decide +kernel
theorem dX4_readExpression_55 : decode cX4_readExpression 55 = .ok (.aload_n 0, 1) := by decide +kernel
theorem dX4_readExpression_56 : decode cX4_readExpression 56 = .ok (.getfield 25, 3) := by decide +kernel
theorem dX4_readExpression_59 : decode cX4_readExpression 59 = .ok (.iconst 0, 1) := by decide +kernel
theorem dX4_readExpression_60 : decode cX4_readExpression 60 = .ok (.lload_n 3, 1) := by decide +kernel
theorem dX4_readExpression_61 : decode cX4_readExpression 61 = .ok (.invokestatic 114, 3) := by decide +kernel
theorem dX4_readExpression_64 : decode cX4_readExpression 64 = .ok (.lload_n 3, 1) := by decide +kernel
theorem dX4_readExpression_65 : decode cX4_readExpression 65 = .ok (.invokestatic 120, 3) := by decide +kernel
theorem dX4_readExpression_68 : decode cX4_readExpression 68 = .ok (.invokevirtual 86, 3) := by decide +kernel
theorem dX4_readExpression_71 : decode cX4_readExpression 71 = .ok (.pop, 1) := by decide +kernel
theorem dX4_readExpression_72 : decode cX4_readExpression 72 = .ok (.goto 40, 3) := by decide +kernel
theorem dX4_readExpression_75 : decode cX4_readExpression 75 = .ok (.iload_n 2, 1) := by decide +kernel
theorem dX4_readExpression_76 : decode cX4_readExpression 76 = .ok (.invokestatic 95, 3) := by decide +kernel
theorem dX4_readExpression_79 : decode cX4_readExpression 79 = .ok (.ifCond .eq 11, 3) := by decide +kernel
theorem dX4_readExpression_82 : decode cX4_readExpression 82 = .ok (.aload_n 0, 1) := by decide +kernel
theorem dX4_readExpression_83 : decode cX4_readExpression 83 = .ok (.iload_n 2, 1) := by decide +kernel
theorem dX4_readExpression_84 : decode cX4_readExpression 84 = .ok (.invokevirtual 123, 3) := by decide +kernel
theorem dX4_readExpression_87 : decode cX4_readExpression 87 = .ok (.goto 25, 3) := by decide +kernel
theorem dX4_readExpression_90 : decode cX4_readExpression 90 = .ok (.iload_n 2, 1) := by decide +kernel
theorem dX4_readExpression_91 : decode cX4_readExpression 91 = .ok (.invokestatic 67, 3) := by decide +kernel
theorem dX4_readExpression_94 : decode cX4_readExpression 94 = .ok (.ifCond .eq 12, 3) := by decide +kernel
theorem dX4_readExpression_97 : decode cX4_readExpression 97 = .ok (.aload_n 0, 1) := by decide +kernel
theorem dX4_readExpression_98 : decode cX4_readExpression 98 = .ok (.iload_n 2, 1) := by decide +kernel
theorem dX4_readExpression_99 : decode cX4_readExpression 99 = .ok (.iload_n 1, 1) := by decide +kernel
theorem dX4_readExpression_100 : decode cX4_readExpression 100 = .ok (.invokevirtual 126, 3) := by decide +kernel
theorem dX4_readExpression_103 : decode cX4_readExpression 103 = .ok (.goto 9, 3) := by decide +kernel
theorem dX4_readExpression_106 : decode cX4_readExpression 106 = .ok (.aload_n 0, 1) := by decide +kernel
theorem dX4_readExpression_107 : decode cX4_readExpression 107 = .ok (.iload_n 2, 1) := by decide +kernel
theorem dX4_readExpression_108 : decode cX4_readExpression 108 = .ok (.iload_n 1, 1) := by decide +kernel
theorem dX4_readExpression_109 : decode cX4_readExpression 109 = .ok (.invokevirtual 130, 3) := by decide +kernel
theorem dX4_readExpression_112 : decode cX4_readExpression 112 = .ok (.return_, 1) := by decide +kernel
theorem dX4_readNumber_0 : decode cX4_readNumber 0 = .ok (.aload_n 0, 1) := by decide +kernel
theorem dX4_readNumber_1 : decode cX4_readNumber 1 = .ok (.invokevirtual 47, 3) := by decide +kernel
theorem dX4_readNumber_4 : decode cX4_readNumber 4 = .ok (.bipush 45, 2) := by decide +kernel
theorem dX4_readNumber_6 : decode cX4_readNumber 6 = .ok (.if_icmp .ne 7, 3) := by decide +kernel
theorem dX4_readNumber_9 : decode cX4_readNumber 9 = .ok (.iconst 1, 1) := by decide +kernel
theorem dX4_readNumber_10 : decode cX4_readNumber 10 = .ok (.goto 4, 3) := by decide +kernel
theorem dX4_readNumber_13 : decode cX4_readNumber 13 = .ok (.iconst 0, 1) := by decide +kernel
theorem dX4_readNumber_14 : decode cX4_readNumber 14 = .ok (.istore_n 1, 1) := by decide +kernel
theorem dX4_readNumber_15 : decode cX4_readNumber 15 = .ok (.iload_n 1, 1) := by decide +kernel
theorem dX4_readNumber_16 : decode cX4_readNumber 16 = .ok (.ifCond .eq 13, 3) := by decide +kernel
theorem dX4_readNumber_19 : decode cX4_readNumber 19 = .ok (.aload_n 0, 1) := by decide +kernel
theorem dX4_readNumber_20 : decode cX4_readNumber 20 = .ok (.dup, 1) := by decide +kernel
theorem dX4_readNumber_21 : decode cX4_readNumber 21 = .ok (.getfield 19, 3) := by decide +kernel
theorem dX4_readNumber_24 : decode cX4_readNumber 24 = .ok (.iconst 1, 1) := by decide +kernel
theorem dX4_readNumber_25 : decode cX4_readNumber 25 = .ok (.iadd, 1) := by decide +kernel
theorem dX4_readNumber_26 : decode cX4_readNumber 26 = .ok (.putfield 19, 3) := by decide +kernel
theorem dX4_readNumber_29 : decode cX4_readNumber 29 = .ok (.aload_n 0, 1) := by decide +kernel
theorem dX4_readNumber_30 : decode cX4_readNumber 30 = .ok (.iconst 0, 1) := by decide +kernel
theorem dX4_readNumber_31 : decode cX4_readNumber 31 = .ok (.iconst 5, 1) := by decide +kernel
theorem dX4_readNumber_32 : decode cX4_readNumber 32 = .ok (.invokevirtual 133, 3) := by decide +kernel
theorem dX4_readNumber_35 : decode cX4_readNumber 35 = .ok (.istore_n 2, 1) := by decide +kernel
theorem dX4_readNumber_36 : decode cX4_readNumber 36 = .ok (.aload_n 0, 1) := by decide +kernel
theorem dX4_readNumber_37 : decode cX4_readNumber 37 = .ok (.invokevirtual 43, 3) := by decide +kernel
theorem dX4_readNumber_40 : decode cX4_readNumber 40 = .ok (.ifCond .eq 12, 3) := by decide +kernel
theorem dX4_readNumber_43 : decode cX4_readNumber 43 = .ok (.aload_n 0, 1) := by decide +kernel
theorem dX4_readNumber_44 : decode cX4_readNumber 44 = .ok (.invokevirtual 47, 3) := by decide +kernel
theorem dX4_readNumber_47 : decode cX4_readNumber 47 = .ok (.bipush 46, 2) := by decide +kernel
theorem dX4_readNumber_49 : decode cX4_readNumber 49 = .ok (.if_icmp .eq 18, 3) := by decide +kernel
theorem dX4_readNumber_52 : decode cX4_readNumber 52 = .ok (.iconst 0, 1) := by decide +kernel
theorem dX4_readNumber_53 : decode cX4_readNumber 53 = .ok (.iload_n 1, 1) := by decide +kernel
theorem dX4_readNumber_54 : decode cX4_readNumber 54 = .ok (.ifCond .eq 8, 3) := by decide +kernel
theorem dX4_readNumber_57 : decode cX4_readNumber 57 = .ok (.iload_n 2, 1) := by decide +kernel
theorem dX4_readNumber_58 : decode cX4_readNumber 58 = .ok (.ineg, 1) := by decide +kernel
theorem dX4_readNumber_59 : decode cX4_readNumber 59 = .ok (.goto 4, 3) := by decide +kernel
theorem dX4_readNumber_62 : decode cX4_readNumber 62 = .ok (.iload_n 2, 1) := by decide +kernel
theorem dX4_readNumber_63 : decode cX4_readNumber 63 = .ok (.invokestatic 136, 3) := by decide +kernel
theorem dX4_readNumber_66 : decode cX4_readNumber 66 = .ok (.lreturn, 1) := by decide +kernel
theorem dX4_readNumber_67 : decode cX4_readNumber 67 = .ok (.aload_n 0, 1) := by decide +kernel
theorem dX4_readNumber_68 : decode cX4_readNumber 68 = .ok (.dup, 1) := by decide +kernel
theorem dX4_readNumber_69 : decode cX4_readNumber 69 = .ok (.getfield 19, 3) := by decide +kernel
theorem dX4_readNumber_72 : decode cX4_readNumber 72 = .ok (.iconst 1, 1) := by decide +kernel
theorem dX4_readNumber_73 : decode cX4_readNumber 73 = .ok (.iadd, 1) := by decide +kernel
theorem dX4_readNumber_74 : decode cX4_readNumber 74 = .ok (.putfield 19, 3) := by decide +kernel
theorem dX4_readNumber_77 : decode cX4_readNumber 77 = .ok (.aload_n 0, 1) := by decide +kernel
theorem dX4_readNumber_78 : decode cX4_readNumber 78 = .ok (.getfield 19, 3) := by decide +kernel
theorem dX4_readNumber_81 : decode cX4_readNumber 81 = .ok (.istore_n 3, 1) := by decide +kernel
theorem dX4_readNumber_82 : decode cX4_readNumber 82 = .ok (.aload_n 0, 1) := by decide +kernel
theorem dX4_readNumber_83 : decode cX4_readNumber 83 = .ok (.iload_n 2, 1) := by decide +kernel
theorem dX4_readNumber_84 : decode cX4_readNumber 84 = .ok (.iconst 3, 1) := by decide +kernel
theorem dX4_readNumber_85 : decode cX4_readNumber 85 = .ok (.invokevirtual 133, 3) := by decide +kernel
theorem dX4_readNumber_88 : decode cX4_readNumber 88 = .ok (.istore_n 2, 1) := by decide +kernel
theorem dX4_readNumber_89 : decode cX4_readNumber 89 = .ok (.iconst 1, 1) := by decide +kernel
theorem dX4_readNumber_90 : decode cX4_readNumber 90 = .ok (.istore 4, 2) := by decide +kernel
theorem dX4_readNumber_92 : decode cX4_readNumber 92 = .ok (.iload_n 3, 1) := by decide +kernel
theorem dX4_readNumber_93 : decode cX4_readNumber 93 = .ok (.istore 5, 2) := by decide +kernel
theorem dX4_readNumber_95 : decode cX4_readNumber 95 = .ok (.iload 5, 2) := by decide +kernel
theorem dX4_readNumber_97 : decode cX4_readNumber 97 = .ok (.aload_n 0, 1) := by decide +kernel
theorem dX4_readNumber_98 : decode cX4_readNumber 98 = .ok (.getfield 19, 3) := by decide +kernel
theorem dX4_readNumber_101 : decode cX4_readNumber 101 = .ok (.if_icmp .ge 16, 3) := by decide +kernel
theorem dX4_readNumber_104 : decode cX4_readNumber 104 = .ok (.iload 4, 2) := by decide +kernel
theorem dX4_readNumber_106 : decode cX4_readNumber 106 = .ok (.bipush 10, 2) := by decide +kernel
theorem dX4_readNumber_108 : decode cX4_readNumber 108 = .ok (.imul, 1) := by decide +kernel
theorem dX4_readNumber_109 : decode cX4_readNumber 109 = .ok (.istore 4, 2) := by decide +kernel
theorem dX4_readNumber_111 : decode cX4_readNumber 111 = .ok (.iinc 5 1, 3) := by decide +kernel
theorem dX4_readNumber_114 : decode cX4_readNumber 114 = .ok (.goto (-19), 3) := by decide +kernel
theorem dX4_readNumber_117 : decode cX4_readNumber 117 = .ok (.iconst 0, 1) := by decide +kernel
theorem dX4_readNumber_118 : decode cX4_readNumber 118 = .ok (.iload_n 1, 1) := by decide +kernel
theorem dX4_readNumber_119 : decode cX4_readNumber 119 = .ok (.ifCond .eq 8, 3) := by decide +kernel
theorem dX4_readNumber_122 : decode cX4_readNumber 122 = .ok (.iload_n 2, 1) := by decide +kernel
theorem dX4_readNumber_123 : decode cX4_readNumber 123 = .ok (.ineg, 1) := by decide +kernel
theorem dX4_readNumber_124 : decode cX4_readNumber 124 = .ok (.goto 4, 3) := by decide +kernel
theorem dX4_readNumber_127 : decode cX4_readNumber 127 = .ok (.iload_n 2, 1) := by decide +kernel
theorem dX4_readNumber_128 : decode cX4_readNumber 128 = .ok (.invokestatic 136, 3) := by decide +kernel
theorem dX4_readNumber_131 : decode cX4_readNumber 131 = .ok (.invokestatic 140, 3) := by decide +kernel
theorem dX4_readNumber_134 : decode cX4_readNumber 134 = .ok (.istore 5, 2) := by decide +kernel
theorem dX4_readNumber_136 : decode cX4_readNumber 136 = .ok (.iconst 0, 1) := by decide +kernel
theorem dX4_readNumber_137 : decode cX4_readNumber 137 = .ok (.iload 4, 2) := by decide +kernel
theorem dX4_readNumber_139 : decode cX4_readNumber 139 = .ok (.invokestatic 136, 3) := by decide +kernel
theorem dX4_readNumber_142 : decode cX4_readNumber 142 = .ok (.invokestatic 140, 3) := by decide +kernel
theorem dX4_readNumber_145 : decode cX4_readNumber 145 = .ok (.istore 6, 2) := by decide +kernel
theorem dX4_readNumber_147 : decode cX4_readNumber 147 = .ok (.iconst 1, 1) := by decide +kernel
theorem dX4_readNumber_148 : decode cX4_readNumber 148 = .ok (.iload 5, 2) := by decide +kernel
theorem dX4_readNumber_150 : decode cX4_readNumber 150 = .ok (.iload 6, 2) := by decide +kernel
theorem dX4_readNumber_152 : decode cX4_readNumber 152 = .ok (.invokestatic 143, 3) := by decide +kernel
theorem dX4_readNumber_155 : decode cX4_readNumber 155 = .ok (.invokestatic 136, 3) := by decide +kernel
theorem dX4_readNumber_158 : decode cX4_readNumber 158 = .ok (.lreturn, 1) := by decide +kernel
theorem dX4_readDigits_0 : decode cX4_readDigits 0 = .ok (.iload_n 1, 1) := by decide +kernel
theorem dX4_readDigits_1 : decode cX4_readDigits 1 = .ok (.istore_n 3, 1) := by decide +kernel
theorem dX4_readDigits_2 : decode cX4_readDigits 2 = .ok (.iconst 0, 1) := by decide +kernel
theorem dX4_readDigits_3 : decode cX4_readDigits 3 = .ok (.istore 4, 2) := by decide +kernel
theorem dX4_readDigits_5 : decode cX4_readDigits 5 = .ok (.iload 4, 2) := by decide +kernel
theorem dX4_readDigits_7 : decode cX4_readDigits 7 = .ok (.iload_n 2, 1) := by decide +kernel
theorem dX4_readDigits_8 : decode cX4_readDigits 8 = .ok (.if_icmp .ge 42, 3) := by decide +kernel
theorem dX4_readDigits_11 : decode cX4_readDigits 11 = .ok (.aload_n 0, 1) := by decide +kernel
theorem dX4_readDigits_12 : decode cX4_readDigits 12 = .ok (.invokevirtual 47, 3) := by decide +kernel
theorem dX4_readDigits_15 : decode cX4_readDigits 15 = .ok (.invokestatic 55, 3) := by decide +kernel
theorem dX4_readDigits_18 : decode cX4_readDigits 18 = .ok (.ifCond .eq 32, 3) := by decide +kernel
theorem dX4_readDigits_21 : decode cX4_readDigits 21 = .ok (.iload_n 3, 1) := by decide +kernel
theorem dX4_readDigits_22 : decode cX4_readDigits 22 = .ok (.bipush 10, 2) := by decide +kernel
theorem dX4_readDigits_24 : decode cX4_readDigits 24 = .ok (.imul, 1) := by decide +kernel
theorem dX4_readDigits_25 : decode cX4_readDigits 25 = .ok (.aload_n 0, 1) := by decide +kernel
theorem dX4_readDigits_26 : decode cX4_readDigits 26 = .ok (.invokevirtual 47, 3) := by decide +kernel
theorem dX4_readDigits_29 : decode cX4_readDigits 29 = .ok (.iadd, 1) := by decide +kernel
theorem dX4_readDigits_30 : decode cX4_readDigits 30 = .ok (.bipush 48, 2) := by decide +kernel
theorem dX4_readDigits_32 : decode cX4_readDigits 32 = .ok (.isub, 1) := by decide +kernel
theorem dX4_readDigits_33 : decode cX4_readDigits 33 = .ok (.istore_n 3, 1) := by decide +kernel
theorem dX4_readDigits_34 : decode cX4_readDigits 34 = .ok (.aload_n 0, 1) := by decide +kernel
theorem dX4_readDigits_35 : decode cX4_readDigits 35 = .ok (.dup, 1) := by decide +kernel
theorem dX4_readDigits_36 : decode cX4_readDigits 36 = .ok (.getfield 19, 3) := by decide +kernel
theorem dX4_readDigits_39 : decode cX4_readDigits 39 = .ok (.iconst 1, 1) := by decide +kernel
theorem dX4_readDigits_40 : decode cX4_readDigits 40 = .ok (.iadd, 1) := by decide +kernel
theorem dX4_readDigits_41 : decode cX4_readDigits 41 = .ok (.putfield 19, 3) := by decide +kernel
theorem dX4_readDigits_44 : decode cX4_readDigits 44 = .ok (.iinc 4 1, 3) := by decide +kernel
theorem dX4_readDigits_47 : decode cX4_readDigits 47 = .ok (.goto (-42), 3) := by decide +kernel
theorem dX4_readDigits_50 : decode cX4_readDigits 50 = .ok (.iload 4, 2) := by decide +kernel
theorem dX4_readDigits_52 : decode cX4_readDigits 52 = .ok (.ifCond .ne 11, 3) := by decide +kernel
theorem dX4_readDigits_55 : decode cX4_readDigits 55 = .ok (.aload_n 0, 1) := by decide +kernel
theorem dX4_readDigits_56 : decode cX4_readDigits 56 = .ok (.aload_n 0, 1) := by decide +kernel
theorem dX4_readDigits_57 : decode cX4_readDigits 57 = .ok (.getfield 19, 3) := by decide +kernel
theorem dX4_readDigits_60 : decode cX4_readDigits 60 = .ok (.invokevirtual 51, 3) := by decide +kernel
theorem dX4_readDigits_63 : decode cX4_readDigits 63 = .ok (.iload_n 3, 1) := by decide +kernel
theorem dX4_readDigits_64 : decode cX4_readDigits 64 = .ok (.ireturn, 1) := by decide +kernel
theorem dX4_readVar_0 : decode cX4_readVar 0 = .ok (.aload_n 0, 1) := by decide +kernel
theorem dX4_readVar_1 : decode cX4_readVar 1 = .ok (.iload_n 1, 1) := by decide +kernel
theorem dX4_readVar_2 : decode cX4_readVar 2 = .ok (.invokevirtual 98, 3) := by decide +kernel
theorem dX4_readVar_5 : decode cX4_readVar 5 = .ok (.istore_n 2, 1) := by decide +kernel
theorem dX4_readVar_6 : decode cX4_readVar 6 = .ok (.iload_n 2, 1) := by decide +kernel
theorem dX4_readVar_7 : decode cX4_readVar 7 = .ok (.iconst (-1), 1) := by decide +kernel
theorem dX4_readVar_8 : decode cX4_readVar 8 = .ok (.if_icmp .ne 12, 3) := by decide +kernel
theorem dX4_readVar_11 : decode cX4_readVar 11 = .ok (.aload_n 0, 1) := by decide +kernel
theorem dX4_readVar_12 : decode cX4_readVar 12 = .ok (.aload_n 0, 1) := by decide +kernel
theorem dX4_readVar_13 : decode cX4_readVar 13 = .ok (.getfield 19, 3) := by decide +kernel
theorem dX4_readVar_16 : decode cX4_readVar 16 = .ok (.invokevirtual 51, 3) := by decide +kernel
theorem dX4_readVar_19 : decode cX4_readVar 19 = .ok (.return_, 1) := by decide +kernel
theorem dX4_readVar_20 : decode cX4_readVar 20 = .ok (.aload_n 0, 1) := by decide +kernel
theorem dX4_readVar_21 : decode cX4_readVar 21 = .ok (.dup, 1) := by decide +kernel
theorem dX4_readVar_22 : decode cX4_readVar 22 = .ok (.getfield 19, 3) := by decide +kernel
theorem dX4_readVar_25 : decode cX4_readVar 25 = .ok (.iconst 1, 1) := by decide +kernel
theorem dX4_readVar_26 : decode cX4_readVar 26 = .ok (.iadd, 1) := by decide +kernel
theorem dX4_readVar_27 : decode cX4_readVar 27 = .ok (.putfield 19, 3) := by decide +kernel
theorem dX4_readVar_30 : decode cX4_readVar 30 = .ok (.aload_n 0, 1) := by decide +kernel
theorem dX4_readVar_31 : decode cX4_readVar 31 = .ok (.getfield 25, 3) := by decide +kernel
theorem dX4_readVar_34 : decode cX4_readVar 34 = .ok (.iconst 1, 1) := by decide +kernel
theorem dX4_readVar_35 : decode cX4_readVar 35 = .ok (.iload_n 2, 1) := by decide +kernel
theorem dX4_readVar_36 : decode cX4_readVar 36 = .ok (.iconst 0, 1) := by decide +kernel
theorem dX4_readVar_37 : decode cX4_readVar 37 = .ok (.invokevirtual 86, 3) := by decide +kernel
theorem dX4_readVar_40 : decode cX4_readVar 40 = .ok (.pop, 1) := by decide +kernel
theorem dX4_readVar_41 : decode cX4_readVar 41 = .ok (.return_, 1) := by decide +kernel
theorem dX4_readCall_0 : decode cX4_readCall 0 = .ok (.aload_n 0, 1) := by decide +kernel
theorem dX4_readCall_1 : decode cX4_readCall 1 = .ok (.dup, 1) := by decide +kernel
theorem dX4_readCall_2 : decode cX4_readCall 2 = .ok (.getfield 19, 3) := by decide +kernel
theorem dX4_readCall_5 : decode cX4_readCall 5 = .ok (.iconst 1, 1) := by decide +kernel
theorem dX4_readCall_6 : decode cX4_readCall 6 = .ok (.iadd, 1) := by decide +kernel
theorem dX4_readCall_7 : decode cX4_readCall 7 = .ok (.putfield 19, 3) := by decide +kernel
theorem dX4_readCall_10 : decode cX4_readCall 10 = .ok (.aload_n 0, 1) := by decide +kernel
theorem dX4_readCall_11 : decode cX4_readCall 11 = .ok (.getfield 25, 3) := by decide +kernel
theorem dX4_readCall_14 : decode cX4_readCall 14 = .ok (.iconst 3, 1) := by decide +kernel
theorem dX4_readCall_15 : decode cX4_readCall 15 = .ok (.invokevirtual 104, 3) := by decide +kernel
theorem dX4_readCall_18 : decode cX4_readCall 18 = .ok (.pop, 1) := by decide +kernel
theorem dX4_readCall_19 : decode cX4_readCall 19 = .ok (.aload_n 0, 1) := by decide +kernel
theorem dX4_readCall_20 : decode cX4_readCall 20 = .ok (.bipush 40, 2) := by decide +kernel
theorem dX4_readCall_22 : decode cX4_readCall 22 = .ok (.invokevirtual 70, 3) := by decide +kernel
theorem dX4_readCall_25 : decode cX4_readCall 25 = .ok (.pop, 1) := by decide +kernel
theorem dX4_readCall_26 : decode cX4_readCall 26 = .ok (.iconst 0, 1) := by decide +kernel
theorem dX4_readCall_27 : decode cX4_readCall 27 = .ok (.istore_n 3, 1) := by decide +kernel
theorem dX4_readCall_28 : decode cX4_readCall 28 = .ok (.aload_n 0, 1) := by decide +kernel
theorem dX4_readCall_29 : decode cX4_readCall 29 = .ok (.invokevirtual 43, 3) := by decide +kernel
theorem dX4_readCall_32 : decode cX4_readCall 32 = .ok (.ifCond .eq 65, 3) := by decide +kernel
theorem dX4_readCall_35 : decode cX4_readCall 35 = .ok (.aload_n 0, 1) := by decide +kernel
theorem dX4_readCall_36 : decode cX4_readCall 36 = .ok (.invokevirtual 47, 3) := by decide +kernel
theorem dX4_readCall_39 : decode cX4_readCall 39 = .ok (.bipush 41, 2) := by decide +kernel
theorem dX4_readCall_41 : decode cX4_readCall 41 = .ok (.if_icmp .eq 56, 3) := by decide +kernel
theorem dX4_readCall_44 : decode cX4_readCall 44 = .ok (.aload_n 0, 1) := by decide +kernel
theorem dX4_readCall_45 : decode cX4_readCall 45 = .ok (.iload_n 2, 1) := by decide +kernel
theorem dX4_readCall_46 : decode cX4_readCall 46 = .ok (.iconst 1, 1) := by decide +kernel
theorem dX4_readCall_47 : decode cX4_readCall 47 = .ok (.iadd, 1) := by decide +kernel
theorem dX4_readCall_48 : decode cX4_readCall 48 = .ok (.invokevirtual 83, 3) := by decide +kernel
theorem dX4_readCall_51 : decode cX4_readCall 51 = .ok (.iconst 1, 1) := by decide +kernel
theorem dX4_readCall_52 : decode cX4_readCall 52 = .ok (.istore_n 3, 1) := by decide +kernel
theorem dX4_readCall_53 : decode cX4_readCall 53 = .ok (.aload_n 0, 1) := by decide +kernel
theorem dX4_readCall_54 : decode cX4_readCall 54 = .ok (.invokevirtual 43, 3) := by decide +kernel
theorem dX4_readCall_57 : decode cX4_readCall 57 = .ok (.ifCond .eq 40, 3) := by decide +kernel
theorem dX4_readCall_60 : decode cX4_readCall 60 = .ok (.aload_n 0, 1) := by decide +kernel
theorem dX4_readCall_61 : decode cX4_readCall 61 = .ok (.invokevirtual 47, 3) := by decide +kernel
theorem dX4_readCall_64 : decode cX4_readCall 64 = .ok (.bipush 44, 2) := by decide +kernel
theorem dX4_readCall_66 : decode cX4_readCall 66 = .ok (.if_icmp .ne 31, 3) := by decide +kernel
theorem dX4_readCall_69 : decode cX4_readCall 69 = .ok (.iload_n 3, 1) := by decide +kernel
theorem dX4_readCall_70 : decode cX4_readCall 70 = .ok (.iconst 5, 1) := by decide +kernel
theorem dX4_readCall_71 : decode cX4_readCall 71 = .ok (.if_icmp .ge 26, 3) := by decide +kernel
theorem dX4_readCall_74 : decode cX4_readCall 74 = .ok (.aload_n 0, 1) := by decide +kernel
theorem dX4_readCall_75 : decode cX4_readCall 75 = .ok (.dup, 1) := by decide +kernel
theorem dX4_readCall_76 : decode cX4_readCall 76 = .ok (.getfield 19, 3) := by decide +kernel
theorem dX4_readCall_79 : decode cX4_readCall 79 = .ok (.iconst 1, 1) := by decide +kernel
theorem dX4_readCall_80 : decode cX4_readCall 80 = .ok (.iadd, 1) := by decide +kernel
theorem dX4_readCall_81 : decode cX4_readCall 81 = .ok (.putfield 19, 3) := by decide +kernel
theorem dX4_readCall_84 : decode cX4_readCall 84 = .ok (.aload_n 0, 1) := by decide +kernel
theorem dX4_readCall_85 : decode cX4_readCall 85 = .ok (.iload_n 2, 1) := by decide +kernel
theorem dX4_readCall_86 : decode cX4_readCall 86 = .ok (.iconst 1, 1) := by decide +kernel
theorem dX4_readCall_87 : decode cX4_readCall 87 = .ok (.iadd, 1) := by decide +kernel
theorem dX4_readCall_88 : decode cX4_readCall 88 = .ok (.invokevirtual 83, 3) := by decide +kernel
theorem dX4_readCall_91 : decode cX4_readCall 91 = .ok (.iinc 3 1, 3) := by decide +kernel
theorem dX4_readCall_94 : decode cX4_readCall 94 = .ok (.goto (-41), 3) := by decide +kernel
theorem dX4_readCall_97 : decode cX4_readCall 97 = .ok (.aload_n 0, 1) := by decide +kernel
theorem dX4_readCall_98 : decode cX4_readCall 98 = .ok (.bipush 41, 2) := by decide +kernel
theorem dX4_readCall_100 : decode cX4_readCall 100 = .ok (.invokevirtual 70, 3) := by decide +kernel
theorem dX4_readCall_103 : decode cX4_readCall 103 = .ok (.pop, 1) := by decide +kernel
theorem dX4_readCall_104 : decode cX4_readCall 104 = .ok (.aload_n 0, 1) := by decide +kernel
theorem dX4_readCall_105 : decode cX4_readCall 105 = .ok (.getfield 25, 3) := by decide +kernel
theorem dX4_readCall_108 : decode cX4_readCall 108 = .ok (.bipush 13, 2) := by decide +kernel
theorem dX4_readCall_110 : decode cX4_readCall 110 = .ok (.iload_n 1, 1) := by decide +kernel
theorem dX4_readCall_111 : decode cX4_readCall 111 = .ok (.bipush 97, 2) := by decide +kernel
theorem dX4_readCall_113 : decode cX4_readCall 113 = .ok (.isub, 1) := by decide +kernel
theorem dX4_readCall_114 : decode cX4_readCall 114 = .ok (.bipush 6, 2) := by decide +kernel
theorem dX4_readCall_116 : decode cX4_readCall 116 = .ok (.imul, 1) := by decide +kernel
theorem dX4_readCall_117 : decode cX4_readCall 117 = .ok (.iload_n 3, 1) := by decide +kernel
theorem dX4_readCall_118 : decode cX4_readCall 118 = .ok (.iadd, 1) := by decide +kernel
theorem dX4_readCall_119 : decode cX4_readCall 119 = .ok (.iload_n 3, 1) := by decide +kernel
theorem dX4_readCall_120 : decode cX4_readCall 120 = .ok (.invokevirtual 86, 3) := by decide +kernel
theorem dX4_readCall_123 : decode cX4_readCall 123 = .ok (.pop, 1) := by decide +kernel
theorem dX4_readCall_124 : decode cX4_readCall 124 = .ok (.return_, 1) := by decide +kernel
theorem dX4_readSigned_0 : decode cX4_readSigned 0 = .ok (.aload_n 0, 1) := by decide +kernel
theorem dX4_readSigned_1 : decode cX4_readSigned 1 = .ok (.getfield 19, 3) := by decide +kernel
theorem dX4_readSigned_4 : decode cX4_readSigned 4 = .ok (.istore_n 3, 1) := by decide +kernel
theorem dX4_readSigned_5 : decode cX4_readSigned 5 = .ok (.aload_n 0, 1) := by decide +kernel
theorem dX4_readSigned_6 : decode cX4_readSigned 6 = .ok (.dup, 1) := by decide +kernel
theorem dX4_readSigned_7 : decode cX4_readSigned 7 = .ok (.getfield 19, 3) := by decide +kernel
theorem dX4_readSigned_10 : decode cX4_readSigned 10 = .ok (.iconst 1, 1) := by decide +kernel
theorem dX4_readSigned_11 : decode cX4_readSigned 11 = .ok (.iadd, 1) := by decide +kernel
theorem dX4_readSigned_12 : decode cX4_readSigned 12 = .ok (.putfield 19, 3) := by decide +kernel
theorem dX4_readSigned_15 : decode cX4_readSigned 15 = .ok (.iload_n 1, 1) := by decide +kernel
theorem dX4_readSigned_16 : decode cX4_readSigned 16 = .ok (.lookupswitch 235 #[(33, 187), (35, 145), (36, 145), (38, 218), (40, 108), (58, 227), (63, 137), (64, 166), (91, 116), (94, 145), (95, 218), (126, 166)], 108) := by decide +kernel
theorem dX4_readSigned_124 : decode cX4_readSigned 124 = .ok (.aload_n 0, 1) := by decide +kernel
theorem dX4_readSigned_125 : decode cX4_readSigned 125 = .ok (.iload_n 2, 1) := by decide +kernel
theorem dX4_readSigned_126 : decode cX4_readSigned 126 = .ok (.invokevirtual 146, 3) := by decide +kernel
theorem dX4_readSigned_129 : decode cX4_readSigned 129 = .ok (.goto 127, 3) := by decide +kernel
theorem dX4_readSigned_132 : decode cX4_readSigned 132 = .ok (.aload_n 0, 1) := by decide +kernel
theorem dX4_readSigned_133 : decode cX4_readSigned 133 = .ok (.iload_n 2, 1) := by decide +kernel
theorem dX4_readSigned_134 : decode cX4_readSigned 134 = .ok (.bipush 93, 2) := by decide +kernel
theorem dX4_readSigned_136 : decode cX4_readSigned 136 = .ok (.invokevirtual 149, 3) := by decide +kernel
theorem dX4_readSigned_139 : decode cX4_readSigned 139 = .ok (.aload_n 0, 1) := by decide +kernel
theorem dX4_readSigned_140 : decode cX4_readSigned 140 = .ok (.getfield 25, 3) := by decide +kernel
theorem dX4_readSigned_143 : decode cX4_readSigned 143 = .ok (.iconst 5, 1) := by decide +kernel
theorem dX4_readSigned_144 : decode cX4_readSigned 144 = .ok (.iconst 0, 1) := by decide +kernel
theorem dX4_readSigned_145 : decode cX4_readSigned 145 = .ok (.iconst 0, 1) := by decide +kernel
theorem dX4_readSigned_146 : decode cX4_readSigned 146 = .ok (.invokevirtual 86, 3) := by decide +kernel
theorem dX4_readSigned_149 : decode cX4_readSigned 149 = .ok (.pop, 1) := by decide +kernel
theorem dX4_readSigned_150 : decode cX4_readSigned 150 = .ok (.goto 106, 3) := by decide +kernel
theorem dX4_readSigned_153 : decode cX4_readSigned 153 = .ok (.aload_n 0, 1) := by decide +kernel
theorem dX4_readSigned_154 : decode cX4_readSigned 154 = .ok (.iload_n 2, 1) := by decide +kernel
theorem dX4_readSigned_155 : decode cX4_readSigned 155 = .ok (.invokevirtual 152, 3) := by decide +kernel
theorem dX4_readSigned_158 : decode cX4_readSigned 158 = .ok (.goto 98, 3) := by decide +kernel
theorem dX4_readSigned_161 : decode cX4_readSigned 161 = .ok (.aload_n 0, 1) := by decide +kernel
theorem dX4_readSigned_162 : decode cX4_readSigned 162 = .ok (.iload_n 2, 1) := by decide +kernel
theorem dX4_readSigned_163 : decode cX4_readSigned 163 = .ok (.iconst 1, 1) := by decide +kernel
theorem dX4_readSigned_164 : decode cX4_readSigned 164 = .ok (.iadd, 1) := by decide +kernel
theorem dX4_readSigned_165 : decode cX4_readSigned 165 = .ok (.invokevirtual 83, 3) := by decide +kernel
theorem dX4_readSigned_168 : decode cX4_readSigned 168 = .ok (.aload_n 0, 1) := by decide +kernel
theorem dX4_readSigned_169 : decode cX4_readSigned 169 = .ok (.getfield 25, 3) := by decide +kernel
theorem dX4_readSigned_172 : decode cX4_readSigned 172 = .ok (.iconst 3, 1) := by decide +kernel
theorem dX4_readSigned_173 : decode cX4_readSigned 173 = .ok (.iload_n 1, 1) := by decide +kernel
theorem dX4_readSigned_174 : decode cX4_readSigned 174 = .ok (.iconst 0, 1) := by decide +kernel
theorem dX4_readSigned_175 : decode cX4_readSigned 175 = .ok (.invokevirtual 86, 3) := by decide +kernel
theorem dX4_readSigned_178 : decode cX4_readSigned 178 = .ok (.pop, 1) := by decide +kernel
theorem dX4_readSigned_179 : decode cX4_readSigned 179 = .ok (.goto 77, 3) := by decide +kernel
theorem dX4_readSigned_182 : decode cX4_readSigned 182 = .ok (.aload_n 0, 1) := by decide +kernel
theorem dX4_readSigned_183 : decode cX4_readSigned 183 = .ok (.iload_n 2, 1) := by decide +kernel
theorem dX4_readSigned_184 : decode cX4_readSigned 184 = .ok (.iconst 1, 1) := by decide +kernel
theorem dX4_readSigned_185 : decode cX4_readSigned 185 = .ok (.iadd, 1) := by decide +kernel
theorem dX4_readSigned_186 : decode cX4_readSigned 186 = .ok (.invokevirtual 83, 3) := by decide +kernel
theorem dX4_readSigned_189 : decode cX4_readSigned 189 = .ok (.aload_n 0, 1) := by decide +kernel
theorem dX4_readSigned_190 : decode cX4_readSigned 190 = .ok (.getfield 25, 3) := by decide +kernel
theorem dX4_readSigned_193 : decode cX4_readSigned 193 = .ok (.iconst 4, 1) := by decide +kernel
theorem dX4_readSigned_194 : decode cX4_readSigned 194 = .ok (.iload_n 1, 1) := by decide +kernel
theorem dX4_readSigned_195 : decode cX4_readSigned 195 = .ok (.iconst 0, 1) := by decide +kernel
theorem dX4_readSigned_196 : decode cX4_readSigned 196 = .ok (.invokevirtual 86, 3) := by decide +kernel
theorem dX4_readSigned_199 : decode cX4_readSigned 199 = .ok (.pop, 1) := by decide +kernel
theorem dX4_readSigned_200 : decode cX4_readSigned 200 = .ok (.goto 56, 3) := by decide +kernel
theorem dX4_readSigned_203 : decode cX4_readSigned 203 = .ok (.aload_n 0, 1) := by decide +kernel
theorem dX4_readSigned_204 : decode cX4_readSigned 204 = .ok (.getfield 25, 3) := by decide +kernel
theorem dX4_readSigned_207 : decode cX4_readSigned 207 = .ok (.iconst 4, 1) := by decide +kernel
theorem dX4_readSigned_208 : decode cX4_readSigned 208 = .ok (.invokevirtual 104, 3) := by decide +kernel
theorem dX4_readSigned_211 : decode cX4_readSigned 211 = .ok (.pop, 1) := by decide +kernel
theorem dX4_readSigned_212 : decode cX4_readSigned 212 = .ok (.aload_n 0, 1) := by decide +kernel
theorem dX4_readSigned_213 : decode cX4_readSigned 213 = .ok (.iload_n 2, 1) := by decide +kernel
theorem dX4_readSigned_214 : decode cX4_readSigned 214 = .ok (.iconst 1, 1) := by decide +kernel
theorem dX4_readSigned_215 : decode cX4_readSigned 215 = .ok (.iadd, 1) := by decide +kernel
theorem dX4_readSigned_216 : decode cX4_readSigned 216 = .ok (.invokevirtual 83, 3) := by decide +kernel
theorem dX4_readSigned_219 : decode cX4_readSigned 219 = .ok (.aload_n 0, 1) := by decide +kernel
theorem dX4_readSigned_220 : decode cX4_readSigned 220 = .ok (.getfield 25, 3) := by decide +kernel
theorem dX4_readSigned_223 : decode cX4_readSigned 223 = .ok (.bipush 9, 2) := by decide +kernel
theorem dX4_readSigned_225 : decode cX4_readSigned 225 = .ok (.iconst 0, 1) := by decide +kernel
theorem dX4_readSigned_226 : decode cX4_readSigned 226 = .ok (.iconst 0, 1) := by decide +kernel
theorem dX4_readSigned_227 : decode cX4_readSigned 227 = .ok (.invokevirtual 86, 3) := by decide +kernel
theorem dX4_readSigned_230 : decode cX4_readSigned 230 = .ok (.pop, 1) := by decide +kernel
theorem dX4_readSigned_231 : decode cX4_readSigned 231 = .ok (.goto 25, 3) := by decide +kernel
theorem dX4_readSigned_234 : decode cX4_readSigned 234 = .ok (.aload_n 0, 1) := by decide +kernel
theorem dX4_readSigned_235 : decode cX4_readSigned 235 = .ok (.iload_n 1, 1) := by decide +kernel
theorem dX4_readSigned_236 : decode cX4_readSigned 236 = .ok (.iload_n 2, 1) := by decide +kernel
theorem dX4_readSigned_237 : decode cX4_readSigned 237 = .ok (.invokevirtual 155, 3) := by decide +kernel
theorem dX4_readSigned_240 : decode cX4_readSigned 240 = .ok (.goto 16, 3) := by decide +kernel
theorem dX4_readSigned_243 : decode cX4_readSigned 243 = .ok (.aload_n 0, 1) := by decide +kernel
theorem dX4_readSigned_244 : decode cX4_readSigned 244 = .ok (.iload_n 2, 1) := by decide +kernel
theorem dX4_readSigned_245 : decode cX4_readSigned 245 = .ok (.invokevirtual 158, 3) := by decide +kernel
theorem dX4_readSigned_248 : decode cX4_readSigned 248 = .ok (.goto 8, 3) := by decide +kernel
theorem dX4_readSigned_251 : decode cX4_readSigned 251 = .ok (.aload_n 0, 1) := by decide +kernel
theorem dX4_readSigned_252 : decode cX4_readSigned 252 = .ok (.iload_n 3, 1) := by decide +kernel
theorem dX4_readSigned_253 : decode cX4_readSigned 253 = .ok (.invokevirtual 51, 3) := by decide +kernel
theorem dX4_readSigned_256 : decode cX4_readSigned 256 = .ok (.return_, 1) := by decide +kernel
theorem dX4_readTwo_0 : decode cX4_readTwo 0 = .ok (.aload_n 0, 1) := by decide +kernel
theorem dX4_readTwo_1 : decode cX4_readTwo 1 = .ok (.iload_n 1, 1) := by decide +kernel
theorem dX4_readTwo_2 : decode cX4_readTwo 2 = .ok (.iconst 1, 1) := by decide +kernel
theorem dX4_readTwo_3 : decode cX4_readTwo 3 = .ok (.iadd, 1) := by decide +kernel
theorem dX4_readTwo_4 : decode cX4_readTwo 4 = .ok (.invokevirtual 83, 3) := by decide +kernel
theorem dX4_readTwo_7 : decode cX4_readTwo 7 = .ok (.aload_n 0, 1) := by decide +kernel
theorem dX4_readTwo_8 : decode cX4_readTwo 8 = .ok (.bipush 44, 2) := by decide +kernel
theorem dX4_readTwo_10 : decode cX4_readTwo 10 = .ok (.invokevirtual 70, 3) := by decide +kernel
theorem dX4_readTwo_13 : decode cX4_readTwo 13 = .ok (.pop, 1) := by decide +kernel
theorem dX4_readTwo_14 : decode cX4_readTwo 14 = .ok (.aload_n 0, 1) := by decide +kernel
theorem dX4_readTwo_15 : decode cX4_readTwo 15 = .ok (.iload_n 1, 1) := by decide +kernel
theorem dX4_readTwo_16 : decode cX4_readTwo 16 = .ok (.iconst 1, 1) := by decide +kernel
theorem dX4_readTwo_17 : decode cX4_readTwo 17 = .ok (.iadd, 1) := by decide +kernel
theorem dX4_readTwo_18 : decode cX4_readTwo 18 = .ok (.invokevirtual 83, 3) := by decide +kernel
theorem dX4_readTwo_21 : decode cX4_readTwo 21 = .ok (.aload_n 0, 1) := by decide +kernel
theorem dX4_readTwo_22 : decode cX4_readTwo 22 = .ok (.iload_n 2, 1) := by decide +kernel
theorem dX4_readTwo_23 : decode cX4_readTwo 23 = .ok (.invokevirtual 70, 3) := by decide +kernel
theorem dX4_readTwo_26 : decode cX4_readTwo 26 = .ok (.pop, 1) := by decide +kernel
theorem dX4_readTwo_27 : decode cX4_readTwo 27 = .ok (.return_, 1) := by decide +kernel
theorem dX4_readReckoned_0 : decode cX4_readReckoned 0 = .ok (.aload_n 0, 1) := by decide +kernel
theorem dX4_readReckoned_1 : decode cX4_readReckoned 1 = .ok (.iload_n 1, 1) := by decide +kernel
theorem dX4_readReckoned_2 : decode cX4_readReckoned 2 = .ok (.iconst 1, 1) := by decide +kernel
theorem dX4_readReckoned_3 : decode cX4_readReckoned 3 = .ok (.iadd, 1) := by decide +kernel
theorem dX4_readReckoned_4 : decode cX4_readReckoned 4 = .ok (.invokevirtual 83, 3) := by decide +kernel
theorem dX4_readReckoned_7 : decode cX4_readReckoned 7 = .ok (.aload_n 0, 1) := by decide +kernel
theorem dX4_readReckoned_8 : decode cX4_readReckoned 8 = .ok (.invokevirtual 43, 3) := by decide +kernel
theorem dX4_readReckoned_11 : decode cX4_readReckoned 11 = .ok (.ifCond .ne 4, 3) := by decide +kernel
theorem dX4_readReckoned_14 : decode cX4_readReckoned 14 = .ok (.return_, 1) := by decide +kernel
theorem dX4_readReckoned_15 : decode cX4_readReckoned 15 = .ok (.aload_n 0, 1) := by decide +kernel
theorem dX4_readReckoned_16 : decode cX4_readReckoned 16 = .ok (.invokevirtual 47, 3) := by decide +kernel
theorem dX4_readReckoned_19 : decode cX4_readReckoned 19 = .ok (.istore_n 2, 1) := by decide +kernel
theorem dX4_readReckoned_20 : decode cX4_readReckoned 20 = .ok (.iload_n 2, 1) := by decide +kernel
theorem dX4_readReckoned_21 : decode cX4_readReckoned 21 = .ok (.invokestatic 161, 3) := by decide +kernel
theorem dX4_readReckoned_24 : decode cX4_readReckoned 24 = .ok (.ifCond .ne 12, 3) := by decide +kernel
theorem dX4_readReckoned_27 : decode cX4_readReckoned 27 = .ok (.aload_n 0, 1) := by decide +kernel
theorem dX4_readReckoned_28 : decode cX4_readReckoned 28 = .ok (.aload_n 0, 1) := by decide +kernel
theorem dX4_readReckoned_29 : decode cX4_readReckoned 29 = .ok (.getfield 19, 3) := by decide +kernel
theorem dX4_readReckoned_32 : decode cX4_readReckoned 32 = .ok (.invokevirtual 51, 3) := by decide +kernel
theorem dX4_readReckoned_35 : decode cX4_readReckoned 35 = .ok (.return_, 1) := by decide +kernel
theorem dX4_readReckoned_36 : decode cX4_readReckoned 36 = .ok (.aload_n 0, 1) := by decide +kernel
theorem dX4_readReckoned_37 : decode cX4_readReckoned 37 = .ok (.dup, 1) := by decide +kernel
theorem dX4_readReckoned_38 : decode cX4_readReckoned 38 = .ok (.getfield 19, 3) := by decide +kernel
theorem dX4_readReckoned_41 : decode cX4_readReckoned 41 = .ok (.iconst 1, 1) := by decide +kernel
theorem dX4_readReckoned_42 : decode cX4_readReckoned 42 = .ok (.iadd, 1) := by decide +kernel
theorem dX4_readReckoned_43 : decode cX4_readReckoned 43 = .ok (.putfield 19, 3) := by decide +kernel
theorem dX4_readReckoned_46 : decode cX4_readReckoned 46 = .ok (.aload_n 0, 1) := by decide +kernel
theorem dX4_readReckoned_47 : decode cX4_readReckoned 47 = .ok (.iload_n 1, 1) := by decide +kernel
theorem dX4_readReckoned_48 : decode cX4_readReckoned 48 = .ok (.iconst 1, 1) := by decide +kernel
theorem dX4_readReckoned_49 : decode cX4_readReckoned 49 = .ok (.iadd, 1) := by decide +kernel
theorem dX4_readReckoned_50 : decode cX4_readReckoned 50 = .ok (.invokevirtual 83, 3) := by decide +kernel
theorem dX4_readReckoned_53 : decode cX4_readReckoned 53 = .ok (.aload_n 0, 1) := by decide +kernel
theorem dX4_readReckoned_54 : decode cX4_readReckoned 54 = .ok (.bipush 41, 2) := by decide +kernel
theorem dX4_readReckoned_56 : decode cX4_readReckoned 56 = .ok (.invokevirtual 70, 3) := by decide +kernel
theorem dX4_readReckoned_59 : decode cX4_readReckoned 59 = .ok (.pop, 1) := by decide +kernel
theorem dX4_readReckoned_60 : decode cX4_readReckoned 60 = .ok (.aload_n 0, 1) := by decide +kernel
theorem dX4_readReckoned_61 : decode cX4_readReckoned 61 = .ok (.getfield 25, 3) := by decide +kernel
theorem dX4_readReckoned_64 : decode cX4_readReckoned 64 = .ok (.iconst 2, 1) := by decide +kernel
theorem dX4_readReckoned_65 : decode cX4_readReckoned 65 = .ok (.iload_n 2, 1) := by decide +kernel
theorem dX4_readReckoned_66 : decode cX4_readReckoned 66 = .ok (.iconst 0, 1) := by decide +kernel
theorem dX4_readReckoned_67 : decode cX4_readReckoned 67 = .ok (.invokevirtual 86, 3) := by decide +kernel
theorem dX4_readReckoned_70 : decode cX4_readReckoned 70 = .ok (.pop, 1) := by decide +kernel
theorem dX4_readReckoned_71 : decode cX4_readReckoned 71 = .ok (.return_, 1) := by decide +kernel
theorem dX4_readChoice_0 : decode cX4_readChoice 0 = .ok (.aload_n 0, 1) := by decide +kernel
theorem dX4_readChoice_1 : decode cX4_readChoice 1 = .ok (.bipush 40, 2) := by decide +kernel
theorem dX4_readChoice_3 : decode cX4_readChoice 3 = .ok (.invokevirtual 70, 3) := by decide +kernel
theorem dX4_readChoice_6 : decode cX4_readChoice 6 = .ok (.pop, 1) := by decide +kernel
theorem dX4_readChoice_7 : decode cX4_readChoice 7 = .ok (.aload_n 0, 1) := by decide +kernel
theorem dX4_readChoice_8 : decode cX4_readChoice 8 = .ok (.iload_n 1, 1) := by decide +kernel
theorem dX4_readChoice_9 : decode cX4_readChoice 9 = .ok (.iconst 1, 1) := by decide +kernel
theorem dX4_readChoice_10 : decode cX4_readChoice 10 = .ok (.iadd, 1) := by decide +kernel
theorem dX4_readChoice_11 : decode cX4_readChoice 11 = .ok (.invokevirtual 83, 3) := by decide +kernel
theorem dX4_readChoice_14 : decode cX4_readChoice 14 = .ok (.aload_n 0, 1) := by decide +kernel
theorem dX4_readChoice_15 : decode cX4_readChoice 15 = .ok (.bipush 44, 2) := by decide +kernel
theorem dX4_readChoice_17 : decode cX4_readChoice 17 = .ok (.invokevirtual 70, 3) := by decide +kernel
theorem dX4_readChoice_20 : decode cX4_readChoice 20 = .ok (.pop, 1) := by decide +kernel
theorem dX4_readChoice_21 : decode cX4_readChoice 21 = .ok (.aload_n 0, 1) := by decide +kernel
theorem dX4_readChoice_22 : decode cX4_readChoice 22 = .ok (.getfield 25, 3) := by decide +kernel
theorem dX4_readChoice_25 : decode cX4_readChoice 25 = .ok (.bipush 6, 2) := by decide +kernel
theorem dX4_readChoice_27 : decode cX4_readChoice 27 = .ok (.iconst 0, 1) := by decide +kernel
theorem dX4_readChoice_28 : decode cX4_readChoice 28 = .ok (.iconst 0, 1) := by decide +kernel
theorem dX4_readChoice_29 : decode cX4_readChoice 29 = .ok (.invokevirtual 86, 3) := by decide +kernel
theorem dX4_readChoice_32 : decode cX4_readChoice 32 = .ok (.istore_n 2, 1) := by decide +kernel
theorem dX4_readChoice_33 : decode cX4_readChoice 33 = .ok (.aload_n 0, 1) := by decide +kernel
theorem dX4_readChoice_34 : decode cX4_readChoice 34 = .ok (.iload_n 1, 1) := by decide +kernel
theorem dX4_readChoice_35 : decode cX4_readChoice 35 = .ok (.iconst 1, 1) := by decide +kernel
theorem dX4_readChoice_36 : decode cX4_readChoice 36 = .ok (.iadd, 1) := by decide +kernel
theorem dX4_readChoice_37 : decode cX4_readChoice 37 = .ok (.invokevirtual 83, 3) := by decide +kernel
theorem dX4_readChoice_40 : decode cX4_readChoice 40 = .ok (.aload_n 0, 1) := by decide +kernel
theorem dX4_readChoice_41 : decode cX4_readChoice 41 = .ok (.bipush 44, 2) := by decide +kernel
theorem dX4_readChoice_43 : decode cX4_readChoice 43 = .ok (.invokevirtual 70, 3) := by decide +kernel
theorem dX4_readChoice_46 : decode cX4_readChoice 46 = .ok (.pop, 1) := by decide +kernel
theorem dX4_readChoice_47 : decode cX4_readChoice 47 = .ok (.aload_n 0, 1) := by decide +kernel
theorem dX4_readChoice_48 : decode cX4_readChoice 48 = .ok (.getfield 25, 3) := by decide +kernel
theorem dX4_readChoice_51 : decode cX4_readChoice 51 = .ok (.bipush 7, 2) := by decide +kernel
theorem dX4_readChoice_53 : decode cX4_readChoice 53 = .ok (.iconst 0, 1) := by decide +kernel
theorem dX4_readChoice_54 : decode cX4_readChoice 54 = .ok (.iconst 0, 1) := by decide +kernel
theorem dX4_readChoice_55 : decode cX4_readChoice 55 = .ok (.invokevirtual 86, 3) := by decide +kernel
theorem dX4_readChoice_58 : decode cX4_readChoice 58 = .ok (.istore_n 3, 1) := by decide +kernel
theorem dX4_readChoice_59 : decode cX4_readChoice 59 = .ok (.aload_n 0, 1) := by decide +kernel
theorem dX4_readChoice_60 : decode cX4_readChoice 60 = .ok (.getfield 25, 3) := by decide +kernel
theorem dX4_readChoice_63 : decode cX4_readChoice 63 = .ok (.iload_n 2, 1) := by decide +kernel
theorem dX4_readChoice_64 : decode cX4_readChoice 64 = .ok (.invokevirtual 164, 3) := by decide +kernel
theorem dX4_readChoice_67 : decode cX4_readChoice 67 = .ok (.aload_n 0, 1) := by decide +kernel
theorem dX4_readChoice_68 : decode cX4_readChoice 68 = .ok (.iload_n 1, 1) := by decide +kernel
theorem dX4_readChoice_69 : decode cX4_readChoice 69 = .ok (.iconst 1, 1) := by decide +kernel
theorem dX4_readChoice_70 : decode cX4_readChoice 70 = .ok (.iadd, 1) := by decide +kernel
theorem dX4_readChoice_71 : decode cX4_readChoice 71 = .ok (.invokevirtual 83, 3) := by decide +kernel
theorem dX4_readChoice_74 : decode cX4_readChoice 74 = .ok (.aload_n 0, 1) := by decide +kernel
theorem dX4_readChoice_75 : decode cX4_readChoice 75 = .ok (.bipush 41, 2) := by decide +kernel
theorem dX4_readChoice_77 : decode cX4_readChoice 77 = .ok (.invokevirtual 70, 3) := by decide +kernel
theorem dX4_readChoice_80 : decode cX4_readChoice 80 = .ok (.pop, 1) := by decide +kernel
theorem dX4_readChoice_81 : decode cX4_readChoice 81 = .ok (.aload_n 0, 1) := by decide +kernel
theorem dX4_readChoice_82 : decode cX4_readChoice 82 = .ok (.getfield 25, 3) := by decide +kernel
theorem dX4_readChoice_85 : decode cX4_readChoice 85 = .ok (.bipush 8, 2) := by decide +kernel
theorem dX4_readChoice_87 : decode cX4_readChoice 87 = .ok (.iconst 0, 1) := by decide +kernel
theorem dX4_readChoice_88 : decode cX4_readChoice 88 = .ok (.iconst 0, 1) := by decide +kernel
theorem dX4_readChoice_89 : decode cX4_readChoice 89 = .ok (.invokevirtual 86, 3) := by decide +kernel
theorem dX4_readChoice_92 : decode cX4_readChoice 92 = .ok (.pop, 1) := by decide +kernel
theorem dX4_readChoice_93 : decode cX4_readChoice 93 = .ok (.aload_n 0, 1) := by decide +kernel
theorem dX4_readChoice_94 : decode cX4_readChoice 94 = .ok (.getfield 25, 3) := by decide +kernel
theorem dX4_readChoice_97 : decode cX4_readChoice 97 = .ok (.iload_n 3, 1) := by decide +kernel
theorem dX4_readChoice_98 : decode cX4_readChoice 98 = .ok (.invokevirtual 164, 3) := by decide +kernel
theorem dX4_readChoice_101 : decode cX4_readChoice 101 = .ok (.return_, 1) := by decide +kernel
theorem dX4_readPlace_0 : decode cX4_readPlace 0 = .ok (.aload_n 0, 1) := by decide +kernel
theorem dX4_readPlace_1 : decode cX4_readPlace 1 = .ok (.invokevirtual 47, 3) := by decide +kernel
theorem dX4_readPlace_4 : decode cX4_readPlace 4 = .ok (.bipush 48, 2) := by decide +kernel
theorem dX4_readPlace_6 : decode cX4_readPlace 6 = .ok (.isub, 1) := by decide +kernel
theorem dX4_readPlace_7 : decode cX4_readPlace 7 = .ok (.istore_n 3, 1) := by decide +kernel
theorem dX4_readPlace_8 : decode cX4_readPlace 8 = .ok (.iload_n 3, 1) := by decide +kernel
theorem dX4_readPlace_9 : decode cX4_readPlace 9 = .ok (.ifCond .lt 9, 3) := by decide +kernel
theorem dX4_readPlace_12 : decode cX4_readPlace 12 = .ok (.iload_n 3, 1) := by decide +kernel
theorem dX4_readPlace_13 : decode cX4_readPlace 13 = .ok (.bipush 8, 2) := by decide +kernel
theorem dX4_readPlace_15 : decode cX4_readPlace 15 = .ok (.if_icmp .lt 12, 3) := by decide +kernel
theorem dX4_readPlace_18 : decode cX4_readPlace 18 = .ok (.aload_n 0, 1) := by decide +kernel
theorem dX4_readPlace_19 : decode cX4_readPlace 19 = .ok (.aload_n 0, 1) := by decide +kernel
theorem dX4_readPlace_20 : decode cX4_readPlace 20 = .ok (.getfield 19, 3) := by decide +kernel
theorem dX4_readPlace_23 : decode cX4_readPlace 23 = .ok (.invokevirtual 51, 3) := by decide +kernel
theorem dX4_readPlace_26 : decode cX4_readPlace 26 = .ok (.return_, 1) := by decide +kernel
theorem dX4_readPlace_27 : decode cX4_readPlace 27 = .ok (.aload_n 0, 1) := by decide +kernel
theorem dX4_readPlace_28 : decode cX4_readPlace 28 = .ok (.dup, 1) := by decide +kernel
theorem dX4_readPlace_29 : decode cX4_readPlace 29 = .ok (.getfield 19, 3) := by decide +kernel
theorem dX4_readPlace_32 : decode cX4_readPlace 32 = .ok (.iconst 1, 1) := by decide +kernel
theorem dX4_readPlace_33 : decode cX4_readPlace 33 = .ok (.iadd, 1) := by decide +kernel
theorem dX4_readPlace_34 : decode cX4_readPlace 34 = .ok (.putfield 19, 3) := by decide +kernel
theorem dX4_readPlace_37 : decode cX4_readPlace 37 = .ok (.aload_n 0, 1) := by decide +kernel
theorem dX4_readPlace_38 : decode cX4_readPlace 38 = .ok (.getfield 25, 3) := by decide +kernel
theorem dX4_readPlace_41 : decode cX4_readPlace 41 = .ok (.iconst 5, 1) := by decide +kernel
theorem dX4_readPlace_42 : decode cX4_readPlace 42 = .ok (.invokevirtual 104, 3) := by decide +kernel
theorem dX4_readPlace_45 : decode cX4_readPlace 45 = .ok (.pop, 1) := by decide +kernel
theorem dX4_readPlace_46 : decode cX4_readPlace 46 = .ok (.iload_n 1, 1) := by decide +kernel
theorem dX4_readPlace_47 : decode cX4_readPlace 47 = .ok (.bipush 95, 2) := by decide +kernel
theorem dX4_readPlace_49 : decode cX4_readPlace 49 = .ok (.if_icmp .ne 16, 3) := by decide +kernel
theorem dX4_readPlace_52 : decode cX4_readPlace 52 = .ok (.aload_n 0, 1) := by decide +kernel
theorem dX4_readPlace_53 : decode cX4_readPlace 53 = .ok (.getfield 25, 3) := by decide +kernel
theorem dX4_readPlace_56 : decode cX4_readPlace 56 = .ok (.bipush 11, 2) := by decide +kernel
theorem dX4_readPlace_58 : decode cX4_readPlace 58 = .ok (.iload_n 3, 1) := by decide +kernel
theorem dX4_readPlace_59 : decode cX4_readPlace 59 = .ok (.iconst 0, 1) := by decide +kernel
theorem dX4_readPlace_60 : decode cX4_readPlace 60 = .ok (.invokevirtual 86, 3) := by decide +kernel
theorem dX4_readPlace_63 : decode cX4_readPlace 63 = .ok (.pop, 1) := by decide +kernel
theorem dX4_readPlace_64 : decode cX4_readPlace 64 = .ok (.return_, 1) := by decide +kernel
theorem dX4_readPlace_65 : decode cX4_readPlace 65 = .ok (.aload_n 0, 1) := by decide +kernel
theorem dX4_readPlace_66 : decode cX4_readPlace 66 = .ok (.iload_n 2, 1) := by decide +kernel
theorem dX4_readPlace_67 : decode cX4_readPlace 67 = .ok (.iconst 1, 1) := by decide +kernel
theorem dX4_readPlace_68 : decode cX4_readPlace 68 = .ok (.iadd, 1) := by decide +kernel
theorem dX4_readPlace_69 : decode cX4_readPlace 69 = .ok (.invokevirtual 83, 3) := by decide +kernel
theorem dX4_readPlace_72 : decode cX4_readPlace 72 = .ok (.aload_n 0, 1) := by decide +kernel
theorem dX4_readPlace_73 : decode cX4_readPlace 73 = .ok (.getfield 25, 3) := by decide +kernel
theorem dX4_readPlace_76 : decode cX4_readPlace 76 = .ok (.bipush 10, 2) := by decide +kernel
theorem dX4_readPlace_78 : decode cX4_readPlace 78 = .ok (.iload_n 3, 1) := by decide +kernel
theorem dX4_readPlace_79 : decode cX4_readPlace 79 = .ok (.iconst 0, 1) := by decide +kernel
theorem dX4_readPlace_80 : decode cX4_readPlace 80 = .ok (.invokevirtual 86, 3) := by decide +kernel
theorem dX4_readPlace_83 : decode cX4_readPlace 83 = .ok (.pop, 1) := by decide +kernel
theorem dX4_readPlace_84 : decode cX4_readPlace 84 = .ok (.return_, 1) := by decide +kernel
theorem dX4_readNaming_0 : decode cX4_readNaming 0 = .ok (.aload_n 0, 1) := by decide +kernel
theorem dX4_readNaming_1 : decode cX4_readNaming 1 = .ok (.invokevirtual 47, 3) := by decide +kernel
theorem dX4_readNaming_4 : decode cX4_readNaming 4 = .ok (.istore_n 2, 1) := by decide +kernel
theorem dX4_readNaming_5 : decode cX4_readNaming 5 = .ok (.iload_n 2, 1) := by decide +kernel
theorem dX4_readNaming_6 : decode cX4_readNaming 6 = .ok (.invokestatic 95, 3) := by decide +kernel
theorem dX4_readNaming_9 : decode cX4_readNaming 9 = .ok (.ifCond .ne 12, 3) := by decide +kernel
theorem dX4_readNaming_12 : decode cX4_readNaming 12 = .ok (.aload_n 0, 1) := by decide +kernel
theorem dX4_readNaming_13 : decode cX4_readNaming 13 = .ok (.aload_n 0, 1) := by decide +kernel
theorem dX4_readNaming_14 : decode cX4_readNaming 14 = .ok (.getfield 19, 3) := by decide +kernel
theorem dX4_readNaming_17 : decode cX4_readNaming 17 = .ok (.invokevirtual 51, 3) := by decide +kernel
theorem dX4_readNaming_20 : decode cX4_readNaming 20 = .ok (.return_, 1) := by decide +kernel
theorem dX4_readNaming_21 : decode cX4_readNaming 21 = .ok (.aload_n 0, 1) := by decide +kernel
theorem dX4_readNaming_22 : decode cX4_readNaming 22 = .ok (.dup, 1) := by decide +kernel
theorem dX4_readNaming_23 : decode cX4_readNaming 23 = .ok (.getfield 19, 3) := by decide +kernel
theorem dX4_readNaming_26 : decode cX4_readNaming 26 = .ok (.iconst 1, 1) := by decide +kernel
theorem dX4_readNaming_27 : decode cX4_readNaming 27 = .ok (.iadd, 1) := by decide +kernel
theorem dX4_readNaming_28 : decode cX4_readNaming 28 = .ok (.putfield 19, 3) := by decide +kernel
theorem dX4_readNaming_31 : decode cX4_readNaming 31 = .ok (.aload_n 0, 1) := by decide +kernel
theorem dX4_readNaming_32 : decode cX4_readNaming 32 = .ok (.bipush 61, 2) := by decide +kernel
theorem dX4_readNaming_34 : decode cX4_readNaming 34 = .ok (.invokevirtual 70, 3) := by decide +kernel
theorem dX4_readNaming_37 : decode cX4_readNaming 37 = .ok (.pop, 1) := by decide +kernel
theorem dX4_readNaming_38 : decode cX4_readNaming 38 = .ok (.aload_n 0, 1) := by decide +kernel
theorem dX4_readNaming_39 : decode cX4_readNaming 39 = .ok (.iload_n 1, 1) := by decide +kernel
theorem dX4_readNaming_40 : decode cX4_readNaming 40 = .ok (.iconst 1, 1) := by decide +kernel
theorem dX4_readNaming_41 : decode cX4_readNaming 41 = .ok (.iadd, 1) := by decide +kernel
theorem dX4_readNaming_42 : decode cX4_readNaming 42 = .ok (.invokevirtual 83, 3) := by decide +kernel
theorem dX4_readNaming_45 : decode cX4_readNaming 45 = .ok (.aload_n 0, 1) := by decide +kernel
theorem dX4_readNaming_46 : decode cX4_readNaming 46 = .ok (.bipush 44, 2) := by decide +kernel
theorem dX4_readNaming_48 : decode cX4_readNaming 48 = .ok (.invokevirtual 70, 3) := by decide +kernel
theorem dX4_readNaming_51 : decode cX4_readNaming 51 = .ok (.pop, 1) := by decide +kernel
theorem dX4_readNaming_52 : decode cX4_readNaming 52 = .ok (.aload_n 0, 1) := by decide +kernel
theorem dX4_readNaming_53 : decode cX4_readNaming 53 = .ok (.getfield 25, 3) := by decide +kernel
theorem dX4_readNaming_56 : decode cX4_readNaming 56 = .ok (.bipush 12, 2) := by decide +kernel
theorem dX4_readNaming_58 : decode cX4_readNaming 58 = .ok (.aload_n 0, 1) := by decide +kernel
theorem dX4_readNaming_59 : decode cX4_readNaming 59 = .ok (.getfield 34, 3) := by decide +kernel
theorem dX4_readNaming_62 : decode cX4_readNaming 62 = .ok (.iconst 0, 1) := by decide +kernel
theorem dX4_readNaming_63 : decode cX4_readNaming 63 = .ok (.invokevirtual 86, 3) := by decide +kernel
theorem dX4_readNaming_66 : decode cX4_readNaming 66 = .ok (.pop, 1) := by decide +kernel
theorem dX4_readNaming_67 : decode cX4_readNaming 67 = .ok (.aload_n 0, 1) := by decide +kernel
theorem dX4_readNaming_68 : decode cX4_readNaming 68 = .ok (.getfield 34, 3) := by decide +kernel
theorem dX4_readNaming_71 : decode cX4_readNaming 71 = .ok (.istore_n 3, 1) := by decide +kernel
theorem dX4_readNaming_72 : decode cX4_readNaming 72 = .ok (.aload_n 0, 1) := by decide +kernel
theorem dX4_readNaming_73 : decode cX4_readNaming 73 = .ok (.iload_n 2, 1) := by decide +kernel
theorem dX4_readNaming_74 : decode cX4_readNaming 74 = .ok (.invokevirtual 101, 3) := by decide +kernel
theorem dX4_readNaming_77 : decode cX4_readNaming 77 = .ok (.aload_n 0, 1) := by decide +kernel
theorem dX4_readNaming_78 : decode cX4_readNaming 78 = .ok (.iload_n 1, 1) := by decide +kernel
theorem dX4_readNaming_79 : decode cX4_readNaming 79 = .ok (.iconst 1, 1) := by decide +kernel
theorem dX4_readNaming_80 : decode cX4_readNaming 80 = .ok (.iadd, 1) := by decide +kernel
theorem dX4_readNaming_81 : decode cX4_readNaming 81 = .ok (.invokevirtual 83, 3) := by decide +kernel
theorem dX4_readNaming_84 : decode cX4_readNaming 84 = .ok (.aload_n 0, 1) := by decide +kernel
theorem dX4_readNaming_85 : decode cX4_readNaming 85 = .ok (.iload_n 3, 1) := by decide +kernel
theorem dX4_readNaming_86 : decode cX4_readNaming 86 = .ok (.putfield 34, 3) := by decide +kernel
theorem dX4_readNaming_89 : decode cX4_readNaming 89 = .ok (.return_, 1) := by decide +kernel
theorem dX4_readTask_0 : decode cX4_readTask 0 = .ok (.aload_n 1, 1) := by decide +kernel
theorem dX4_readTask_1 : decode cX4_readTask 1 = .ok (.iconst 0, 1) := by decide +kernel
theorem dX4_readTask_2 : decode cX4_readTask 2 = .ok (.invokevirtual 169, 3) := by decide +kernel
theorem dX4_readTask_5 : decode cX4_readTask 5 = .ok (.aload_n 0, 1) := by decide +kernel
theorem dX4_readTask_6 : decode cX4_readTask 6 = .ok (.invokevirtual 47, 3) := by decide +kernel
theorem dX4_readTask_9 : decode cX4_readTask 9 = .ok (.istore_n 2, 1) := by decide +kernel
theorem dX4_readTask_10 : decode cX4_readTask 10 = .ok (.iload_n 2, 1) := by decide +kernel
theorem dX4_readTask_11 : decode cX4_readTask 11 = .ok (.invokestatic 67, 3) := by decide +kernel
theorem dX4_readTask_14 : decode cX4_readTask 14 = .ok (.ifCond .ne 12, 3) := by decide +kernel
theorem dX4_readTask_17 : decode cX4_readTask 17 = .ok (.aload_n 0, 1) := by decide +kernel
theorem dX4_readTask_18 : decode cX4_readTask 18 = .ok (.aload_n 0, 1) := by decide +kernel
theorem dX4_readTask_19 : decode cX4_readTask 19 = .ok (.getfield 19, 3) := by decide +kernel
theorem dX4_readTask_22 : decode cX4_readTask 22 = .ok (.invokevirtual 51, 3) := by decide +kernel
theorem dX4_readTask_25 : decode cX4_readTask 25 = .ok (.return_, 1) := by decide +kernel
theorem dX4_readTask_26 : decode cX4_readTask 26 = .ok (.aload_n 0, 1) := by decide +kernel
theorem dX4_readTask_27 : decode cX4_readTask 27 = .ok (.dup, 1) := by decide +kernel
theorem dX4_readTask_28 : decode cX4_readTask 28 = .ok (.getfield 19, 3) := by decide +kernel
theorem dX4_readTask_31 : decode cX4_readTask 31 = .ok (.iconst 1, 1) := by decide +kernel
theorem dX4_readTask_32 : decode cX4_readTask 32 = .ok (.iadd, 1) := by decide +kernel
theorem dX4_readTask_33 : decode cX4_readTask 33 = .ok (.putfield 19, 3) := by decide +kernel
theorem dX4_readTask_36 : decode cX4_readTask 36 = .ok (.aload_n 0, 1) := by decide +kernel
theorem dX4_readTask_37 : decode cX4_readTask 37 = .ok (.bipush 40, 2) := by decide +kernel
theorem dX4_readTask_39 : decode cX4_readTask 39 = .ok (.invokevirtual 70, 3) := by decide +kernel
theorem dX4_readTask_42 : decode cX4_readTask 42 = .ok (.pop, 1) := by decide +kernel
theorem dX4_readTask_43 : decode cX4_readTask 43 = .ok (.iconst 0, 1) := by decide +kernel
theorem dX4_readTask_44 : decode cX4_readTask 44 = .ok (.istore_n 3, 1) := by decide +kernel
theorem dX4_readTask_45 : decode cX4_readTask 45 = .ok (.aload_n 0, 1) := by decide +kernel
theorem dX4_readTask_46 : decode cX4_readTask 46 = .ok (.invokevirtual 43, 3) := by decide +kernel
theorem dX4_readTask_49 : decode cX4_readTask 49 = .ok (.ifCond .eq 67, 3) := by decide +kernel
theorem dX4_readTask_52 : decode cX4_readTask 52 = .ok (.aload_n 0, 1) := by decide +kernel
theorem dX4_readTask_53 : decode cX4_readTask 53 = .ok (.invokevirtual 47, 3) := by decide +kernel
theorem dX4_readTask_56 : decode cX4_readTask 56 = .ok (.bipush 41, 2) := by decide +kernel
theorem dX4_readTask_58 : decode cX4_readTask 58 = .ok (.if_icmp .eq 58, 3) := by decide +kernel
theorem dX4_readTask_61 : decode cX4_readTask 61 = .ok (.aload_n 0, 1) := by decide +kernel
theorem dX4_readTask_62 : decode cX4_readTask 62 = .ok (.aload_n 1, 1) := by decide +kernel
theorem dX4_readTask_63 : decode cX4_readTask 63 = .ok (.bipush 8, 2) := by decide +kernel
theorem dX4_readTask_65 : decode cX4_readTask 65 = .ok (.iconst 0, 1) := by decide +kernel
theorem dX4_readTask_66 : decode cX4_readTask 66 = .ok (.invokevirtual 170, 3) := by decide +kernel
theorem dX4_readTask_69 : decode cX4_readTask 69 = .ok (.iconst 1, 1) := by decide +kernel
theorem dX4_readTask_70 : decode cX4_readTask 70 = .ok (.istore_n 3, 1) := by decide +kernel
theorem dX4_readTask_71 : decode cX4_readTask 71 = .ok (.aload_n 0, 1) := by decide +kernel
theorem dX4_readTask_72 : decode cX4_readTask 72 = .ok (.invokevirtual 43, 3) := by decide +kernel
theorem dX4_readTask_75 : decode cX4_readTask 75 = .ok (.ifCond .eq 41, 3) := by decide +kernel
theorem dX4_readTask_78 : decode cX4_readTask 78 = .ok (.aload_n 0, 1) := by decide +kernel
theorem dX4_readTask_79 : decode cX4_readTask 79 = .ok (.invokevirtual 47, 3) := by decide +kernel
theorem dX4_readTask_82 : decode cX4_readTask 82 = .ok (.bipush 44, 2) := by decide +kernel
theorem dX4_readTask_84 : decode cX4_readTask 84 = .ok (.if_icmp .ne 32, 3) := by decide +kernel
theorem dX4_readTask_87 : decode cX4_readTask 87 = .ok (.iload_n 3, 1) := by decide +kernel
theorem dX4_readTask_88 : decode cX4_readTask 88 = .ok (.iconst 5, 1) := by decide +kernel
theorem dX4_readTask_89 : decode cX4_readTask 89 = .ok (.if_icmp .ge 27, 3) := by decide +kernel
theorem dX4_readTask_92 : decode cX4_readTask 92 = .ok (.aload_n 0, 1) := by decide +kernel
theorem dX4_readTask_93 : decode cX4_readTask 93 = .ok (.dup, 1) := by decide +kernel
theorem dX4_readTask_94 : decode cX4_readTask 94 = .ok (.getfield 19, 3) := by decide +kernel
theorem dX4_readTask_97 : decode cX4_readTask 97 = .ok (.iconst 1, 1) := by decide +kernel
theorem dX4_readTask_98 : decode cX4_readTask 98 = .ok (.iadd, 1) := by decide +kernel
theorem dX4_readTask_99 : decode cX4_readTask 99 = .ok (.putfield 19, 3) := by decide +kernel
theorem dX4_readTask_102 : decode cX4_readTask 102 = .ok (.aload_n 0, 1) := by decide +kernel
theorem dX4_readTask_103 : decode cX4_readTask 103 = .ok (.aload_n 1, 1) := by decide +kernel
theorem dX4_readTask_104 : decode cX4_readTask 104 = .ok (.bipush 8, 2) := by decide +kernel
theorem dX4_readTask_106 : decode cX4_readTask 106 = .ok (.iconst 0, 1) := by decide +kernel
theorem dX4_readTask_107 : decode cX4_readTask 107 = .ok (.invokevirtual 170, 3) := by decide +kernel
theorem dX4_readTask_110 : decode cX4_readTask 110 = .ok (.iinc 3 1, 3) := by decide +kernel
theorem dX4_readTask_113 : decode cX4_readTask 113 = .ok (.goto (-42), 3) := by decide +kernel
theorem dX4_readTask_116 : decode cX4_readTask 116 = .ok (.aload_n 0, 1) := by decide +kernel
theorem dX4_readTask_117 : decode cX4_readTask 117 = .ok (.bipush 41, 2) := by decide +kernel
theorem dX4_readTask_119 : decode cX4_readTask 119 = .ok (.invokevirtual 70, 3) := by decide +kernel
theorem dX4_readTask_122 : decode cX4_readTask 122 = .ok (.pop, 1) := by decide +kernel
theorem dX4_readTask_123 : decode cX4_readTask 123 = .ok (.aload_n 1, 1) := by decide +kernel
theorem dX4_readTask_124 : decode cX4_readTask 124 = .ok (.iload_n 2, 1) := by decide +kernel
theorem dX4_readTask_125 : decode cX4_readTask 125 = .ok (.bipush 97, 2) := by decide +kernel
theorem dX4_readTask_127 : decode cX4_readTask 127 = .ok (.isub, 1) := by decide +kernel
theorem dX4_readTask_128 : decode cX4_readTask 128 = .ok (.bipush 6, 2) := by decide +kernel
theorem dX4_readTask_130 : decode cX4_readTask 130 = .ok (.imul, 1) := by decide +kernel
theorem dX4_readTask_131 : decode cX4_readTask 131 = .ok (.iload_n 3, 1) := by decide +kernel
theorem dX4_readTask_132 : decode cX4_readTask 132 = .ok (.iadd, 1) := by decide +kernel
theorem dX4_readTask_133 : decode cX4_readTask 133 = .ok (.putfield 174, 3) := by decide +kernel
theorem dX4_readTask_136 : decode cX4_readTask 136 = .ok (.aload_n 0, 1) := by decide +kernel
theorem dX4_readTask_137 : decode cX4_readTask 137 = .ok (.invokevirtual 177, 3) := by decide +kernel
theorem dX4_readTask_140 : decode cX4_readTask 140 = .ok (.return_, 1) := by decide +kernel
theorem dX4_readValues_0 : decode cX4_readValues 0 = .ok (.aload_n 1, 1) := by decide +kernel
theorem dX4_readValues_1 : decode cX4_readValues 1 = .ok (.iconst 0, 1) := by decide +kernel
theorem dX4_readValues_2 : decode cX4_readValues 2 = .ok (.invokevirtual 169, 3) := by decide +kernel
theorem dX4_readValues_5 : decode cX4_readValues 5 = .ok (.iconst 0, 1) := by decide +kernel
theorem dX4_readValues_6 : decode cX4_readValues 6 = .ok (.istore_n 3, 1) := by decide +kernel
theorem dX4_readValues_7 : decode cX4_readValues 7 = .ok (.iload_n 3, 1) := by decide +kernel
theorem dX4_readValues_8 : decode cX4_readValues 8 = .ok (.iload_n 2, 1) := by decide +kernel
theorem dX4_readValues_9 : decode cX4_readValues 9 = .ok (.if_icmp .ge 34, 3) := by decide +kernel
theorem dX4_readValues_12 : decode cX4_readValues 12 = .ok (.aload_n 0, 1) := by decide +kernel
theorem dX4_readValues_13 : decode cX4_readValues 13 = .ok (.invokevirtual 43, 3) := by decide +kernel
theorem dX4_readValues_16 : decode cX4_readValues 16 = .ok (.ifCond .eq 27, 3) := by decide +kernel
theorem dX4_readValues_19 : decode cX4_readValues 19 = .ok (.iload_n 3, 1) := by decide +kernel
theorem dX4_readValues_20 : decode cX4_readValues 20 = .ok (.ifCond .le 10, 3) := by decide +kernel
theorem dX4_readValues_23 : decode cX4_readValues 23 = .ok (.aload_n 0, 1) := by decide +kernel
theorem dX4_readValues_24 : decode cX4_readValues 24 = .ok (.bipush 44, 2) := by decide +kernel
theorem dX4_readValues_26 : decode cX4_readValues 26 = .ok (.invokevirtual 70, 3) := by decide +kernel
theorem dX4_readValues_29 : decode cX4_readValues 29 = .ok (.pop, 1) := by decide +kernel
theorem dX4_readValues_30 : decode cX4_readValues 30 = .ok (.aload_n 0, 1) := by decide +kernel
theorem dX4_readValues_31 : decode cX4_readValues 31 = .ok (.aload_n 1, 1) := by decide +kernel
theorem dX4_readValues_32 : decode cX4_readValues 32 = .ok (.iconst 0, 1) := by decide +kernel
theorem dX4_readValues_33 : decode cX4_readValues 33 = .ok (.iconst 0, 1) := by decide +kernel
theorem dX4_readValues_34 : decode cX4_readValues 34 = .ok (.invokevirtual 170, 3) := by decide +kernel
theorem dX4_readValues_37 : decode cX4_readValues 37 = .ok (.iinc 3 1, 3) := by decide +kernel
theorem dX4_readValues_40 : decode cX4_readValues 40 = .ok (.goto (-33), 3) := by decide +kernel
theorem dX4_readValues_43 : decode cX4_readValues 43 = .ok (.aload_n 0, 1) := by decide +kernel
theorem dX4_readValues_44 : decode cX4_readValues 44 = .ok (.invokevirtual 177, 3) := by decide +kernel
theorem dX4_readValues_47 : decode cX4_readValues 47 = .ok (.return_, 1) := by decide +kernel
theorem dX4_takeEnd_0 : decode cX4_takeEnd 0 = .ok (.aload_n 0, 1) := by decide +kernel
theorem dX4_takeEnd_1 : decode cX4_takeEnd 1 = .ok (.invokevirtual 43, 3) := by decide +kernel
theorem dX4_takeEnd_4 : decode cX4_takeEnd 4 = .ok (.ifCond .eq 22, 3) := by decide +kernel
theorem dX4_takeEnd_7 : decode cX4_takeEnd 7 = .ok (.aload_n 0, 1) := by decide +kernel
theorem dX4_takeEnd_8 : decode cX4_takeEnd 8 = .ok (.getfield 19, 3) := by decide +kernel
theorem dX4_takeEnd_11 : decode cX4_takeEnd 11 = .ok (.aload_n 0, 1) := by decide +kernel
theorem dX4_takeEnd_12 : decode cX4_takeEnd 12 = .ok (.getfield 15, 3) := by decide +kernel
theorem dX4_takeEnd_15 : decode cX4_takeEnd 15 = .ok (.if_icmp .ge 11, 3) := by decide +kernel
theorem dX4_takeEnd_18 : decode cX4_takeEnd 18 = .ok (.aload_n 0, 1) := by decide +kernel
theorem dX4_takeEnd_19 : decode cX4_takeEnd 19 = .ok (.aload_n 0, 1) := by decide +kernel
theorem dX4_takeEnd_20 : decode cX4_takeEnd 20 = .ok (.getfield 19, 3) := by decide +kernel
theorem dX4_takeEnd_23 : decode cX4_takeEnd 23 = .ok (.invokevirtual 51, 3) := by decide +kernel
theorem dX4_takeEnd_26 : decode cX4_takeEnd 26 = .ok (.return_, 1) := by decide +kernel
theorem dX4_readPart_0 : decode cX4_readPart 0 = .ok (.aload_n 0, 1) := by decide +kernel
theorem dX4_readPart_1 : decode cX4_readPart 1 = .ok (.invokevirtual 43, 3) := by decide +kernel
theorem dX4_readPart_4 : decode cX4_readPart 4 = .ok (.ifCond .ne 4, 3) := by decide +kernel
theorem dX4_readPart_7 : decode cX4_readPart 7 = .ok (.return_, 1) := by decide +kernel
theorem dX4_readPart_8 : decode cX4_readPart 8 = .ok (.aload_n 0, 1) := by decide +kernel
theorem dX4_readPart_9 : decode cX4_readPart 9 = .ok (.invokevirtual 47, 3) := by decide +kernel
theorem dX4_readPart_12 : decode cX4_readPart 12 = .ok (.istore 4, 2) := by decide +kernel
theorem dX4_readPart_14 : decode cX4_readPart 14 = .ok (.aload_n 1, 1) := by decide +kernel
theorem dX4_readPart_15 : decode cX4_readPart 15 = .ok (.getfield 180, 3) := by decide +kernel
theorem dX4_readPart_18 : decode cX4_readPart 18 = .ok (.bipush 30, 2) := by decide +kernel
theorem dX4_readPart_20 : decode cX4_readPart 20 = .ok (.if_icmp .ge 9, 3) := by decide +kernel
theorem dX4_readPart_23 : decode cX4_readPart 23 = .ok (.iload_n 3, 1) := by decide +kernel
theorem dX4_readPart_24 : decode cX4_readPart 24 = .ok (.bipush 30, 2) := by decide +kernel
theorem dX4_readPart_26 : decode cX4_readPart 26 = .ok (.if_icmp .le 14, 3) := by decide +kernel
theorem dX4_readPart_29 : decode cX4_readPart 29 = .ok (.aload_n 0, 1) := by decide +kernel
theorem dX4_readPart_30 : decode cX4_readPart 30 = .ok (.aload_n 0, 1) := by decide +kernel
theorem dX4_readPart_31 : decode cX4_readPart 31 = .ok (.getfield 19, 3) := by decide +kernel
theorem dX4_readPart_34 : decode cX4_readPart 34 = .ok (.invokevirtual 51, 3) := by decide +kernel
theorem dX4_readPart_37 : decode cX4_readPart 37 = .ok (.goto 127, 3) := by decide +kernel
theorem dX4_readPart_40 : decode cX4_readPart 40 = .ok (.iload 4, 2) := by decide +kernel
theorem dX4_readPart_42 : decode cX4_readPart 42 = .ok (.bipush 91, 2) := by decide +kernel
theorem dX4_readPart_44 : decode cX4_readPart 44 = .ok (.if_icmp .ne 56, 3) := by decide +kernel
theorem dX4_readPart_47 : decode cX4_readPart 47 = .ok (.aload_n 0, 1) := by decide +kernel
theorem dX4_readPart_48 : decode cX4_readPart 48 = .ok (.dup, 1) := by decide +kernel
theorem dX4_readPart_49 : decode cX4_readPart 49 = .ok (.getfield 19, 3) := by decide +kernel
theorem dX4_readPart_52 : decode cX4_readPart 52 = .ok (.iconst 1, 1) := by decide +kernel
theorem dX4_readPart_53 : decode cX4_readPart 53 = .ok (.iadd, 1) := by decide +kernel
theorem dX4_readPart_54 : decode cX4_readPart 54 = .ok (.putfield 19, 3) := by decide +kernel
theorem dX4_readPart_57 : decode cX4_readPart 57 = .ok (.aload_n 1, 1) := by decide +kernel
theorem dX4_readPart_58 : decode cX4_readPart 58 = .ok (.ldc2_w 181, 3) := by decide +kernel
theorem dX4_readPart_61 : decode cX4_readPart 61 = .ok (.lconst 0, 1) := by decide +kernel
theorem dX4_readPart_62 : decode cX4_readPart 62 = .ok (.invokevirtual 183, 3) := by decide +kernel
theorem dX4_readPart_65 : decode cX4_readPart 65 = .ok (.aload_n 0, 1) := by decide +kernel
theorem dX4_readPart_66 : decode cX4_readPart 66 = .ok (.aload_n 1, 1) := by decide +kernel
theorem dX4_readPart_67 : decode cX4_readPart 67 = .ok (.iload_n 2, 1) := by decide +kernel
theorem dX4_readPart_68 : decode cX4_readPart 68 = .ok (.iload_n 3, 1) := by decide +kernel
theorem dX4_readPart_69 : decode cX4_readPart 69 = .ok (.iconst 1, 1) := by decide +kernel
theorem dX4_readPart_70 : decode cX4_readPart 70 = .ok (.iadd, 1) := by decide +kernel
theorem dX4_readPart_71 : decode cX4_readPart 71 = .ok (.invokevirtual 170, 3) := by decide +kernel
theorem dX4_readPart_74 : decode cX4_readPart 74 = .ok (.aload_n 0, 1) := by decide +kernel
theorem dX4_readPart_75 : decode cX4_readPart 75 = .ok (.bipush 44, 2) := by decide +kernel
theorem dX4_readPart_77 : decode cX4_readPart 77 = .ok (.invokevirtual 70, 3) := by decide +kernel
theorem dX4_readPart_80 : decode cX4_readPart 80 = .ok (.pop, 1) := by decide +kernel
theorem dX4_readPart_81 : decode cX4_readPart 81 = .ok (.aload_n 0, 1) := by decide +kernel
theorem dX4_readPart_82 : decode cX4_readPart 82 = .ok (.aload_n 1, 1) := by decide +kernel
theorem dX4_readPart_83 : decode cX4_readPart 83 = .ok (.iload_n 2, 1) := by decide +kernel
theorem dX4_readPart_84 : decode cX4_readPart 84 = .ok (.iload_n 3, 1) := by decide +kernel
theorem dX4_readPart_85 : decode cX4_readPart 85 = .ok (.iconst 1, 1) := by decide +kernel
theorem dX4_readPart_86 : decode cX4_readPart 86 = .ok (.iadd, 1) := by decide +kernel
theorem dX4_readPart_87 : decode cX4_readPart 87 = .ok (.invokevirtual 170, 3) := by decide +kernel
theorem dX4_readPart_90 : decode cX4_readPart 90 = .ok (.aload_n 0, 1) := by decide +kernel
theorem dX4_readPart_91 : decode cX4_readPart 91 = .ok (.bipush 93, 2) := by decide +kernel
theorem dX4_readPart_93 : decode cX4_readPart 93 = .ok (.invokevirtual 70, 3) := by decide +kernel
theorem dX4_readPart_96 : decode cX4_readPart 96 = .ok (.pop, 1) := by decide +kernel
theorem dX4_readPart_97 : decode cX4_readPart 97 = .ok (.goto 67, 3) := by decide +kernel
theorem dX4_readPart_100 : decode cX4_readPart 100 = .ok (.iload 4, 2) := by decide +kernel
theorem dX4_readPart_102 : decode cX4_readPart 102 = .ok (.invokestatic 107, 3) := by decide +kernel
theorem dX4_readPart_105 : decode cX4_readPart 105 = .ok (.ifCond .eq 15, 3) := by decide +kernel
theorem dX4_readPart_108 : decode cX4_readPart 108 = .ok (.aload_n 1, 1) := by decide +kernel
theorem dX4_readPart_109 : decode cX4_readPart 109 = .ok (.aload_n 0, 1) := by decide +kernel
theorem dX4_readPart_110 : decode cX4_readPart 110 = .ok (.invokevirtual 110, 3) := by decide +kernel
theorem dX4_readPart_113 : decode cX4_readPart 113 = .ok (.lconst 0, 1) := by decide +kernel
theorem dX4_readPart_114 : decode cX4_readPart 114 = .ok (.invokevirtual 183, 3) := by decide +kernel
theorem dX4_readPart_117 : decode cX4_readPart 117 = .ok (.goto 47, 3) := by decide +kernel
theorem dX4_readPart_120 : decode cX4_readPart 120 = .ok (.iload 4, 2) := by decide +kernel
theorem dX4_readPart_122 : decode cX4_readPart 122 = .ok (.bipush 42, 2) := by decide +kernel
theorem dX4_readPart_124 : decode cX4_readPart 124 = .ok (.if_icmp .ne 32, 3) := by decide +kernel
theorem dX4_readPart_127 : decode cX4_readPart 127 = .ok (.aload_n 1, 1) := by decide +kernel
theorem dX4_readPart_128 : decode cX4_readPart 128 = .ok (.invokevirtual 186, 3) := by decide +kernel
theorem dX4_readPart_131 : decode cX4_readPart 131 = .ok (.iload_n 2, 1) := by decide +kernel
theorem dX4_readPart_132 : decode cX4_readPart 132 = .ok (.if_icmp .ge 24, 3) := by decide +kernel
theorem dX4_readPart_135 : decode cX4_readPart 135 = .ok (.aload_n 0, 1) := by decide +kernel
theorem dX4_readPart_136 : decode cX4_readPart 136 = .ok (.dup, 1) := by decide +kernel
theorem dX4_readPart_137 : decode cX4_readPart 137 = .ok (.getfield 19, 3) := by decide +kernel
theorem dX4_readPart_140 : decode cX4_readPart 140 = .ok (.iconst 1, 1) := by decide +kernel
theorem dX4_readPart_141 : decode cX4_readPart 141 = .ok (.iadd, 1) := by decide +kernel
theorem dX4_readPart_142 : decode cX4_readPart 142 = .ok (.putfield 19, 3) := by decide +kernel
theorem dX4_readPart_145 : decode cX4_readPart 145 = .ok (.aload_n 1, 1) := by decide +kernel
theorem dX4_readPart_146 : decode cX4_readPart 146 = .ok (.ldc2_w 189, 3) := by decide +kernel
theorem dX4_readPart_149 : decode cX4_readPart 149 = .ok (.lconst 0, 1) := by decide +kernel
theorem dX4_readPart_150 : decode cX4_readPart 150 = .ok (.invokevirtual 183, 3) := by decide +kernel
theorem dX4_readPart_153 : decode cX4_readPart 153 = .ok (.goto 11, 3) := by decide +kernel
theorem dX4_readPart_156 : decode cX4_readPart 156 = .ok (.aload_n 0, 1) := by decide +kernel
theorem dX4_readPart_157 : decode cX4_readPart 157 = .ok (.aload_n 0, 1) := by decide +kernel
theorem dX4_readPart_158 : decode cX4_readPart 158 = .ok (.getfield 19, 3) := by decide +kernel
theorem dX4_readPart_161 : decode cX4_readPart 161 = .ok (.invokevirtual 51, 3) := by decide +kernel
theorem dX4_readPart_164 : decode cX4_readPart 164 = .ok (.return_, 1) := by decide +kernel
theorem dX5_init_0 : decode cX5_init 0 = .ok (.aload_n 0, 1) := by decide +kernel
theorem dX5_init_1 : decode cX5_init 1 = .ok (.invokespecial 5, 3) := by decide +kernel
theorem dX5_init_4 : decode cX5_init 4 = .ok (.aload_n 0, 1) := by decide +kernel
theorem dX5_init_5 : decode cX5_init 5 = .ok (.sipush 2400, 3) := by decide +kernel
theorem dX5_init_8 : decode cX5_init 8 = .ok (.newarray .int, 2) := by decide +kernel
theorem dX5_init_10 : decode cX5_init 10 = .ok (.putfield 11, 3) := by decide +kernel
theorem dX5_init_13 : decode cX5_init 13 = .ok (.aload_n 0, 1) := by decide +kernel
theorem dX5_init_14 : decode cX5_init 14 = .ok (.sipush 3000, 3) := by decide +kernel
theorem dX5_init_17 : decode cX5_init 17 = .ok (.newarray .long, 2) := by decide +kernel
theorem dX5_init_19 : decode cX5_init 19 = .ok (.putfield 15, 3) := by decide +kernel
theorem dX5_init_22 : decode cX5_init 22 = .ok (.aload_n 0, 1) := by decide +kernel
theorem dX5_init_23 : decode cX5_init 23 = .ok (.sipush 672, 3) := by decide +kernel
theorem dX5_init_26 : decode cX5_init 26 = .ok (.newarray .int, 2) := by decide +kernel
theorem dX5_init_28 : decode cX5_init 28 = .ok (.putfield 19, 3) := by decide +kernel
theorem dX5_init_31 : decode cX5_init 31 = .ok (.aload_n 0, 1) := by decide +kernel
theorem dX5_init_32 : decode cX5_init 32 = .ok (.sipush 672, 3) := by decide +kernel
theorem dX5_init_35 : decode cX5_init 35 = .ok (.newarray .int, 2) := by decide +kernel
theorem dX5_init_37 : decode cX5_init 37 = .ok (.putfield 22, 3) := by decide +kernel
theorem dX5_init_40 : decode cX5_init 40 = .ok (.aload_n 0, 1) := by decide +kernel
theorem dX5_init_41 : decode cX5_init 41 = .ok (.sipush 672, 3) := by decide +kernel
theorem dX5_init_44 : decode cX5_init 44 = .ok (.newarray .long, 2) := by decide +kernel
theorem dX5_init_46 : decode cX5_init 46 = .ok (.putfield 25, 3) := by decide +kernel
theorem dX5_init_49 : decode cX5_init 49 = .ok (.aload_n 0, 1) := by decide +kernel
theorem dX5_init_50 : decode cX5_init 50 = .ok (.bipush 96, 2) := by decide +kernel
theorem dX5_init_52 : decode cX5_init 52 = .ok (.newarray .int, 2) := by decide +kernel
theorem dX5_init_54 : decode cX5_init 54 = .ok (.putfield 28, 3) := by decide +kernel
theorem dX5_init_57 : decode cX5_init 57 = .ok (.aload_n 0, 1) := by decide +kernel
theorem dX5_init_58 : decode cX5_init 58 = .ok (.bipush 24, 2) := by decide +kernel
theorem dX5_init_60 : decode cX5_init 60 = .ok (.anewarray 31, 3) := by decide +kernel
theorem dX5_init_63 : decode cX5_init 63 = .ok (.putfield 33, 3) := by decide +kernel
theorem dX5_init_66 : decode cX5_init 66 = .ok (.iconst 0, 1) := by decide +kernel
theorem dX5_init_67 : decode cX5_init 67 = .ok (.istore_n 1, 1) := by decide +kernel
theorem dX5_init_68 : decode cX5_init 68 = .ok (.iload_n 1, 1) := by decide +kernel
theorem dX5_init_69 : decode cX5_init 69 = .ok (.bipush 24, 2) := by decide +kernel
theorem dX5_init_71 : decode cX5_init 71 = .ok (.if_icmp .ge 25, 3) := by decide +kernel
theorem dX5_init_74 : decode cX5_init 74 = .ok (.aload_n 0, 1) := by decide +kernel
theorem dX5_init_75 : decode cX5_init 75 = .ok (.getfield 33, 3) := by decide +kernel
theorem dX5_init_78 : decode cX5_init 78 = .ok (.iload_n 1, 1) := by decide +kernel
theorem dX5_init_79 : decode cX5_init 79 = .ok (.new 31, 3) := by decide +kernel
theorem dX5_init_82 : decode cX5_init 82 = .ok (.dup, 1) := by decide +kernel
theorem dX5_init_83 : decode cX5_init 83 = .ok (.sipush 200, 3) := by decide +kernel
theorem dX5_init_86 : decode cX5_init 86 = .ok (.invokespecial 37, 3) := by decide +kernel
theorem dX5_init_89 : decode cX5_init 89 = .ok (.aastore, 1) := by decide +kernel
theorem dX5_init_90 : decode cX5_init 90 = .ok (.iinc 1 1, 3) := by decide +kernel
theorem dX5_init_93 : decode cX5_init 93 = .ok (.goto (-25), 3) := by decide +kernel
theorem dX5_init_96 : decode cX5_init 96 = .ok (.aload_n 0, 1) := by decide +kernel
theorem dX5_init_97 : decode cX5_init 97 = .ok (.iconst 0, 1) := by decide +kernel
theorem dX5_init_98 : decode cX5_init 98 = .ok (.putfield 40, 3) := by decide +kernel
theorem dX5_init_101 : decode cX5_init 101 = .ok (.aload_n 0, 1) := by decide +kernel
theorem dX5_init_102 : decode cX5_init 102 = .ok (.iconst 0, 1) := by decide +kernel
theorem dX5_init_103 : decode cX5_init 103 = .ok (.putfield 44, 3) := by decide +kernel
theorem dX5_init_106 : decode cX5_init 106 = .ok (.aload_n 0, 1) := by decide +kernel
theorem dX5_init_107 : decode cX5_init 107 = .ok (.iconst 0, 1) := by decide +kernel
theorem dX5_init_108 : decode cX5_init 108 = .ok (.putfield 48, 3) := by decide +kernel
theorem dX5_init_111 : decode cX5_init 111 = .ok (.aload_n 0, 1) := by decide +kernel
theorem dX5_init_112 : decode cX5_init 112 = .ok (.iconst 0, 1) := by decide +kernel
theorem dX5_init_113 : decode cX5_init 113 = .ok (.putfield 51, 3) := by decide +kernel
theorem dX5_init_116 : decode cX5_init 116 = .ok (.aload_n 0, 1) := by decide +kernel
theorem dX5_init_117 : decode cX5_init 117 = .ok (.iconst 0, 1) := by decide +kernel
theorem dX5_init_118 : decode cX5_init 118 = .ok (.putfield 54, 3) := by decide +kernel
theorem dX5_init_121 : decode cX5_init 121 = .ok (.aload_n 0, 1) := by decide +kernel
theorem dX5_init_122 : decode cX5_init 122 = .ok (.iconst 0, 1) := by decide +kernel
theorem dX5_init_123 : decode cX5_init 123 = .ok (.putfield 57, 3) := by decide +kernel
theorem dX5_init_126 : decode cX5_init 126 = .ok (.aload_n 0, 1) := by decide +kernel
theorem dX5_init_127 : decode cX5_init 127 = .ok (.iconst 0, 1) := by decide +kernel
theorem dX5_init_128 : decode cX5_init 128 = .ok (.putfield 60, 3) := by decide +kernel
theorem dX5_init_131 : decode cX5_init 131 = .ok (.return_, 1) := by decide +kernel
theorem dX5_clear_0 : decode cX5_clear 0 = .ok (.aload_n 0, 1) := by decide +kernel
theorem dX5_clear_1 : decode cX5_clear 1 = .ok (.iconst 0, 1) := by decide +kernel
theorem dX5_clear_2 : decode cX5_clear 2 = .ok (.putfield 40, 3) := by decide +kernel
theorem dX5_clear_5 : decode cX5_clear 5 = .ok (.aload_n 0, 1) := by decide +kernel
theorem dX5_clear_6 : decode cX5_clear 6 = .ok (.iconst 0, 1) := by decide +kernel
theorem dX5_clear_7 : decode cX5_clear 7 = .ok (.putfield 44, 3) := by decide +kernel
theorem dX5_clear_10 : decode cX5_clear 10 = .ok (.aload_n 0, 1) := by decide +kernel
theorem dX5_clear_11 : decode cX5_clear 11 = .ok (.iconst 0, 1) := by decide +kernel
theorem dX5_clear_12 : decode cX5_clear 12 = .ok (.putfield 48, 3) := by decide +kernel
theorem dX5_clear_15 : decode cX5_clear 15 = .ok (.aload_n 0, 1) := by decide +kernel
theorem dX5_clear_16 : decode cX5_clear 16 = .ok (.iconst 0, 1) := by decide +kernel
theorem dX5_clear_17 : decode cX5_clear 17 = .ok (.putfield 51, 3) := by decide +kernel
theorem dX5_clear_20 : decode cX5_clear 20 = .ok (.aload_n 0, 1) := by decide +kernel
theorem dX5_clear_21 : decode cX5_clear 21 = .ok (.iconst 0, 1) := by decide +kernel
theorem dX5_clear_22 : decode cX5_clear 22 = .ok (.putfield 54, 3) := by decide +kernel
theorem dX5_clear_25 : decode cX5_clear 25 = .ok (.aload_n 0, 1) := by decide +kernel
theorem dX5_clear_26 : decode cX5_clear 26 = .ok (.iconst 0, 1) := by decide +kernel
theorem dX5_clear_27 : decode cX5_clear 27 = .ok (.putfield 57, 3) := by decide +kernel
theorem dX5_clear_30 : decode cX5_clear 30 = .ok (.aload_n 0, 1) := by decide +kernel
theorem dX5_clear_31 : decode cX5_clear 31 = .ok (.iconst 0, 1) := by decide +kernel
theorem dX5_clear_32 : decode cX5_clear 32 = .ok (.putfield 60, 3) := by decide +kernel
theorem dX5_clear_35 : decode cX5_clear 35 = .ok (.return_, 1) := by decide +kernel
theorem dX5_hasVariant_0 : decode cX5_hasVariant 0 = .ok (.aload_n 0, 1) := by decide +kernel
theorem dX5_hasVariant_1 : decode cX5_hasVariant 1 = .ok (.getfield 40, 3) := by decide +kernel
theorem dX5_hasVariant_4 : decode cX5_hasVariant 4 = .ok (.ifCond .eq 19, 3) := by decide +kernel
theorem dX5_hasVariant_7 : decode cX5_hasVariant 7 = .ok (.iload_n 1, 1) := by decide +kernel
theorem dX5_hasVariant_8 : decode cX5_hasVariant 8 = .ok (.ifCond .lt 15, 3) := by decide +kernel
theorem dX5_hasVariant_11 : decode cX5_hasVariant 11 = .ok (.iload_n 1, 1) := by decide +kernel
theorem dX5_hasVariant_12 : decode cX5_hasVariant 12 = .ok (.aload_n 0, 1) := by decide +kernel
theorem dX5_hasVariant_13 : decode cX5_hasVariant 13 = .ok (.getfield 48, 3) := by decide +kernel
theorem dX5_hasVariant_16 : decode cX5_hasVariant 16 = .ok (.if_icmp .ge 7, 3) := by decide +kernel
theorem dX5_hasVariant_19 : decode cX5_hasVariant 19 = .ok (.iconst 1, 1) := by decide +kernel
theorem dX5_hasVariant_20 : decode cX5_hasVariant 20 = .ok (.goto 4, 3) := by decide +kernel
theorem dX5_hasVariant_23 : decode cX5_hasVariant 23 = .ok (.iconst 0, 1) := by decide +kernel
theorem dX5_hasVariant_24 : decode cX5_hasVariant 24 = .ok (.ireturn, 1) := by decide +kernel
theorem dX5_patternOf_0 : decode cX5_patternOf 0 = .ok (.aload_n 0, 1) := by decide +kernel
theorem dX5_patternOf_1 : decode cX5_patternOf 1 = .ok (.getfield 33, 3) := by decide +kernel
theorem dX5_patternOf_4 : decode cX5_patternOf 4 = .ok (.iconst 0, 1) := by decide +kernel
theorem dX5_patternOf_5 : decode cX5_patternOf 5 = .ok (.iload_n 1, 1) := by decide +kernel
theorem dX5_patternOf_6 : decode cX5_patternOf 6 = .ok (.bipush 23, 2) := by decide +kernel
theorem dX5_patternOf_8 : decode cX5_patternOf 8 = .ok (.invokestatic 63, 3) := by decide +kernel
theorem dX5_patternOf_11 : decode cX5_patternOf 11 = .ok (.invokestatic 69, 3) := by decide +kernel
theorem dX5_patternOf_14 : decode cX5_patternOf 14 = .ok (.aaload, 1) := by decide +kernel
theorem dX5_patternOf_15 : decode cX5_patternOf 15 = .ok (.areturn, 1) := by decide +kernel
theorem dX5_ofVariant_0 : decode cX5_ofVariant 0 = .ok (.iload_n 1, 1) := by decide +kernel
theorem dX5_ofVariant_1 : decode cX5_ofVariant 1 = .ok (.ifCond .lt 24, 3) := by decide +kernel
theorem dX5_ofVariant_4 : decode cX5_ofVariant 4 = .ok (.iload_n 1, 1) := by decide +kernel
theorem dX5_ofVariant_5 : decode cX5_ofVariant 5 = .ok (.aload_n 0, 1) := by decide +kernel
theorem dX5_ofVariant_6 : decode cX5_ofVariant 6 = .ok (.getfield 48, 3) := by decide +kernel
theorem dX5_ofVariant_9 : decode cX5_ofVariant 9 = .ok (.if_icmp .ge 16, 3) := by decide +kernel
theorem dX5_ofVariant_12 : decode cX5_ofVariant 12 = .ok (.aload_n 0, 1) := by decide +kernel
theorem dX5_ofVariant_13 : decode cX5_ofVariant 13 = .ok (.getfield 28, 3) := by decide +kernel
theorem dX5_ofVariant_16 : decode cX5_ofVariant 16 = .ok (.iload_n 1, 1) := by decide +kernel
theorem dX5_ofVariant_17 : decode cX5_ofVariant 17 = .ok (.iconst 4, 1) := by decide +kernel
theorem dX5_ofVariant_18 : decode cX5_ofVariant 18 = .ok (.imul, 1) := by decide +kernel
theorem dX5_ofVariant_19 : decode cX5_ofVariant 19 = .ok (.iload_n 2, 1) := by decide +kernel
theorem dX5_ofVariant_20 : decode cX5_ofVariant 20 = .ok (.iadd, 1) := by decide +kernel
theorem dX5_ofVariant_21 : decode cX5_ofVariant 21 = .ok (.iaload, 1) := by decide +kernel
theorem dX5_ofVariant_22 : decode cX5_ofVariant 22 = .ok (.goto 4, 3) := by decide +kernel
theorem dX5_ofVariant_25 : decode cX5_ofVariant 25 = .ok (.iconst (-1), 1) := by decide +kernel
theorem dX5_ofVariant_26 : decode cX5_ofVariant 26 = .ok (.ireturn, 1) := by decide +kernel
theorem dX5_setVariant_0 : decode cX5_setVariant 0 = .ok (.iload_n 1, 1) := by decide +kernel
theorem dX5_setVariant_1 : decode cX5_setVariant 1 = .ok (.ifCond .lt 22, 3) := by decide +kernel
theorem dX5_setVariant_4 : decode cX5_setVariant 4 = .ok (.iload_n 1, 1) := by decide +kernel
theorem dX5_setVariant_5 : decode cX5_setVariant 5 = .ok (.aload_n 0, 1) := by decide +kernel
theorem dX5_setVariant_6 : decode cX5_setVariant 6 = .ok (.getfield 48, 3) := by decide +kernel
theorem dX5_setVariant_9 : decode cX5_setVariant 9 = .ok (.if_icmp .ge 14, 3) := by decide +kernel
theorem dX5_setVariant_12 : decode cX5_setVariant 12 = .ok (.aload_n 0, 1) := by decide +kernel
theorem dX5_setVariant_13 : decode cX5_setVariant 13 = .ok (.getfield 28, 3) := by decide +kernel
theorem dX5_setVariant_16 : decode cX5_setVariant 16 = .ok (.iload_n 1, 1) := by decide +kernel
theorem dX5_setVariant_17 : decode cX5_setVariant 17 = .ok (.iconst 4, 1) := by decide +kernel
theorem dX5_setVariant_18 : decode cX5_setVariant 18 = .ok (.imul, 1) := by decide +kernel
theorem dX5_setVariant_19 : decode cX5_setVariant 19 = .ok (.iload_n 2, 1) := by decide +kernel
theorem dX5_setVariant_20 : decode cX5_setVariant 20 = .ok (.iadd, 1) := by decide +kernel
theorem dX5_setVariant_21 : decode cX5_setVariant 21 = .ok (.iload_n 3, 1) := by decide +kernel
theorem dX5_setVariant_22 : decode cX5_setVariant 22 = .ok (.iastore, 1) := by decide +kernel
theorem dX5_setVariant_23 : decode cX5_setVariant 23 = .ok (.return_, 1) := by decide +kernel
theorem dX5_find_0 : decode cX5_find 0 = .ok (.iconst 0, 1) := by decide +kernel
theorem dX5_find_1 : decode cX5_find 1 = .ok (.istore_n 2, 1) := by decide +kernel
theorem dX5_find_2 : decode cX5_find 2 = .ok (.iload_n 2, 1) := by decide +kernel
theorem dX5_find_3 : decode cX5_find 3 = .ok (.aload_n 0, 1) := by decide +kernel
theorem dX5_find_4 : decode cX5_find 4 = .ok (.getfield 48, 3) := by decide +kernel
theorem dX5_find_7 : decode cX5_find 7 = .ok (.if_icmp .ge 30, 3) := by decide +kernel
theorem dX5_find_10 : decode cX5_find 10 = .ok (.iload_n 2, 1) := by decide +kernel
theorem dX5_find_11 : decode cX5_find 11 = .ok (.bipush 24, 2) := by decide +kernel
theorem dX5_find_13 : decode cX5_find 13 = .ok (.if_icmp .ge 24, 3) := by decide +kernel
theorem dX5_find_16 : decode cX5_find 16 = .ok (.aload_n 0, 1) := by decide +kernel
theorem dX5_find_17 : decode cX5_find 17 = .ok (.getfield 33, 3) := by decide +kernel
theorem dX5_find_20 : decode cX5_find 20 = .ok (.iload_n 2, 1) := by decide +kernel
theorem dX5_find_21 : decode cX5_find 21 = .ok (.aaload, 1) := by decide +kernel
theorem dX5_find_22 : decode cX5_find 22 = .ok (.aload_n 1, 1) := by decide +kernel
theorem dX5_find_23 : decode cX5_find 23 = .ok (.invokevirtual 72, 3) := by decide +kernel
theorem dX5_find_26 : decode cX5_find 26 = .ok (.ifCond .eq 5, 3) := by decide +kernel
theorem dX5_find_29 : decode cX5_find 29 = .ok (.iload_n 2, 1) := by decide +kernel
theorem dX5_find_30 : decode cX5_find 30 = .ok (.ireturn, 1) := by decide +kernel
theorem dX5_find_31 : decode cX5_find 31 = .ok (.iinc 2 1, 3) := by decide +kernel
theorem dX5_find_34 : decode cX5_find 34 = .ok (.goto (-32), 3) := by decide +kernel
theorem dX5_find_37 : decode cX5_find 37 = .ok (.iconst (-1), 1) := by decide +kernel
theorem dX5_find_38 : decode cX5_find 38 = .ok (.ireturn, 1) := by decide +kernel
theorem dX5_variantsOf_0 : decode cX5_variantsOf 0 = .ok (.iconst 0, 1) := by decide +kernel
theorem dX5_variantsOf_1 : decode cX5_variantsOf 1 = .ok (.istore_n 2, 1) := by decide +kernel
theorem dX5_variantsOf_2 : decode cX5_variantsOf 2 = .ok (.iconst 0, 1) := by decide +kernel
theorem dX5_variantsOf_3 : decode cX5_variantsOf 3 = .ok (.istore_n 3, 1) := by decide +kernel
theorem dX5_variantsOf_4 : decode cX5_variantsOf 4 = .ok (.iload_n 3, 1) := by decide +kernel
theorem dX5_variantsOf_5 : decode cX5_variantsOf 5 = .ok (.aload_n 0, 1) := by decide +kernel
theorem dX5_variantsOf_6 : decode cX5_variantsOf 6 = .ok (.getfield 48, 3) := by decide +kernel
theorem dX5_variantsOf_9 : decode cX5_variantsOf 9 = .ok (.if_icmp .ge 31, 3) := by decide +kernel
theorem dX5_variantsOf_12 : decode cX5_variantsOf 12 = .ok (.iload_n 3, 1) := by decide +kernel
theorem dX5_variantsOf_13 : decode cX5_variantsOf 13 = .ok (.bipush 24, 2) := by decide +kernel
theorem dX5_variantsOf_15 : decode cX5_variantsOf 15 = .ok (.if_icmp .ge 25, 3) := by decide +kernel
theorem dX5_variantsOf_18 : decode cX5_variantsOf 18 = .ok (.aload_n 0, 1) := by decide +kernel
theorem dX5_variantsOf_19 : decode cX5_variantsOf 19 = .ok (.getfield 33, 3) := by decide +kernel
theorem dX5_variantsOf_22 : decode cX5_variantsOf 22 = .ok (.iload_n 3, 1) := by decide +kernel
theorem dX5_variantsOf_23 : decode cX5_variantsOf 23 = .ok (.aaload, 1) := by decide +kernel
theorem dX5_variantsOf_24 : decode cX5_variantsOf 24 = .ok (.getfield 76, 3) := by decide +kernel
theorem dX5_variantsOf_27 : decode cX5_variantsOf 27 = .ok (.iload_n 1, 1) := by decide +kernel
theorem dX5_variantsOf_28 : decode cX5_variantsOf 28 = .ok (.if_icmp .ne 6, 3) := by decide +kernel
theorem dX5_variantsOf_31 : decode cX5_variantsOf 31 = .ok (.iinc 2 1, 3) := by decide +kernel
theorem dX5_variantsOf_34 : decode cX5_variantsOf 34 = .ok (.iinc 3 1, 3) := by decide +kernel
theorem dX5_variantsOf_37 : decode cX5_variantsOf 37 = .ok (.goto (-33), 3) := by decide +kernel
theorem dX5_variantsOf_40 : decode cX5_variantsOf 40 = .ok (.iload_n 2, 1) := by decide +kernel
theorem dX5_variantsOf_41 : decode cX5_variantsOf 41 = .ok (.ireturn, 1) := by decide +kernel
theorem dX5_addVariant_0 : decode cX5_addVariant 0 = .ok (.aload_n 0, 1) := by decide +kernel
theorem dX5_addVariant_1 : decode cX5_addVariant 1 = .ok (.getfield 48, 3) := by decide +kernel
theorem dX5_addVariant_4 : decode cX5_addVariant 4 = .ok (.bipush 24, 2) := by decide +kernel
theorem dX5_addVariant_6 : decode cX5_addVariant 6 = .ok (.if_icmp .lt 5, 3) := by decide +kernel
theorem dX5_addVariant_9 : decode cX5_addVariant 9 = .ok (.iconst (-1), 1) := by decide +kernel
theorem dX5_addVariant_10 : decode cX5_addVariant 10 = .ok (.ireturn, 1) := by decide +kernel
theorem dX5_addVariant_11 : decode cX5_addVariant 11 = .ok (.aload_n 0, 1) := by decide +kernel
theorem dX5_addVariant_12 : decode cX5_addVariant 12 = .ok (.getfield 48, 3) := by decide +kernel
theorem dX5_addVariant_15 : decode cX5_addVariant 15 = .ok (.istore_n 3, 1) := by decide +kernel
theorem dX5_addVariant_16 : decode cX5_addVariant 16 = .ok (.aload_n 0, 1) := by decide +kernel
theorem dX5_addVariant_17 : decode cX5_addVariant 17 = .ok (.dup, 1) := by decide +kernel
theorem dX5_addVariant_18 : decode cX5_addVariant 18 = .ok (.getfield 48, 3) := by decide +kernel
theorem dX5_addVariant_21 : decode cX5_addVariant 21 = .ok (.iconst 1, 1) := by decide +kernel
theorem dX5_addVariant_22 : decode cX5_addVariant 22 = .ok (.iadd, 1) := by decide +kernel
theorem dX5_addVariant_23 : decode cX5_addVariant 23 = .ok (.putfield 48, 3) := by decide +kernel
theorem dX5_addVariant_26 : decode cX5_addVariant 26 = .ok (.aload_n 0, 1) := by decide +kernel
theorem dX5_addVariant_27 : decode cX5_addVariant 27 = .ok (.getfield 33, 3) := by decide +kernel
theorem dX5_addVariant_30 : decode cX5_addVariant 30 = .ok (.iload_n 3, 1) := by decide +kernel
theorem dX5_addVariant_31 : decode cX5_addVariant 31 = .ok (.aaload, 1) := by decide +kernel
theorem dX5_addVariant_32 : decode cX5_addVariant 32 = .ok (.aload_n 1, 1) := by decide +kernel
theorem dX5_addVariant_33 : decode cX5_addVariant 33 = .ok (.invokevirtual 79, 3) := by decide +kernel
theorem dX5_addVariant_36 : decode cX5_addVariant 36 = .ok (.aload_n 0, 1) := by decide +kernel
theorem dX5_addVariant_37 : decode cX5_addVariant 37 = .ok (.iload_n 3, 1) := by decide +kernel
theorem dX5_addVariant_38 : decode cX5_addVariant 38 = .ok (.iconst 0, 1) := by decide +kernel
theorem dX5_addVariant_39 : decode cX5_addVariant 39 = .ok (.iload_n 2, 1) := by decide +kernel
theorem dX5_addVariant_40 : decode cX5_addVariant 40 = .ok (.invokevirtual 83, 3) := by decide +kernel
theorem dX5_addVariant_43 : decode cX5_addVariant 43 = .ok (.aload_n 0, 1) := by decide +kernel
theorem dX5_addVariant_44 : decode cX5_addVariant 44 = .ok (.iload_n 3, 1) := by decide +kernel
theorem dX5_addVariant_45 : decode cX5_addVariant 45 = .ok (.iconst 1, 1) := by decide +kernel
theorem dX5_addVariant_46 : decode cX5_addVariant 46 = .ok (.iconst 0, 1) := by decide +kernel
theorem dX5_addVariant_47 : decode cX5_addVariant 47 = .ok (.invokevirtual 83, 3) := by decide +kernel
theorem dX5_addVariant_50 : decode cX5_addVariant 50 = .ok (.aload_n 0, 1) := by decide +kernel
theorem dX5_addVariant_51 : decode cX5_addVariant 51 = .ok (.iload_n 3, 1) := by decide +kernel
theorem dX5_addVariant_52 : decode cX5_addVariant 52 = .ok (.iconst 2, 1) := by decide +kernel
theorem dX5_addVariant_53 : decode cX5_addVariant 53 = .ok (.aload_n 1, 1) := by decide +kernel
theorem dX5_addVariant_54 : decode cX5_addVariant 54 = .ok (.invokevirtual 87, 3) := by decide +kernel
theorem dX5_addVariant_57 : decode cX5_addVariant 57 = .ok (.invokevirtual 83, 3) := by decide +kernel
theorem dX5_addVariant_60 : decode cX5_addVariant 60 = .ok (.aload_n 0, 1) := by decide +kernel
theorem dX5_addVariant_61 : decode cX5_addVariant 61 = .ok (.iload_n 3, 1) := by decide +kernel
theorem dX5_addVariant_62 : decode cX5_addVariant 62 = .ok (.iconst 3, 1) := by decide +kernel
theorem dX5_addVariant_63 : decode cX5_addVariant 63 = .ok (.iconst (-1), 1) := by decide +kernel
theorem dX5_addVariant_64 : decode cX5_addVariant 64 = .ok (.invokevirtual 83, 3) := by decide +kernel
theorem dX5_addVariant_67 : decode cX5_addVariant 67 = .ok (.iload_n 3, 1) := by decide +kernel
theorem dX5_addVariant_68 : decode cX5_addVariant 68 = .ok (.ireturn, 1) := by decide +kernel
theorem dX5_addBlock_0 : decode cX5_addBlock 0 = .ok (.aload_n 0, 1) := by decide +kernel
theorem dX5_addBlock_1 : decode cX5_addBlock 1 = .ok (.getfield 60, 3) := by decide +kernel
theorem dX5_addBlock_4 : decode cX5_addBlock 4 = .ok (.sipush 672, 3) := by decide +kernel
theorem dX5_addBlock_7 : decode cX5_addBlock 7 = .ok (.if_icmp .lt 5, 3) := by decide +kernel
theorem dX5_addBlock_10 : decode cX5_addBlock 10 = .ok (.iconst (-1), 1) := by decide +kernel
theorem dX5_addBlock_11 : decode cX5_addBlock 11 = .ok (.ireturn, 1) := by decide +kernel
theorem dX5_addBlock_12 : decode cX5_addBlock 12 = .ok (.aload_n 0, 1) := by decide +kernel
theorem dX5_addBlock_13 : decode cX5_addBlock 13 = .ok (.getfield 19, 3) := by decide +kernel
theorem dX5_addBlock_16 : decode cX5_addBlock 16 = .ok (.aload_n 0, 1) := by decide +kernel
theorem dX5_addBlock_17 : decode cX5_addBlock 17 = .ok (.getfield 60, 3) := by decide +kernel
theorem dX5_addBlock_20 : decode cX5_addBlock 20 = .ok (.iconst (-1), 1) := by decide +kernel
theorem dX5_addBlock_21 : decode cX5_addBlock 21 = .ok (.iastore, 1) := by decide +kernel
theorem dX5_addBlock_22 : decode cX5_addBlock 22 = .ok (.aload_n 0, 1) := by decide +kernel
theorem dX5_addBlock_23 : decode cX5_addBlock 23 = .ok (.getfield 22, 3) := by decide +kernel
theorem dX5_addBlock_26 : decode cX5_addBlock 26 = .ok (.aload_n 0, 1) := by decide +kernel
theorem dX5_addBlock_27 : decode cX5_addBlock 27 = .ok (.getfield 60, 3) := by decide +kernel
theorem dX5_addBlock_30 : decode cX5_addBlock 30 = .ok (.iconst (-1), 1) := by decide +kernel
theorem dX5_addBlock_31 : decode cX5_addBlock 31 = .ok (.iastore, 1) := by decide +kernel
theorem dX5_addBlock_32 : decode cX5_addBlock 32 = .ok (.aload_n 0, 1) := by decide +kernel
theorem dX5_addBlock_33 : decode cX5_addBlock 33 = .ok (.getfield 25, 3) := by decide +kernel
theorem dX5_addBlock_36 : decode cX5_addBlock 36 = .ok (.aload_n 0, 1) := by decide +kernel
theorem dX5_addBlock_37 : decode cX5_addBlock 37 = .ok (.getfield 60, 3) := by decide +kernel
theorem dX5_addBlock_40 : decode cX5_addBlock 40 = .ok (.lconst 0, 1) := by decide +kernel
theorem dX5_addBlock_41 : decode cX5_addBlock 41 = .ok (.lastore, 1) := by decide +kernel
theorem dX5_addBlock_42 : decode cX5_addBlock 42 = .ok (.aload_n 0, 1) := by decide +kernel
theorem dX5_addBlock_43 : decode cX5_addBlock 43 = .ok (.dup, 1) := by decide +kernel
theorem dX5_addBlock_44 : decode cX5_addBlock 44 = .ok (.getfield 60, 3) := by decide +kernel
theorem dX5_addBlock_47 : decode cX5_addBlock 47 = .ok (.iconst 1, 1) := by decide +kernel
theorem dX5_addBlock_48 : decode cX5_addBlock 48 = .ok (.iadd, 1) := by decide +kernel
theorem dX5_addBlock_49 : decode cX5_addBlock 49 = .ok (.putfield 60, 3) := by decide +kernel
theorem dX5_addBlock_52 : decode cX5_addBlock 52 = .ok (.aload_n 0, 1) := by decide +kernel
theorem dX5_addBlock_53 : decode cX5_addBlock 53 = .ok (.getfield 60, 3) := by decide +kernel
theorem dX5_addBlock_56 : decode cX5_addBlock 56 = .ok (.iconst 1, 1) := by decide +kernel
theorem dX5_addBlock_57 : decode cX5_addBlock 57 = .ok (.isub, 1) := by decide +kernel
theorem dX5_addBlock_58 : decode cX5_addBlock 58 = .ok (.ireturn, 1) := by decide +kernel
theorem dX5_isBlock_0 : decode cX5_isBlock 0 = .ok (.iload_n 1, 1) := by decide +kernel
theorem dX5_isBlock_1 : decode cX5_isBlock 1 = .ok (.ifCond .lt 15, 3) := by decide +kernel
theorem dX5_isBlock_4 : decode cX5_isBlock 4 = .ok (.iload_n 1, 1) := by decide +kernel
theorem dX5_isBlock_5 : decode cX5_isBlock 5 = .ok (.aload_n 0, 1) := by decide +kernel
theorem dX5_isBlock_6 : decode cX5_isBlock 6 = .ok (.getfield 60, 3) := by decide +kernel
theorem dX5_isBlock_9 : decode cX5_isBlock 9 = .ok (.if_icmp .ge 7, 3) := by decide +kernel
theorem dX5_isBlock_12 : decode cX5_isBlock 12 = .ok (.iconst 1, 1) := by decide +kernel
theorem dX5_isBlock_13 : decode cX5_isBlock 13 = .ok (.goto 4, 3) := by decide +kernel
theorem dX5_isBlock_16 : decode cX5_isBlock 16 = .ok (.iconst 0, 1) := by decide +kernel
theorem dX5_isBlock_17 : decode cX5_isBlock 17 = .ok (.ireturn, 1) := by decide +kernel
theorem dX5_endBlock_0 : decode cX5_endBlock 0 = .ok (.aload_n 0, 1) := by decide +kernel
theorem dX5_endBlock_1 : decode cX5_endBlock 1 = .ok (.iload_n 1, 1) := by decide +kernel
theorem dX5_endBlock_2 : decode cX5_endBlock 2 = .ok (.invokevirtual 93, 3) := by decide +kernel
theorem dX5_endBlock_5 : decode cX5_endBlock 5 = .ok (.ifCond .eq 10, 3) := by decide +kernel
theorem dX5_endBlock_8 : decode cX5_endBlock 8 = .ok (.aload_n 0, 1) := by decide +kernel
theorem dX5_endBlock_9 : decode cX5_endBlock 9 = .ok (.getfield 25, 3) := by decide +kernel
theorem dX5_endBlock_12 : decode cX5_endBlock 12 = .ok (.iload_n 1, 1) := by decide +kernel
theorem dX5_endBlock_13 : decode cX5_endBlock 13 = .ok (.lload_n 2, 1) := by decide +kernel
theorem dX5_endBlock_14 : decode cX5_endBlock 14 = .ok (.lastore, 1) := by decide +kernel
theorem dX5_endBlock_15 : decode cX5_endBlock 15 = .ok (.return_, 1) := by decide +kernel
theorem dX5_firstOf_0 : decode cX5_firstOf 0 = .ok (.aload_n 0, 1) := by decide +kernel
theorem dX5_firstOf_1 : decode cX5_firstOf 1 = .ok (.iload_n 1, 1) := by decide +kernel
theorem dX5_firstOf_2 : decode cX5_firstOf 2 = .ok (.invokevirtual 93, 3) := by decide +kernel
