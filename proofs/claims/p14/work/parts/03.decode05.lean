theorem dX10_workCall_54 : decode cX10_workCall 54 = .ok (.aload_n 0, 1) := by decide +kernel
theorem dX10_workCall_55 : decode cX10_workCall 55 = .ok (.getfield 11, 3) := by decide +kernel
theorem dX10_workCall_58 : decode cX10_workCall 58 = .ok (.if_icmp .lt 5, 3) := by decide +kernel
theorem dX10_workCall_61 : decode cX10_workCall 61 = .ok (.iconst 0, 1) := by decide +kernel
theorem dX10_workCall_62 : decode cX10_workCall 62 = .ok (.ireturn, 1) := by decide +kernel
theorem dX10_workCall_63 : decode cX10_workCall 63 = .ok (.aload_n 0, 1) := by decide +kernel
theorem dX10_workCall_64 : decode cX10_workCall 64 = .ok (.getfield 25, 3) := by decide +kernel
theorem dX10_workCall_67 : decode cX10_workCall 67 = .ok (.getfield 301, 3) := by decide +kernel
theorem dX10_workCall_70 : decode cX10_workCall 70 = .ok (.sipush 200, 3) := by decide +kernel
theorem dX10_workCall_73 : decode cX10_workCall 73 = .ok (.if_icmp .lt 11, 3) := by decide +kernel
theorem dX10_workCall_76 : decode cX10_workCall 76 = .ok (.aload_n 0, 1) := by decide +kernel
theorem dX10_workCall_77 : decode cX10_workCall 77 = .ok (.bipush (-3), 2) := by decide +kernel
theorem dX10_workCall_79 : decode cX10_workCall 79 = .ok (.invokevirtual 227, 3) := by decide +kernel
theorem dX10_workCall_82 : decode cX10_workCall 82 = .ok (.iconst 1, 1) := by decide +kernel
theorem dX10_workCall_83 : decode cX10_workCall 83 = .ok (.ireturn, 1) := by decide +kernel
theorem dX10_workCall_84 : decode cX10_workCall 84 = .ok (.aload_n 0, 1) := by decide +kernel
theorem dX10_workCall_85 : decode cX10_workCall 85 = .ok (.getfield 25, 3) := by decide +kernel
theorem dX10_workCall_88 : decode cX10_workCall 88 = .ok (.dup, 1) := by decide +kernel
theorem dX10_workCall_89 : decode cX10_workCall 89 = .ok (.getfield 301, 3) := by decide +kernel
theorem dX10_workCall_92 : decode cX10_workCall 92 = .ok (.iconst 1, 1) := by decide +kernel
theorem dX10_workCall_93 : decode cX10_workCall 93 = .ok (.iadd, 1) := by decide +kernel
theorem dX10_workCall_94 : decode cX10_workCall 94 = .ok (.putfield 301, 3) := by decide +kernel
theorem dX10_workCall_97 : decode cX10_workCall 97 = .ok (.aload_n 0, 1) := by decide +kernel
theorem dX10_workCall_98 : decode cX10_workCall 98 = .ok (.getfield 21, 3) := by decide +kernel
theorem dX10_workCall_101 : decode cX10_workCall 101 = .ok (.iload_n 2, 1) := by decide +kernel
theorem dX10_workCall_102 : decode cX10_workCall 102 = .ok (.aload_n 0, 1) := by decide +kernel
theorem dX10_workCall_103 : decode cX10_workCall 103 = .ok (.getfield 73, 3) := by decide +kernel
theorem dX10_workCall_106 : decode cX10_workCall 106 = .ok (.invokevirtual 304, 3) := by decide +kernel
theorem dX10_workCall_109 : decode cX10_workCall 109 = .ok (.aload_n 0, 1) := by decide +kernel
theorem dX10_workCall_110 : decode cX10_workCall 110 = .ok (.iload_n 3, 1) := by decide +kernel
theorem dX10_workCall_111 : decode cX10_workCall 111 = .ok (.putfield 73, 3) := by decide +kernel
theorem dX10_workCall_114 : decode cX10_workCall 114 = .ok (.iconst 1, 1) := by decide +kernel
theorem dX10_workCall_115 : decode cX10_workCall 115 = .ok (.ireturn, 1) := by decide +kernel
theorem dX10_shapeCall_0 : decode cX10_shapeCall 0 = .ok (.aload_n 0, 1) := by decide +kernel
theorem dX10_shapeCall_1 : decode cX10_shapeCall 1 = .ok (.getfield 46, 3) := by decide +kernel
theorem dX10_shapeCall_4 : decode cX10_shapeCall 4 = .ok (.iload_n 1, 1) := by decide +kernel
theorem dX10_shapeCall_5 : decode cX10_shapeCall 5 = .ok (.invokevirtual 307, 3) := by decide +kernel
theorem dX10_shapeCall_8 : decode cX10_shapeCall 8 = .ok (.iload_n 2, 1) := by decide +kernel
theorem dX10_shapeCall_9 : decode cX10_shapeCall 9 = .ok (.iconst 1, 1) := by decide +kernel
theorem dX10_shapeCall_10 : decode cX10_shapeCall 10 = .ok (.isub, 1) := by decide +kernel
theorem dX10_shapeCall_11 : decode cX10_shapeCall 11 = .ok (.istore_n 3, 1) := by decide +kernel
theorem dX10_shapeCall_12 : decode cX10_shapeCall 12 = .ok (.iload_n 3, 1) := by decide +kernel
theorem dX10_shapeCall_13 : decode cX10_shapeCall 13 = .ok (.ifCond .lt 28, 3) := by decide +kernel
theorem dX10_shapeCall_16 : decode cX10_shapeCall 16 = .ok (.aload_n 0, 1) := by decide +kernel
theorem dX10_shapeCall_17 : decode cX10_shapeCall 17 = .ok (.getfield 21, 3) := by decide +kernel
theorem dX10_shapeCall_20 : decode cX10_shapeCall 20 = .ok (.aload_n 0, 1) := by decide +kernel
theorem dX10_shapeCall_21 : decode cX10_shapeCall 21 = .ok (.getfield 21, 3) := by decide +kernel
theorem dX10_shapeCall_24 : decode cX10_shapeCall 24 = .ok (.iload_n 3, 1) := by decide +kernel
theorem dX10_shapeCall_25 : decode cX10_shapeCall 25 = .ok (.invokevirtual 184, 3) := by decide +kernel
theorem dX10_shapeCall_28 : decode cX10_shapeCall 28 = .ok (.aload_n 0, 1) := by decide +kernel
theorem dX10_shapeCall_29 : decode cX10_shapeCall 29 = .ok (.getfield 46, 3) := by decide +kernel
theorem dX10_shapeCall_32 : decode cX10_shapeCall 32 = .ok (.invokevirtual 310, 3) := by decide +kernel
theorem dX10_shapeCall_35 : decode cX10_shapeCall 35 = .ok (.iinc 3 (-1), 3) := by decide +kernel
theorem dX10_shapeCall_38 : decode cX10_shapeCall 38 = .ok (.goto (-26), 3) := by decide +kernel
theorem dX10_shapeCall_41 : decode cX10_shapeCall 41 = .ok (.aload_n 0, 1) := by decide +kernel
theorem dX10_shapeCall_42 : decode cX10_shapeCall 42 = .ok (.getfield 21, 3) := by decide +kernel
theorem dX10_shapeCall_45 : decode cX10_shapeCall 45 = .ok (.iload_n 2, 1) := by decide +kernel
theorem dX10_shapeCall_46 : decode cX10_shapeCall 46 = .ok (.invokevirtual 295, 3) := by decide +kernel
theorem dX10_shapeCall_49 : decode cX10_shapeCall 49 = .ok (.aload_n 0, 1) := by decide +kernel
theorem dX10_shapeCall_50 : decode cX10_shapeCall 50 = .ok (.getfield 92, 3) := by decide +kernel
theorem dX10_shapeCall_53 : decode cX10_shapeCall 53 = .ok (.istore_n 3, 1) := by decide +kernel
theorem dX10_shapeCall_54 : decode cX10_shapeCall 54 = .ok (.iconst 0, 1) := by decide +kernel
theorem dX10_shapeCall_55 : decode cX10_shapeCall 55 = .ok (.istore 4, 2) := by decide +kernel
theorem dX10_shapeCall_57 : decode cX10_shapeCall 57 = .ok (.iload 4, 2) := by decide +kernel
theorem dX10_shapeCall_59 : decode cX10_shapeCall 59 = .ok (.bipush 24, 2) := by decide +kernel
theorem dX10_shapeCall_61 : decode cX10_shapeCall 61 = .ok (.if_icmp .ge 72, 3) := by decide +kernel
theorem dX10_shapeCall_64 : decode cX10_shapeCall 64 = .ok (.iload_n 3, 1) := by decide +kernel
theorem dX10_shapeCall_65 : decode cX10_shapeCall 65 = .ok (.iconst (-1), 1) := by decide +kernel
theorem dX10_shapeCall_66 : decode cX10_shapeCall 66 = .ok (.if_icmp .eq 67, 3) := by decide +kernel
theorem dX10_shapeCall_69 : decode cX10_shapeCall 69 = .ok (.aload_n 0, 1) := by decide +kernel
theorem dX10_shapeCall_70 : decode cX10_shapeCall 70 = .ok (.getfield 25, 3) := by decide +kernel
theorem dX10_shapeCall_73 : decode cX10_shapeCall 73 = .ok (.iload_n 3, 1) := by decide +kernel
theorem dX10_shapeCall_74 : decode cX10_shapeCall 74 = .ok (.invokevirtual 100, 3) := by decide +kernel
theorem dX10_shapeCall_77 : decode cX10_shapeCall 77 = .ok (.astore 5, 2) := by decide +kernel
theorem dX10_shapeCall_79 : decode cX10_shapeCall 79 = .ok (.aload 5, 2) := by decide +kernel
theorem dX10_shapeCall_81 : decode cX10_shapeCall 81 = .ok (.getfield 76, 3) := by decide +kernel
theorem dX10_shapeCall_84 : decode cX10_shapeCall 84 = .ok (.iload_n 1, 1) := by decide +kernel
theorem dX10_shapeCall_85 : decode cX10_shapeCall 85 = .ok (.if_icmp .ne 32, 3) := by decide +kernel
theorem dX10_shapeCall_88 : decode cX10_shapeCall 88 = .ok (.aload_n 0, 1) := by decide +kernel
theorem dX10_shapeCall_89 : decode cX10_shapeCall 89 = .ok (.getfield 25, 3) := by decide +kernel
theorem dX10_shapeCall_92 : decode cX10_shapeCall 92 = .ok (.dup, 1) := by decide +kernel
theorem dX10_shapeCall_93 : decode cX10_shapeCall 93 = .ok (.getfield 314, 3) := by decide +kernel
theorem dX10_shapeCall_96 : decode cX10_shapeCall 96 = .ok (.aload_n 0, 1) := by decide +kernel
theorem dX10_shapeCall_97 : decode cX10_shapeCall 97 = .ok (.getfield 46, 3) := by decide +kernel
theorem dX10_shapeCall_100 : decode cX10_shapeCall 100 = .ok (.aload 5, 2) := by decide +kernel
theorem dX10_shapeCall_102 : decode cX10_shapeCall 102 = .ok (.aload_n 0, 1) := by decide +kernel
theorem dX10_shapeCall_103 : decode cX10_shapeCall 103 = .ok (.getfield 50, 3) := by decide +kernel
theorem dX10_shapeCall_106 : decode cX10_shapeCall 106 = .ok (.invokevirtual 317, 3) := by decide +kernel
theorem dX10_shapeCall_109 : decode cX10_shapeCall 109 = .ok (.iadd, 1) := by decide +kernel
theorem dX10_shapeCall_110 : decode cX10_shapeCall 110 = .ok (.putfield 314, 3) := by decide +kernel
theorem dX10_shapeCall_113 : decode cX10_shapeCall 113 = .ok (.aload_n 0, 1) := by decide +kernel
theorem dX10_shapeCall_114 : decode cX10_shapeCall 114 = .ok (.invokevirtual 321, 3) := by decide +kernel
theorem dX10_shapeCall_117 : decode cX10_shapeCall 117 = .ok (.aload_n 0, 1) := by decide +kernel
theorem dX10_shapeCall_118 : decode cX10_shapeCall 118 = .ok (.getfield 25, 3) := by decide +kernel
theorem dX10_shapeCall_121 : decode cX10_shapeCall 121 = .ok (.iload_n 3, 1) := by decide +kernel
theorem dX10_shapeCall_122 : decode cX10_shapeCall 122 = .ok (.iconst 0, 1) := by decide +kernel
theorem dX10_shapeCall_123 : decode cX10_shapeCall 123 = .ok (.invokevirtual 324, 3) := by decide +kernel
theorem dX10_shapeCall_126 : decode cX10_shapeCall 126 = .ok (.istore_n 3, 1) := by decide +kernel
theorem dX10_shapeCall_127 : decode cX10_shapeCall 127 = .ok (.iinc 4 1, 3) := by decide +kernel
theorem dX10_shapeCall_130 : decode cX10_shapeCall 130 = .ok (.goto (-73), 3) := by decide +kernel
theorem dX10_shapeCall_133 : decode cX10_shapeCall 133 = .ok (.return_, 1) := by decide +kernel
theorem dX10_leaveCall_0 : decode cX10_leaveCall 0 = .ok (.aload_n 0, 1) := by decide +kernel
theorem dX10_leaveCall_1 : decode cX10_leaveCall 1 = .ok (.getfield 25, 3) := by decide +kernel
theorem dX10_leaveCall_4 : decode cX10_leaveCall 4 = .ok (.aload_n 0, 1) := by decide +kernel
theorem dX10_leaveCall_5 : decode cX10_leaveCall 5 = .ok (.getfield 46, 3) := by decide +kernel
theorem dX10_leaveCall_8 : decode cX10_leaveCall 8 = .ok (.invokevirtual 327, 3) := by decide +kernel
theorem dX10_leaveCall_11 : decode cX10_leaveCall 11 = .ok (.istore_n 2, 1) := by decide +kernel
theorem dX10_leaveCall_12 : decode cX10_leaveCall 12 = .ok (.iload_n 2, 1) := by decide +kernel
theorem dX10_leaveCall_13 : decode cX10_leaveCall 13 = .ok (.iconst (-1), 1) := by decide +kernel
theorem dX10_leaveCall_14 : decode cX10_leaveCall 14 = .ok (.if_icmp .ne 51, 3) := by decide +kernel
theorem dX10_leaveCall_17 : decode cX10_leaveCall 17 = .ok (.aload_n 0, 1) := by decide +kernel
theorem dX10_leaveCall_18 : decode cX10_leaveCall 18 = .ok (.iload_n 1, 1) := by decide +kernel
theorem dX10_leaveCall_19 : decode cX10_leaveCall 19 = .ok (.invokevirtual 331, 3) := by decide +kernel
theorem dX10_leaveCall_22 : decode cX10_leaveCall 22 = .ok (.ifCond .eq 43, 3) := by decide +kernel
theorem dX10_leaveCall_25 : decode cX10_leaveCall 25 = .ok (.aload_n 0, 1) := by decide +kernel
theorem dX10_leaveCall_26 : decode cX10_leaveCall 26 = .ok (.getfield 25, 3) := by decide +kernel
theorem dX10_leaveCall_29 : decode cX10_leaveCall 29 = .ok (.dup, 1) := by decide +kernel
theorem dX10_leaveCall_30 : decode cX10_leaveCall 30 = .ok (.getfield 335, 3) := by decide +kernel
theorem dX10_leaveCall_33 : decode cX10_leaveCall 33 = .ok (.iconst 1, 1) := by decide +kernel
theorem dX10_leaveCall_34 : decode cX10_leaveCall 34 = .ok (.iadd, 1) := by decide +kernel
theorem dX10_leaveCall_35 : decode cX10_leaveCall 35 = .ok (.putfield 335, 3) := by decide +kernel
theorem dX10_leaveCall_38 : decode cX10_leaveCall 38 = .ok (.aload_n 0, 1) := by decide +kernel
theorem dX10_leaveCall_39 : decode cX10_leaveCall 39 = .ok (.getfield 46, 3) := by decide +kernel
theorem dX10_leaveCall_42 : decode cX10_leaveCall 42 = .ok (.aload_n 0, 1) := by decide +kernel
theorem dX10_leaveCall_43 : decode cX10_leaveCall 43 = .ok (.getfield 50, 3) := by decide +kernel
theorem dX10_leaveCall_46 : decode cX10_leaveCall 46 = .ok (.invokevirtual 338, 3) := by decide +kernel
theorem dX10_leaveCall_49 : decode cX10_leaveCall 49 = .ok (.aload_n 0, 1) := by decide +kernel
theorem dX10_leaveCall_50 : decode cX10_leaveCall 50 = .ok (.invokevirtual 321, 3) := by decide +kernel
theorem dX10_leaveCall_53 : decode cX10_leaveCall 53 = .ok (.aload_n 0, 1) := by decide +kernel
theorem dX10_leaveCall_54 : decode cX10_leaveCall 54 = .ok (.getfield 25, 3) := by decide +kernel
theorem dX10_leaveCall_57 : decode cX10_leaveCall 57 = .ok (.aload_n 0, 1) := by decide +kernel
theorem dX10_leaveCall_58 : decode cX10_leaveCall 58 = .ok (.getfield 46, 3) := by decide +kernel
theorem dX10_leaveCall_61 : decode cX10_leaveCall 61 = .ok (.invokevirtual 327, 3) := by decide +kernel
theorem dX10_leaveCall_64 : decode cX10_leaveCall 64 = .ok (.istore_n 2, 1) := by decide +kernel
theorem dX10_leaveCall_65 : decode cX10_leaveCall 65 = .ok (.iload_n 2, 1) := by decide +kernel
theorem dX10_leaveCall_66 : decode cX10_leaveCall 66 = .ok (.iconst (-1), 1) := by decide +kernel
theorem dX10_leaveCall_67 : decode cX10_leaveCall 67 = .ok (.if_icmp .ne 19, 3) := by decide +kernel
theorem dX10_leaveCall_70 : decode cX10_leaveCall 70 = .ok (.aload_n 0, 1) := by decide +kernel
theorem dX10_leaveCall_71 : decode cX10_leaveCall 71 = .ok (.getfield 25, 3) := by decide +kernel
theorem dX10_leaveCall_74 : decode cX10_leaveCall 74 = .ok (.aload_n 0, 1) := by decide +kernel
theorem dX10_leaveCall_75 : decode cX10_leaveCall 75 = .ok (.getfield 46, 3) := by decide +kernel
theorem dX10_leaveCall_78 : decode cX10_leaveCall 78 = .ok (.aload_n 0, 1) := by decide +kernel
theorem dX10_leaveCall_79 : decode cX10_leaveCall 79 = .ok (.getfield 92, 3) := by decide +kernel
theorem dX10_leaveCall_82 : decode cX10_leaveCall 82 = .ok (.invokevirtual 85, 3) := by decide +kernel
theorem dX10_leaveCall_85 : decode cX10_leaveCall 85 = .ok (.istore_n 2, 1) := by decide +kernel
theorem dX10_leaveCall_86 : decode cX10_leaveCall 86 = .ok (.iload_n 2, 1) := by decide +kernel
theorem dX10_leaveCall_87 : decode cX10_leaveCall 87 = .ok (.iconst (-1), 1) := by decide +kernel
theorem dX10_leaveCall_88 : decode cX10_leaveCall 88 = .ok (.if_icmp .ne 10, 3) := by decide +kernel
theorem dX10_leaveCall_91 : decode cX10_leaveCall 91 = .ok (.aload_n 0, 1) := by decide +kernel
theorem dX10_leaveCall_92 : decode cX10_leaveCall 92 = .ok (.bipush (-4), 2) := by decide +kernel
theorem dX10_leaveCall_94 : decode cX10_leaveCall 94 = .ok (.invokevirtual 227, 3) := by decide +kernel
theorem dX10_leaveCall_97 : decode cX10_leaveCall 97 = .ok (.return_, 1) := by decide +kernel
theorem dX10_leaveCall_98 : decode cX10_leaveCall 98 = .ok (.aload_n 0, 1) := by decide +kernel
theorem dX10_leaveCall_99 : decode cX10_leaveCall 99 = .ok (.iload_n 2, 1) := by decide +kernel
theorem dX10_leaveCall_100 : decode cX10_leaveCall 100 = .ok (.invokevirtual 342, 3) := by decide +kernel
theorem dX10_leaveCall_103 : decode cX10_leaveCall 103 = .ok (.return_, 1) := by decide +kernel
theorem dX10_isTooMuch_0 : decode cX10_isTooMuch 0 = .ok (.aload_n 0, 1) := by decide +kernel
theorem dX10_isTooMuch_1 : decode cX10_isTooMuch 1 = .ok (.getfield 25, 3) := by decide +kernel
theorem dX10_isTooMuch_4 : decode cX10_isTooMuch 4 = .ok (.iload_n 1, 1) := by decide +kernel
theorem dX10_isTooMuch_5 : decode cX10_isTooMuch 5 = .ok (.invokevirtual 345, 3) := by decide +kernel
theorem dX10_isTooMuch_8 : decode cX10_isTooMuch 8 = .ok (.aload_n 0, 1) := by decide +kernel
theorem dX10_isTooMuch_9 : decode cX10_isTooMuch 9 = .ok (.getfield 15, 3) := by decide +kernel
theorem dX10_isTooMuch_12 : decode cX10_isTooMuch 12 = .ok (.if_icmp .ge 29, 3) := by decide +kernel
theorem dX10_isTooMuch_15 : decode cX10_isTooMuch 15 = .ok (.aload_n 0, 1) := by decide +kernel
theorem dX10_isTooMuch_16 : decode cX10_isTooMuch 16 = .ok (.getfield 25, 3) := by decide +kernel
theorem dX10_isTooMuch_19 : decode cX10_isTooMuch 19 = .ok (.getfield 286, 3) := by decide +kernel
theorem dX10_isTooMuch_22 : decode cX10_isTooMuch 22 = .ok (.aload_n 0, 1) := by decide +kernel
theorem dX10_isTooMuch_23 : decode cX10_isTooMuch 23 = .ok (.getfield 18, 3) := by decide +kernel
theorem dX10_isTooMuch_26 : decode cX10_isTooMuch 26 = .ok (.if_icmp .ge 15, 3) := by decide +kernel
theorem dX10_isTooMuch_29 : decode cX10_isTooMuch 29 = .ok (.aload_n 0, 1) := by decide +kernel
theorem dX10_isTooMuch_30 : decode cX10_isTooMuch 30 = .ok (.getfield 46, 3) := by decide +kernel
theorem dX10_isTooMuch_33 : decode cX10_isTooMuch 33 = .ok (.invokevirtual 348, 3) := by decide +kernel
theorem dX10_isTooMuch_36 : decode cX10_isTooMuch 36 = .ok (.bipush 8, 2) := by decide +kernel
theorem dX10_isTooMuch_38 : decode cX10_isTooMuch 38 = .ok (.if_icmp .le 7, 3) := by decide +kernel
theorem dX10_isTooMuch_41 : decode cX10_isTooMuch 41 = .ok (.iconst 1, 1) := by decide +kernel
theorem dX10_isTooMuch_42 : decode cX10_isTooMuch 42 = .ok (.goto 4, 3) := by decide +kernel
theorem dX10_isTooMuch_45 : decode cX10_isTooMuch 45 = .ok (.iconst 0, 1) := by decide +kernel
theorem dX10_isTooMuch_46 : decode cX10_isTooMuch 46 = .ok (.ireturn, 1) := by decide +kernel
theorem dX10_swapCalls_0 : decode cX10_swapCalls 0 = .ok (.aload_n 0, 1) := by decide +kernel
theorem dX10_swapCalls_1 : decode cX10_swapCalls 1 = .ok (.getfield 46, 3) := by decide +kernel
theorem dX10_swapCalls_4 : decode cX10_swapCalls 4 = .ok (.astore_n 1, 1) := by decide +kernel
theorem dX10_swapCalls_5 : decode cX10_swapCalls 5 = .ok (.aload_n 0, 1) := by decide +kernel
theorem dX10_swapCalls_6 : decode cX10_swapCalls 6 = .ok (.aload_n 0, 1) := by decide +kernel
theorem dX10_swapCalls_7 : decode cX10_swapCalls 7 = .ok (.getfield 50, 3) := by decide +kernel
theorem dX10_swapCalls_10 : decode cX10_swapCalls 10 = .ok (.putfield 46, 3) := by decide +kernel
theorem dX10_swapCalls_13 : decode cX10_swapCalls 13 = .ok (.aload_n 0, 1) := by decide +kernel
theorem dX10_swapCalls_14 : decode cX10_swapCalls 14 = .ok (.aload_n 1, 1) := by decide +kernel
theorem dX10_swapCalls_15 : decode cX10_swapCalls 15 = .ok (.putfield 50, 3) := by decide +kernel
theorem dX10_swapCalls_18 : decode cX10_swapCalls 18 = .ok (.return_, 1) := by decide +kernel
theorem dX10_leaveCallTo_0 : decode cX10_leaveCallTo 0 = .ok (.iconst 0, 1) := by decide +kernel
theorem dX10_leaveCallTo_1 : decode cX10_leaveCallTo 1 = .ok (.istore_n 2, 1) := by decide +kernel
theorem dX10_leaveCallTo_2 : decode cX10_leaveCallTo 2 = .ok (.iconst 0, 1) := by decide +kernel
theorem dX10_leaveCallTo_3 : decode cX10_leaveCallTo 3 = .ok (.istore_n 3, 1) := by decide +kernel
theorem dX10_leaveCallTo_4 : decode cX10_leaveCallTo 4 = .ok (.iload_n 3, 1) := by decide +kernel
theorem dX10_leaveCallTo_5 : decode cX10_leaveCallTo 5 = .ok (.aload_n 0, 1) := by decide +kernel
theorem dX10_leaveCallTo_6 : decode cX10_leaveCallTo 6 = .ok (.getfield 46, 3) := by decide +kernel
theorem dX10_leaveCallTo_9 : decode cX10_leaveCallTo 9 = .ok (.getfield 351, 3) := by decide +kernel
theorem dX10_leaveCallTo_12 : decode cX10_leaveCallTo 12 = .ok (.if_icmp .ge 57, 3) := by decide +kernel
theorem dX10_leaveCallTo_15 : decode cX10_leaveCallTo 15 = .ok (.iload_n 2, 1) := by decide +kernel
theorem dX10_leaveCallTo_16 : decode cX10_leaveCallTo 16 = .ok (.aload_n 0, 1) := by decide +kernel
theorem dX10_leaveCallTo_17 : decode cX10_leaveCallTo 17 = .ok (.getfield 58, 3) := by decide +kernel
theorem dX10_leaveCallTo_20 : decode cX10_leaveCallTo 20 = .ok (.arraylength, 1) := by decide +kernel
theorem dX10_leaveCallTo_21 : decode cX10_leaveCallTo 21 = .ok (.if_icmp .ge 48, 3) := by decide +kernel
theorem dX10_leaveCallTo_24 : decode cX10_leaveCallTo 24 = .ok (.aload_n 0, 1) := by decide +kernel
theorem dX10_leaveCallTo_25 : decode cX10_leaveCallTo 25 = .ok (.getfield 46, 3) := by decide +kernel
theorem dX10_leaveCallTo_28 : decode cX10_leaveCallTo 28 = .ok (.getfield 354, 3) := by decide +kernel
theorem dX10_leaveCallTo_31 : decode cX10_leaveCallTo 31 = .ok (.iload_n 3, 1) := by decide +kernel
theorem dX10_leaveCallTo_32 : decode cX10_leaveCallTo 32 = .ok (.laload, 1) := by decide +kernel
theorem dX10_leaveCallTo_33 : decode cX10_leaveCallTo 33 = .ok (.ldc2_w 357, 3) := by decide +kernel
theorem dX10_leaveCallTo_36 : decode cX10_leaveCallTo 36 = .ok (.lcmp, 1) := by decide +kernel
theorem dX10_leaveCallTo_37 : decode cX10_leaveCallTo 37 = .ok (.ifCond .ne 26, 3) := by decide +kernel
theorem dX10_leaveCallTo_40 : decode cX10_leaveCallTo 40 = .ok (.aload_n 0, 1) := by decide +kernel
theorem dX10_leaveCallTo_41 : decode cX10_leaveCallTo 41 = .ok (.getfield 58, 3) := by decide +kernel
theorem dX10_leaveCallTo_44 : decode cX10_leaveCallTo 44 = .ok (.iload_n 2, 1) := by decide +kernel
theorem dX10_leaveCallTo_45 : decode cX10_leaveCallTo 45 = .ok (.aload_n 0, 1) := by decide +kernel
theorem dX10_leaveCallTo_46 : decode cX10_leaveCallTo 46 = .ok (.aload_n 0, 1) := by decide +kernel
theorem dX10_leaveCallTo_47 : decode cX10_leaveCallTo 47 = .ok (.getfield 46, 3) := by decide +kernel
theorem dX10_leaveCallTo_50 : decode cX10_leaveCallTo 50 = .ok (.getfield 359, 3) := by decide +kernel
theorem dX10_leaveCallTo_53 : decode cX10_leaveCallTo 53 = .ok (.iload_n 3, 1) := by decide +kernel
theorem dX10_leaveCallTo_54 : decode cX10_leaveCallTo 54 = .ok (.laload, 1) := by decide +kernel
theorem dX10_leaveCallTo_55 : decode cX10_leaveCallTo 55 = .ok (.iconst 0, 1) := by decide +kernel
theorem dX10_leaveCallTo_56 : decode cX10_leaveCallTo 56 = .ok (.invokevirtual 139, 3) := by decide +kernel
theorem dX10_leaveCallTo_59 : decode cX10_leaveCallTo 59 = .ok (.lastore, 1) := by decide +kernel
theorem dX10_leaveCallTo_60 : decode cX10_leaveCallTo 60 = .ok (.iinc 2 1, 3) := by decide +kernel
theorem dX10_leaveCallTo_63 : decode cX10_leaveCallTo 63 = .ok (.iinc 3 1, 3) := by decide +kernel
theorem dX10_leaveCallTo_66 : decode cX10_leaveCallTo 66 = .ok (.goto (-62), 3) := by decide +kernel
theorem dX10_leaveCallTo_69 : decode cX10_leaveCallTo 69 = .ok (.aload_n 0, 1) := by decide +kernel
theorem dX10_leaveCallTo_70 : decode cX10_leaveCallTo 70 = .ok (.bipush 11, 2) := by decide +kernel
theorem dX10_leaveCallTo_72 : decode cX10_leaveCallTo 72 = .ok (.iload_n 1, 1) := by decide +kernel
theorem dX10_leaveCallTo_73 : decode cX10_leaveCallTo 73 = .ok (.lconst 0, 1) := by decide +kernel
theorem dX10_leaveCallTo_74 : decode cX10_leaveCallTo 74 = .ok (.lconst 0, 1) := by decide +kernel
theorem dX10_leaveCallTo_75 : decode cX10_leaveCallTo 75 = .ok (.invokevirtual 191, 3) := by decide +kernel
theorem dX10_leaveCallTo_78 : decode cX10_leaveCallTo 78 = .ok (.lstore_n 3, 1) := by decide +kernel
theorem dX10_leaveCallTo_79 : decode cX10_leaveCallTo 79 = .ok (.aload_n 0, 1) := by decide +kernel
theorem dX10_leaveCallTo_80 : decode cX10_leaveCallTo 80 = .ok (.getfield 70, 3) := by decide +kernel
theorem dX10_leaveCallTo_83 : decode cX10_leaveCallTo 83 = .ok (.ifCond .eq 4, 3) := by decide +kernel
theorem dX10_leaveCallTo_86 : decode cX10_leaveCallTo 86 = .ok (.return_, 1) := by decide +kernel
theorem dX10_leaveCallTo_87 : decode cX10_leaveCallTo 87 = .ok (.aload_n 0, 1) := by decide +kernel
theorem dX10_leaveCallTo_88 : decode cX10_leaveCallTo 88 = .ok (.getfield 25, 3) := by decide +kernel
theorem dX10_leaveCallTo_91 : decode cX10_leaveCallTo 91 = .ok (.getfield 286, 3) := by decide +kernel
theorem dX10_leaveCallTo_94 : decode cX10_leaveCallTo 94 = .ok (.iconst 1, 1) := by decide +kernel
theorem dX10_leaveCallTo_95 : decode cX10_leaveCallTo 95 = .ok (.isub, 1) := by decide +kernel
theorem dX10_leaveCallTo_96 : decode cX10_leaveCallTo 96 = .ok (.istore 5, 2) := by decide +kernel
theorem dX10_leaveCallTo_98 : decode cX10_leaveCallTo 98 = .ok (.aload_n 0, 1) := by decide +kernel
theorem dX10_leaveCallTo_99 : decode cX10_leaveCallTo 99 = .ok (.getfield 25, 3) := by decide +kernel
theorem dX10_leaveCallTo_102 : decode cX10_leaveCallTo 102 = .ok (.iload 5, 2) := by decide +kernel
theorem dX10_leaveCallTo_104 : decode cX10_leaveCallTo 104 = .ok (.bipush 7, 2) := by decide +kernel
theorem dX10_leaveCallTo_106 : decode cX10_leaveCallTo 106 = .ok (.iload_n 2, 1) := by decide +kernel
theorem dX10_leaveCallTo_107 : decode cX10_leaveCallTo 107 = .ok (.invokevirtual 289, 3) := by decide +kernel
theorem dX10_leaveCallTo_110 : decode cX10_leaveCallTo 110 = .ok (.iconst 0, 1) := by decide +kernel
theorem dX10_leaveCallTo_111 : decode cX10_leaveCallTo 111 = .ok (.istore 6, 2) := by decide +kernel
theorem dX10_leaveCallTo_113 : decode cX10_leaveCallTo 113 = .ok (.iload 6, 2) := by decide +kernel
theorem dX10_leaveCallTo_115 : decode cX10_leaveCallTo 115 = .ok (.iload_n 2, 1) := by decide +kernel
theorem dX10_leaveCallTo_116 : decode cX10_leaveCallTo 116 = .ok (.if_icmp .ge 29, 3) := by decide +kernel
theorem dX10_leaveCallTo_119 : decode cX10_leaveCallTo 119 = .ok (.aload_n 0, 1) := by decide +kernel
theorem dX10_leaveCallTo_120 : decode cX10_leaveCallTo 120 = .ok (.getfield 25, 3) := by decide +kernel
theorem dX10_leaveCallTo_123 : decode cX10_leaveCallTo 123 = .ok (.iload 5, 2) := by decide +kernel
theorem dX10_leaveCallTo_125 : decode cX10_leaveCallTo 125 = .ok (.iconst 2, 1) := by decide +kernel
theorem dX10_leaveCallTo_126 : decode cX10_leaveCallTo 126 = .ok (.iload 6, 2) := by decide +kernel
theorem dX10_leaveCallTo_128 : decode cX10_leaveCallTo 128 = .ok (.iadd, 1) := by decide +kernel
theorem dX10_leaveCallTo_129 : decode cX10_leaveCallTo 129 = .ok (.aload_n 0, 1) := by decide +kernel
theorem dX10_leaveCallTo_130 : decode cX10_leaveCallTo 130 = .ok (.getfield 58, 3) := by decide +kernel
theorem dX10_leaveCallTo_133 : decode cX10_leaveCallTo 133 = .ok (.iload 6, 2) := by decide +kernel
theorem dX10_leaveCallTo_135 : decode cX10_leaveCallTo 135 = .ok (.laload, 1) := by decide +kernel
theorem dX10_leaveCallTo_136 : decode cX10_leaveCallTo 136 = .ok (.invokevirtual 230, 3) := by decide +kernel
theorem dX10_leaveCallTo_139 : decode cX10_leaveCallTo 139 = .ok (.iinc 6 1, 3) := by decide +kernel
theorem dX10_leaveCallTo_142 : decode cX10_leaveCallTo 142 = .ok (.goto (-29), 3) := by decide +kernel
theorem dX10_leaveCallTo_145 : decode cX10_leaveCallTo 145 = .ok (.aload_n 0, 1) := by decide +kernel
theorem dX10_leaveCallTo_146 : decode cX10_leaveCallTo 146 = .ok (.getfield 25, 3) := by decide +kernel
theorem dX10_leaveCallTo_149 : decode cX10_leaveCallTo 149 = .ok (.iload_n 1, 1) := by decide +kernel
theorem dX10_leaveCallTo_150 : decode cX10_leaveCallTo 150 = .ok (.iconst 1, 1) := by decide +kernel
theorem dX10_leaveCallTo_151 : decode cX10_leaveCallTo 151 = .ok (.aload_n 0, 1) := by decide +kernel
theorem dX10_leaveCallTo_152 : decode cX10_leaveCallTo 152 = .ok (.getfield 25, 3) := by decide +kernel
theorem dX10_leaveCallTo_155 : decode cX10_leaveCallTo 155 = .ok (.iload_n 1, 1) := by decide +kernel
theorem dX10_leaveCallTo_156 : decode cX10_leaveCallTo 156 = .ok (.iconst 1, 1) := by decide +kernel
theorem dX10_leaveCallTo_157 : decode cX10_leaveCallTo 157 = .ok (.invokevirtual 324, 3) := by decide +kernel
theorem dX10_leaveCallTo_160 : decode cX10_leaveCallTo 160 = .ok (.iconst 1, 1) := by decide +kernel
theorem dX10_leaveCallTo_161 : decode cX10_leaveCallTo 161 = .ok (.iadd, 1) := by decide +kernel
theorem dX10_leaveCallTo_162 : decode cX10_leaveCallTo 162 = .ok (.invokevirtual 111, 3) := by decide +kernel
theorem dX10_leaveCallTo_165 : decode cX10_leaveCallTo 165 = .ok (.aload_n 0, 1) := by decide +kernel
theorem dX10_leaveCallTo_166 : decode cX10_leaveCallTo 166 = .ok (.getfield 21, 3) := by decide +kernel
theorem dX10_leaveCallTo_169 : decode cX10_leaveCallTo 169 = .ok (.lload_n 3, 1) := by decide +kernel
theorem dX10_leaveCallTo_170 : decode cX10_leaveCallTo 170 = .ok (.invokevirtual 155, 3) := by decide +kernel
theorem dX10_leaveCallTo_173 : decode cX10_leaveCallTo 173 = .ok (.return_, 1) := by decide +kernel
theorem dX11_init_0 : decode cX11_init 0 = .ok (.aload_n 0, 1) := by decide +kernel
theorem dX11_init_1 : decode cX11_init 1 = .ok (.invokespecial 1, 3) := by decide +kernel
theorem dX11_init_4 : decode cX11_init 4 = .ok (.aload_n 0, 1) := by decide +kernel
theorem dX11_init_5 : decode cX11_init 5 = .ok (.sipush 800, 3) := by decide +kernel
theorem dX11_init_8 : decode cX11_init 8 = .ok (.newarray .int, 2) := by decide +kernel
theorem dX11_init_10 : decode cX11_init 10 = .ok (.putfield 9, 3) := by decide +kernel
theorem dX11_init_13 : decode cX11_init 13 = .ok (.aload_n 0, 1) := by decide +kernel
theorem dX11_init_14 : decode cX11_init 14 = .ok (.iconst 0, 1) := by decide +kernel
theorem dX11_init_15 : decode cX11_init 15 = .ok (.putfield 13, 3) := by decide +kernel
theorem dX11_init_18 : decode cX11_init 18 = .ok (.aload_n 0, 1) := by decide +kernel
theorem dX11_init_19 : decode cX11_init 19 = .ok (.iconst (-1), 1) := by decide +kernel
theorem dX11_init_20 : decode cX11_init 20 = .ok (.putfield 17, 3) := by decide +kernel
theorem dX11_init_23 : decode cX11_init 23 = .ok (.aload_n 0, 1) := by decide +kernel
theorem dX11_init_24 : decode cX11_init 24 = .ok (.new 20, 3) := by decide +kernel
theorem dX11_init_27 : decode cX11_init 27 = .ok (.dup, 1) := by decide +kernel
theorem dX11_init_28 : decode cX11_init 28 = .ok (.invokespecial 22, 3) := by decide +kernel
theorem dX11_init_31 : decode cX11_init 31 = .ok (.putfield 23, 3) := by decide +kernel
theorem dX11_init_34 : decode cX11_init 34 = .ok (.aload_n 0, 1) := by decide +kernel
theorem dX11_init_35 : decode cX11_init 35 = .ok (.new 20, 3) := by decide +kernel
theorem dX11_init_38 : decode cX11_init 38 = .ok (.dup, 1) := by decide +kernel
theorem dX11_init_39 : decode cX11_init 39 = .ok (.invokespecial 22, 3) := by decide +kernel
theorem dX11_init_42 : decode cX11_init 42 = .ok (.putfield 27, 3) := by decide +kernel
theorem dX11_init_45 : decode cX11_init 45 = .ok (.aload_n 0, 1) := by decide +kernel
theorem dX11_init_46 : decode cX11_init 46 = .ok (.new 30, 3) := by decide +kernel
theorem dX11_init_49 : decode cX11_init 49 = .ok (.dup, 1) := by decide +kernel
theorem dX11_init_50 : decode cX11_init 50 = .ok (.aload_n 0, 1) := by decide +kernel
theorem dX11_init_51 : decode cX11_init 51 = .ok (.getfield 9, 3) := by decide +kernel
theorem dX11_init_54 : decode cX11_init 54 = .ok (.aload_n 0, 1) := by decide +kernel
theorem dX11_init_55 : decode cX11_init 55 = .ok (.getfield 27, 3) := by decide +kernel
theorem dX11_init_58 : decode cX11_init 58 = .ok (.invokespecial 32, 3) := by decide +kernel
theorem dX11_init_61 : decode cX11_init 61 = .ok (.putfield 35, 3) := by decide +kernel
theorem dX11_init_64 : decode cX11_init 64 = .ok (.aload_n 0, 1) := by decide +kernel
theorem dX11_init_65 : decode cX11_init 65 = .ok (.new 39, 3) := by decide +kernel
theorem dX11_init_68 : decode cX11_init 68 = .ok (.dup, 1) := by decide +kernel
theorem dX11_init_69 : decode cX11_init 69 = .ok (.bipush 30, 2) := by decide +kernel
theorem dX11_init_71 : decode cX11_init 71 = .ok (.invokespecial 41, 3) := by decide +kernel
theorem dX11_init_74 : decode cX11_init 74 = .ok (.putfield 44, 3) := by decide +kernel
theorem dX11_init_77 : decode cX11_init 77 = .ok (.aload_n 0, 1) := by decide +kernel
theorem dX11_init_78 : decode cX11_init 78 = .ok (.new 39, 3) := by decide +kernel
theorem dX11_init_81 : decode cX11_init 81 = .ok (.dup, 1) := by decide +kernel
theorem dX11_init_82 : decode cX11_init 82 = .ok (.bipush 30, 2) := by decide +kernel
theorem dX11_init_84 : decode cX11_init 84 = .ok (.invokespecial 41, 3) := by decide +kernel
theorem dX11_init_87 : decode cX11_init 87 = .ok (.putfield 48, 3) := by decide +kernel
theorem dX11_init_90 : decode cX11_init 90 = .ok (.aload_n 0, 1) := by decide +kernel
theorem dX11_init_91 : decode cX11_init 91 = .ok (.new 39, 3) := by decide +kernel
theorem dX11_init_94 : decode cX11_init 94 = .ok (.dup, 1) := by decide +kernel
theorem dX11_init_95 : decode cX11_init 95 = .ok (.bipush 30, 2) := by decide +kernel
theorem dX11_init_97 : decode cX11_init 97 = .ok (.invokespecial 41, 3) := by decide +kernel
theorem dX11_init_100 : decode cX11_init 100 = .ok (.putfield 51, 3) := by decide +kernel
theorem dX11_init_103 : decode cX11_init 103 = .ok (.aload_n 0, 1) := by decide +kernel
theorem dX11_init_104 : decode cX11_init 104 = .ok (.new 39, 3) := by decide +kernel
theorem dX11_init_107 : decode cX11_init 107 = .ok (.dup, 1) := by decide +kernel
theorem dX11_init_108 : decode cX11_init 108 = .ok (.bipush 30, 2) := by decide +kernel
theorem dX11_init_110 : decode cX11_init 110 = .ok (.invokespecial 41, 3) := by decide +kernel
theorem dX11_init_113 : decode cX11_init 113 = .ok (.putfield 54, 3) := by decide +kernel
theorem dX11_init_116 : decode cX11_init 116 = .ok (.aload_n 0, 1) := by decide +kernel
theorem dX11_init_117 : decode cX11_init 117 = .ok (.iconst 0, 1) := by decide +kernel
theorem dX11_init_118 : decode cX11_init 118 = .ok (.putfield 57, 3) := by decide +kernel
theorem dX11_init_121 : decode cX11_init 121 = .ok (.new 61, 3) := by decide +kernel
theorem dX11_init_124 : decode cX11_init 124 = .ok (.dup, 1) := by decide +kernel
theorem dX11_init_125 : decode cX11_init 125 = .ok (.invokespecial 63, 3) := by decide +kernel
theorem dX11_init_128 : decode cX11_init 128 = .ok (.astore_n 1, 1) := by decide +kernel
theorem dX11_init_129 : decode cX11_init 129 = .ok (.aload_n 0, 1) := by decide +kernel
theorem dX11_init_130 : decode cX11_init 130 = .ok (.new 64, 3) := by decide +kernel
theorem dX11_init_133 : decode cX11_init 133 = .ok (.dup, 1) := by decide +kernel
theorem dX11_init_134 : decode cX11_init 134 = .ok (.invokespecial 66, 3) := by decide +kernel
theorem dX11_init_137 : decode cX11_init 137 = .ok (.putfield 67, 3) := by decide +kernel
theorem dX11_init_140 : decode cX11_init 140 = .ok (.aload_n 0, 1) := by decide +kernel
theorem dX11_init_141 : decode cX11_init 141 = .ok (.new 71, 3) := by decide +kernel
theorem dX11_init_144 : decode cX11_init 144 = .ok (.dup, 1) := by decide +kernel
theorem dX11_init_145 : decode cX11_init 145 = .ok (.invokespecial 73, 3) := by decide +kernel
theorem dX11_init_148 : decode cX11_init 148 = .ok (.putfield 74, 3) := by decide +kernel
theorem dX11_init_151 : decode cX11_init 151 = .ok (.aload_n 0, 1) := by decide +kernel
theorem dX11_init_152 : decode cX11_init 152 = .ok (.new 78, 3) := by decide +kernel
theorem dX11_init_155 : decode cX11_init 155 = .ok (.dup, 1) := by decide +kernel
theorem dX11_init_156 : decode cX11_init 156 = .ok (.aload_n 1, 1) := by decide +kernel
theorem dX11_init_157 : decode cX11_init 157 = .ok (.aload_n 0, 1) := by decide +kernel
theorem dX11_init_158 : decode cX11_init 158 = .ok (.getfield 67, 3) := by decide +kernel
theorem dX11_init_161 : decode cX11_init 161 = .ok (.aload_n 0, 1) := by decide +kernel
theorem dX11_init_162 : decode cX11_init 162 = .ok (.getfield 23, 3) := by decide +kernel
theorem dX11_init_165 : decode cX11_init 165 = .ok (.invokespecial 80, 3) := by decide +kernel
theorem dX11_init_168 : decode cX11_init 168 = .ok (.putfield 83, 3) := by decide +kernel
theorem dX11_init_171 : decode cX11_init 171 = .ok (.aload_n 0, 1) := by decide +kernel
theorem dX11_init_172 : decode cX11_init 172 = .ok (.new 87, 3) := by decide +kernel
theorem dX11_init_175 : decode cX11_init 175 = .ok (.dup, 1) := by decide +kernel
theorem dX11_init_176 : decode cX11_init 176 = .ok (.aload_n 1, 1) := by decide +kernel
theorem dX11_init_177 : decode cX11_init 177 = .ok (.aload_n 0, 1) := by decide +kernel
theorem dX11_init_178 : decode cX11_init 178 = .ok (.getfield 23, 3) := by decide +kernel
theorem dX11_init_181 : decode cX11_init 181 = .ok (.aload_n 0, 1) := by decide +kernel
theorem dX11_init_182 : decode cX11_init 182 = .ok (.getfield 74, 3) := by decide +kernel
theorem dX11_init_185 : decode cX11_init 185 = .ok (.invokespecial 89, 3) := by decide +kernel
theorem dX11_init_188 : decode cX11_init 188 = .ok (.putfield 92, 3) := by decide +kernel
theorem dX11_init_191 : decode cX11_init 191 = .ok (.aload_n 0, 1) := by decide +kernel
theorem dX11_init_192 : decode cX11_init 192 = .ok (.new 96, 3) := by decide +kernel
theorem dX11_init_195 : decode cX11_init 195 = .ok (.dup, 1) := by decide +kernel
theorem dX11_init_196 : decode cX11_init 196 = .ok (.aload_n 1, 1) := by decide +kernel
theorem dX11_init_197 : decode cX11_init 197 = .ok (.aload_n 0, 1) := by decide +kernel
theorem dX11_init_198 : decode cX11_init 198 = .ok (.getfield 67, 3) := by decide +kernel
theorem dX11_init_201 : decode cX11_init 201 = .ok (.aload_n 0, 1) := by decide +kernel
theorem dX11_init_202 : decode cX11_init 202 = .ok (.getfield 74, 3) := by decide +kernel
theorem dX11_init_205 : decode cX11_init 205 = .ok (.invokespecial 98, 3) := by decide +kernel
theorem dX11_init_208 : decode cX11_init 208 = .ok (.putfield 101, 3) := by decide +kernel
theorem dX11_init_211 : decode cX11_init 211 = .ok (.aload_n 0, 1) := by decide +kernel
theorem dX11_init_212 : decode cX11_init 212 = .ok (.new 71, 3) := by decide +kernel
theorem dX11_init_215 : decode cX11_init 215 = .ok (.dup, 1) := by decide +kernel
theorem dX11_init_216 : decode cX11_init 216 = .ok (.invokespecial 73, 3) := by decide +kernel
theorem dX11_init_219 : decode cX11_init 219 = .ok (.putfield 105, 3) := by decide +kernel
theorem dX11_init_222 : decode cX11_init 222 = .ok (.aload_n 0, 1) := by decide +kernel
theorem dX11_init_223 : decode cX11_init 223 = .ok (.new 71, 3) := by decide +kernel
theorem dX11_init_226 : decode cX11_init 226 = .ok (.dup, 1) := by decide +kernel
theorem dX11_init_227 : decode cX11_init 227 = .ok (.invokespecial 73, 3) := by decide +kernel
theorem dX11_init_230 : decode cX11_init 230 = .ok (.putfield 108, 3) := by decide +kernel
theorem dX11_init_233 : decode cX11_init 233 = .ok (.aload_n 0, 1) := by decide +kernel
theorem dX11_init_234 : decode cX11_init 234 = .ok (.new 39, 3) := by decide +kernel
theorem dX11_init_237 : decode cX11_init 237 = .ok (.dup, 1) := by decide +kernel
theorem dX11_init_238 : decode cX11_init 238 = .ok (.bipush 40, 2) := by decide +kernel
theorem dX11_init_240 : decode cX11_init 240 = .ok (.invokespecial 41, 3) := by decide +kernel
theorem dX11_init_243 : decode cX11_init 243 = .ok (.putfield 111, 3) := by decide +kernel
theorem dX11_init_246 : decode cX11_init 246 = .ok (.aload_n 0, 1) := by decide +kernel
theorem dX11_init_247 : decode cX11_init 247 = .ok (.new 114, 3) := by decide +kernel
theorem dX11_init_250 : decode cX11_init 250 = .ok (.dup, 1) := by decide +kernel
theorem dX11_init_251 : decode cX11_init 251 = .ok (.invokespecial 116, 3) := by decide +kernel
theorem dX11_init_254 : decode cX11_init 254 = .ok (.putfield 117, 3) := by decide +kernel
theorem dX11_init_257 : decode cX11_init 257 = .ok (.return_, 1) := by decide +kernel
theorem dX11_feed_0 : decode cX11_feed 0 = .ok (.aload_n 0, 1) := by decide +kernel
theorem dX11_feed_1 : decode cX11_feed 1 = .ok (.getfield 13, 3) := by decide +kernel
theorem dX11_feed_4 : decode cX11_feed 4 = .ok (.bipush 20, 2) := by decide +kernel
theorem dX11_feed_6 : decode cX11_feed 6 = .ok (.iadd, 1) := by decide +kernel
theorem dX11_feed_7 : decode cX11_feed 7 = .ok (.sipush 800, 3) := by decide +kernel
theorem dX11_feed_10 : decode cX11_feed 10 = .ok (.if_icmp .le 5, 3) := by decide +kernel
theorem dX11_feed_13 : decode cX11_feed 13 = .ok (.iconst (-1), 1) := by decide +kernel
theorem dX11_feed_14 : decode cX11_feed 14 = .ok (.ireturn, 1) := by decide +kernel
theorem dX11_feed_15 : decode cX11_feed 15 = .ok (.aload_n 0, 1) := by decide +kernel
theorem dX11_feed_16 : decode cX11_feed 16 = .ok (.iload_n 1, 1) := by decide +kernel
theorem dX11_feed_17 : decode cX11_feed 17 = .ok (.invokevirtual 121, 3) := by decide +kernel
theorem dX11_feed_20 : decode cX11_feed 20 = .ok (.aload_n 0, 1) := by decide +kernel
theorem dX11_feed_21 : decode cX11_feed 21 = .ok (.iload_n 2, 1) := by decide +kernel
theorem dX11_feed_22 : decode cX11_feed 22 = .ok (.invokevirtual 121, 3) := by decide +kernel
theorem dX11_feed_25 : decode cX11_feed 25 = .ok (.aload_n 0, 1) := by decide +kernel
theorem dX11_feed_26 : decode cX11_feed 26 = .ok (.iload_n 3, 1) := by decide +kernel
theorem dX11_feed_27 : decode cX11_feed 27 = .ok (.invokevirtual 121, 3) := by decide +kernel
theorem dX11_feed_30 : decode cX11_feed 30 = .ok (.aload_n 0, 1) := by decide +kernel
theorem dX11_feed_31 : decode cX11_feed 31 = .ok (.iload 4, 2) := by decide +kernel
theorem dX11_feed_33 : decode cX11_feed 33 = .ok (.invokevirtual 121, 3) := by decide +kernel
theorem dX11_feed_36 : decode cX11_feed 36 = .ok (.aload_n 0, 1) := by decide +kernel
theorem dX11_feed_37 : decode cX11_feed 37 = .ok (.iload 5, 2) := by decide +kernel
theorem dX11_feed_39 : decode cX11_feed 39 = .ok (.invokevirtual 121, 3) := by decide +kernel
theorem dX11_feed_42 : decode cX11_feed 42 = .ok (.aload_n 0, 1) := by decide +kernel
theorem dX11_feed_43 : decode cX11_feed 43 = .ok (.getfield 13, 3) := by decide +kernel
theorem dX11_feed_46 : decode cX11_feed 46 = .ok (.ireturn, 1) := by decide +kernel
theorem dX11_feedFour_0 : decode cX11_feedFour 0 = .ok (.bipush 24, 2) := by decide +kernel
theorem dX11_feedFour_2 : decode cX11_feedFour 2 = .ok (.istore_n 2, 1) := by decide +kernel
theorem dX11_feedFour_3 : decode cX11_feedFour 3 = .ok (.iload_n 2, 1) := by decide +kernel
theorem dX11_feedFour_4 : decode cX11_feedFour 4 = .ok (.ifCond .lt 45, 3) := by decide +kernel
theorem dX11_feedFour_7 : decode cX11_feedFour 7 = .ok (.aload_n 0, 1) := by decide +kernel
theorem dX11_feedFour_8 : decode cX11_feedFour 8 = .ok (.getfield 13, 3) := by decide +kernel
theorem dX11_feedFour_11 : decode cX11_feedFour 11 = .ok (.sipush 800, 3) := by decide +kernel
theorem dX11_feedFour_14 : decode cX11_feedFour 14 = .ok (.if_icmp .ge 35, 3) := by decide +kernel
theorem dX11_feedFour_17 : decode cX11_feedFour 17 = .ok (.aload_n 0, 1) := by decide +kernel
theorem dX11_feedFour_18 : decode cX11_feedFour 18 = .ok (.getfield 9, 3) := by decide +kernel
theorem dX11_feedFour_21 : decode cX11_feedFour 21 = .ok (.aload_n 0, 1) := by decide +kernel
theorem dX11_feedFour_22 : decode cX11_feedFour 22 = .ok (.getfield 13, 3) := by decide +kernel
theorem dX11_feedFour_25 : decode cX11_feedFour 25 = .ok (.iload_n 1, 1) := by decide +kernel
theorem dX11_feedFour_26 : decode cX11_feedFour 26 = .ok (.iload_n 2, 1) := by decide +kernel
theorem dX11_feedFour_27 : decode cX11_feedFour 27 = .ok (.iushr, 1) := by decide +kernel
theorem dX11_feedFour_28 : decode cX11_feedFour 28 = .ok (.sipush 255, 3) := by decide +kernel
theorem dX11_feedFour_31 : decode cX11_feedFour 31 = .ok (.iand, 1) := by decide +kernel
theorem dX11_feedFour_32 : decode cX11_feedFour 32 = .ok (.iastore, 1) := by decide +kernel
theorem dX11_feedFour_33 : decode cX11_feedFour 33 = .ok (.aload_n 0, 1) := by decide +kernel
theorem dX11_feedFour_34 : decode cX11_feedFour 34 = .ok (.dup, 1) := by decide +kernel
theorem dX11_feedFour_35 : decode cX11_feedFour 35 = .ok (.getfield 13, 3) := by decide +kernel
theorem dX11_feedFour_38 : decode cX11_feedFour 38 = .ok (.iconst 1, 1) := by decide +kernel
theorem dX11_feedFour_39 : decode cX11_feedFour 39 = .ok (.iadd, 1) := by decide +kernel
theorem dX11_feedFour_40 : decode cX11_feedFour 40 = .ok (.putfield 13, 3) := by decide +kernel
theorem dX11_feedFour_43 : decode cX11_feedFour 43 = .ok (.iinc 2 (-8), 3) := by decide +kernel
theorem dX11_feedFour_46 : decode cX11_feedFour 46 = .ok (.goto (-43), 3) := by decide +kernel
theorem dX11_feedFour_49 : decode cX11_feedFour 49 = .ok (.return_, 1) := by decide +kernel
theorem dX11_end_0 : decode cX11_end 0 = .ok (.iload_n 1, 1) := by decide +kernel
theorem dX11_end_1 : decode cX11_end 1 = .ok (.ifCond .lt 11, 3) := by decide +kernel
theorem dX11_end_4 : decode cX11_end 4 = .ok (.iload_n 1, 1) := by decide +kernel
theorem dX11_end_5 : decode cX11_end 5 = .ok (.aload_n 0, 1) := by decide +kernel
theorem dX11_end_6 : decode cX11_end 6 = .ok (.getfield 13, 3) := by decide +kernel
theorem dX11_end_9 : decode cX11_end 9 = .ok (.if_icmp .le 5, 3) := by decide +kernel
theorem dX11_end_12 : decode cX11_end 12 = .ok (.iconst (-1), 1) := by decide +kernel
theorem dX11_end_13 : decode cX11_end 13 = .ok (.ireturn, 1) := by decide +kernel
theorem dX11_end_14 : decode cX11_end 14 = .ok (.aload_n 0, 1) := by decide +kernel
theorem dX11_end_15 : decode cX11_end 15 = .ok (.iload_n 1, 1) := by decide +kernel
theorem dX11_end_16 : decode cX11_end 16 = .ok (.putfield 13, 3) := by decide +kernel
theorem dX11_end_19 : decode cX11_end 19 = .ok (.iload_n 1, 1) := by decide +kernel
theorem dX11_end_20 : decode cX11_end 20 = .ok (.ireturn, 1) := by decide +kernel
theorem dX11_program_0 : decode cX11_program 0 = .ok (.aload_n 0, 1) := by decide +kernel
theorem dX11_program_1 : decode cX11_program 1 = .ok (.invokevirtual 124, 3) := by decide +kernel
theorem dX11_program_4 : decode cX11_program 4 = .ok (.aload_n 0, 1) := by decide +kernel
theorem dX11_program_5 : decode cX11_program 5 = .ok (.getfield 35, 3) := by decide +kernel
theorem dX11_program_8 : decode cX11_program 8 = .ok (.aload_n 0, 1) := by decide +kernel
theorem dX11_program_9 : decode cX11_program 9 = .ok (.getfield 27, 3) := by decide +kernel
theorem dX11_program_12 : decode cX11_program 12 = .ok (.invokevirtual 127, 3) := by decide +kernel
theorem dX11_program_15 : decode cX11_program 15 = .ok (.aload_n 0, 1) := by decide +kernel
theorem dX11_program_16 : decode cX11_program 16 = .ok (.aload_n 0, 1) := by decide +kernel
theorem dX11_program_17 : decode cX11_program 17 = .ok (.getfield 35, 3) := by decide +kernel
theorem dX11_program_20 : decode cX11_program 20 = .ok (.invokevirtual 131, 3) := by decide +kernel
theorem dX11_program_23 : decode cX11_program 23 = .ok (.putfield 17, 3) := by decide +kernel
theorem dX11_program_26 : decode cX11_program 26 = .ok (.aload_n 0, 1) := by decide +kernel
theorem dX11_program_27 : decode cX11_program 27 = .ok (.getfield 17, 3) := by decide +kernel
theorem dX11_program_30 : decode cX11_program 30 = .ok (.iconst (-1), 1) := by decide +kernel
theorem dX11_program_31 : decode cX11_program 31 = .ok (.if_icmp .eq 5, 3) := by decide +kernel
theorem dX11_program_34 : decode cX11_program 34 = .ok (.iconst (-1), 1) := by decide +kernel
theorem dX11_program_35 : decode cX11_program 35 = .ok (.ireturn, 1) := by decide +kernel
theorem dX11_program_36 : decode cX11_program 36 = .ok (.aload_n 0, 1) := by decide +kernel
theorem dX11_program_37 : decode cX11_program 37 = .ok (.getfield 23, 3) := by decide +kernel
theorem dX11_program_40 : decode cX11_program 40 = .ok (.astore_n 1, 1) := by decide +kernel
theorem dX11_program_41 : decode cX11_program 41 = .ok (.aload_n 0, 1) := by decide +kernel
theorem dX11_program_42 : decode cX11_program 42 = .ok (.aload_n 0, 1) := by decide +kernel
theorem dX11_program_43 : decode cX11_program 43 = .ok (.getfield 27, 3) := by decide +kernel
theorem dX11_program_46 : decode cX11_program 46 = .ok (.putfield 23, 3) := by decide +kernel
theorem dX11_program_49 : decode cX11_program 49 = .ok (.aload_n 0, 1) := by decide +kernel
theorem dX11_program_50 : decode cX11_program 50 = .ok (.aload_n 1, 1) := by decide +kernel
theorem dX11_program_51 : decode cX11_program 51 = .ok (.putfield 27, 3) := by decide +kernel
theorem dX11_program_54 : decode cX11_program 54 = .ok (.aload_n 0, 1) := by decide +kernel
theorem dX11_program_55 : decode cX11_program 55 = .ok (.getfield 67, 3) := by decide +kernel
theorem dX11_program_58 : decode cX11_program 58 = .ok (.invokevirtual 135, 3) := by decide +kernel
theorem dX11_program_61 : decode cX11_program 61 = .ok (.aload_n 0, 1) := by decide +kernel
theorem dX11_program_62 : decode cX11_program 62 = .ok (.getfield 23, 3) := by decide +kernel
theorem dX11_program_65 : decode cX11_program 65 = .ok (.getfield 138, 3) := by decide +kernel
theorem dX11_program_68 : decode cX11_program 68 = .ok (.ireturn, 1) := by decide +kernel
theorem dX11_task_0 : decode cX11_task 0 = .ok (.aload_n 0, 1) := by decide +kernel
theorem dX11_task_1 : decode cX11_task 1 = .ok (.invokevirtual 124, 3) := by decide +kernel
theorem dX11_task_4 : decode cX11_task 4 = .ok (.aload_n 0, 1) := by decide +kernel
theorem dX11_task_5 : decode cX11_task 5 = .ok (.getfield 35, 3) := by decide +kernel
theorem dX11_task_8 : decode cX11_task 8 = .ok (.aload_n 0, 1) := by decide +kernel
theorem dX11_task_9 : decode cX11_task 9 = .ok (.getfield 48, 3) := by decide +kernel
theorem dX11_task_12 : decode cX11_task 12 = .ok (.invokevirtual 141, 3) := by decide +kernel
theorem dX11_task_15 : decode cX11_task 15 = .ok (.aload_n 0, 1) := by decide +kernel
theorem dX11_task_16 : decode cX11_task 16 = .ok (.aload_n 0, 1) := by decide +kernel
theorem dX11_task_17 : decode cX11_task 17 = .ok (.getfield 35, 3) := by decide +kernel
theorem dX11_task_20 : decode cX11_task 20 = .ok (.invokevirtual 131, 3) := by decide +kernel
theorem dX11_task_23 : decode cX11_task 23 = .ok (.putfield 17, 3) := by decide +kernel
theorem dX11_task_26 : decode cX11_task 26 = .ok (.aload_n 0, 1) := by decide +kernel
theorem dX11_task_27 : decode cX11_task 27 = .ok (.getfield 17, 3) := by decide +kernel
theorem dX11_task_30 : decode cX11_task 30 = .ok (.iconst (-1), 1) := by decide +kernel
theorem dX11_task_31 : decode cX11_task 31 = .ok (.if_icmp .eq 5, 3) := by decide +kernel
theorem dX11_task_34 : decode cX11_task 34 = .ok (.iconst (-1), 1) := by decide +kernel
theorem dX11_task_35 : decode cX11_task 35 = .ok (.ireturn, 1) := by decide +kernel
theorem dX11_task_36 : decode cX11_task 36 = .ok (.aload_n 0, 1) := by decide +kernel
theorem dX11_task_37 : decode cX11_task 37 = .ok (.getfield 44, 3) := by decide +kernel
theorem dX11_task_40 : decode cX11_task 40 = .ok (.astore_n 1, 1) := by decide +kernel
theorem dX11_task_41 : decode cX11_task 41 = .ok (.aload_n 0, 1) := by decide +kernel
theorem dX11_task_42 : decode cX11_task 42 = .ok (.aload_n 0, 1) := by decide +kernel
theorem dX11_task_43 : decode cX11_task 43 = .ok (.getfield 48, 3) := by decide +kernel
theorem dX11_task_46 : decode cX11_task 46 = .ok (.putfield 44, 3) := by decide +kernel
theorem dX11_task_49 : decode cX11_task 49 = .ok (.aload_n 0, 1) := by decide +kernel
theorem dX11_task_50 : decode cX11_task 50 = .ok (.aload_n 1, 1) := by decide +kernel
theorem dX11_task_51 : decode cX11_task 51 = .ok (.putfield 48, 3) := by decide +kernel
theorem dX11_task_54 : decode cX11_task 54 = .ok (.aload_n 0, 1) := by decide +kernel
theorem dX11_task_55 : decode cX11_task 55 = .ok (.iconst 0, 1) := by decide +kernel
theorem dX11_task_56 : decode cX11_task 56 = .ok (.putfield 57, 3) := by decide +kernel
theorem dX11_task_59 : decode cX11_task 59 = .ok (.aload_n 0, 1) := by decide +kernel
theorem dX11_task_60 : decode cX11_task 60 = .ok (.getfield 51, 3) := by decide +kernel
theorem dX11_task_63 : decode cX11_task 63 = .ok (.iconst 0, 1) := by decide +kernel
theorem dX11_task_64 : decode cX11_task 64 = .ok (.invokevirtual 145, 3) := by decide +kernel
theorem dX11_task_67 : decode cX11_task 67 = .ok (.aload_n 0, 1) := by decide +kernel
theorem dX11_task_68 : decode cX11_task 68 = .ok (.getfield 67, 3) := by decide +kernel
theorem dX11_task_71 : decode cX11_task 71 = .ok (.invokevirtual 135, 3) := by decide +kernel
theorem dX11_task_74 : decode cX11_task 74 = .ok (.aload_n 0, 1) := by decide +kernel
theorem dX11_task_75 : decode cX11_task 75 = .ok (.getfield 44, 3) := by decide +kernel
theorem dX11_task_78 : decode cX11_task 78 = .ok (.invokevirtual 148, 3) := by decide +kernel
theorem dX11_task_81 : decode cX11_task 81 = .ok (.ireturn, 1) := by decide +kernel
theorem dX11_values_0 : decode cX11_values 0 = .ok (.aload_n 0, 1) := by decide +kernel
theorem dX11_values_1 : decode cX11_values 1 = .ok (.invokevirtual 124, 3) := by decide +kernel
theorem dX11_values_4 : decode cX11_values 4 = .ok (.aload_n 0, 1) := by decide +kernel
theorem dX11_values_5 : decode cX11_values 5 = .ok (.getfield 44, 3) := by decide +kernel
theorem dX11_values_8 : decode cX11_values 8 = .ok (.invokevirtual 148, 3) := by decide +kernel
theorem dX11_values_11 : decode cX11_values 11 = .ok (.istore_n 1, 1) := by decide +kernel
theorem dX11_values_12 : decode cX11_values 12 = .ok (.aload_n 0, 1) := by decide +kernel
theorem dX11_values_13 : decode cX11_values 13 = .ok (.getfield 35, 3) := by decide +kernel
theorem dX11_values_16 : decode cX11_values 16 = .ok (.aload_n 0, 1) := by decide +kernel
theorem dX11_values_17 : decode cX11_values 17 = .ok (.getfield 54, 3) := by decide +kernel
theorem dX11_values_20 : decode cX11_values 20 = .ok (.iload_n 1, 1) := by decide +kernel
theorem dX11_values_21 : decode cX11_values 21 = .ok (.invokevirtual 151, 3) := by decide +kernel
theorem dX11_values_24 : decode cX11_values 24 = .ok (.aload_n 0, 1) := by decide +kernel
theorem dX11_values_25 : decode cX11_values 25 = .ok (.aload_n 0, 1) := by decide +kernel
theorem dX11_values_26 : decode cX11_values 26 = .ok (.getfield 35, 3) := by decide +kernel
theorem dX11_values_29 : decode cX11_values 29 = .ok (.invokevirtual 131, 3) := by decide +kernel
theorem dX11_values_32 : decode cX11_values 32 = .ok (.putfield 17, 3) := by decide +kernel
theorem dX11_values_35 : decode cX11_values 35 = .ok (.aload_n 0, 1) := by decide +kernel
theorem dX11_values_36 : decode cX11_values 36 = .ok (.getfield 17, 3) := by decide +kernel
theorem dX11_values_39 : decode cX11_values 39 = .ok (.iconst (-1), 1) := by decide +kernel
theorem dX11_values_40 : decode cX11_values 40 = .ok (.if_icmp .eq 5, 3) := by decide +kernel
theorem dX11_values_43 : decode cX11_values 43 = .ok (.iconst (-1), 1) := by decide +kernel
theorem dX11_values_44 : decode cX11_values 44 = .ok (.ireturn, 1) := by decide +kernel
theorem dX11_values_45 : decode cX11_values 45 = .ok (.aload_n 0, 1) := by decide +kernel
theorem dX11_values_46 : decode cX11_values 46 = .ok (.getfield 51, 3) := by decide +kernel
theorem dX11_values_49 : decode cX11_values 49 = .ok (.astore_n 2, 1) := by decide +kernel
theorem dX11_values_50 : decode cX11_values 50 = .ok (.aload_n 0, 1) := by decide +kernel
theorem dX11_values_51 : decode cX11_values 51 = .ok (.aload_n 0, 1) := by decide +kernel
theorem dX11_values_52 : decode cX11_values 52 = .ok (.getfield 54, 3) := by decide +kernel
theorem dX11_values_55 : decode cX11_values 55 = .ok (.putfield 51, 3) := by decide +kernel
theorem dX11_values_58 : decode cX11_values 58 = .ok (.aload_n 0, 1) := by decide +kernel
theorem dX11_values_59 : decode cX11_values 59 = .ok (.aload_n 2, 1) := by decide +kernel
theorem dX11_values_60 : decode cX11_values 60 = .ok (.putfield 54, 3) := by decide +kernel
theorem dX11_values_63 : decode cX11_values 63 = .ok (.aload_n 0, 1) := by decide +kernel
theorem dX11_values_64 : decode cX11_values 64 = .ok (.iconst 1, 1) := by decide +kernel
theorem dX11_values_65 : decode cX11_values 65 = .ok (.putfield 57, 3) := by decide +kernel
theorem dX11_values_68 : decode cX11_values 68 = .ok (.iload_n 1, 1) := by decide +kernel
theorem dX11_values_69 : decode cX11_values 69 = .ok (.ireturn, 1) := by decide +kernel
theorem dX11_takeTape_0 : decode cX11_takeTape 0 = .ok (.aload_n 0, 1) := by decide +kernel
theorem dX11_takeTape_1 : decode cX11_takeTape 1 = .ok (.getfield 35, 3) := by decide +kernel
theorem dX11_takeTape_4 : decode cX11_takeTape 4 = .ok (.aload_n 0, 1) := by decide +kernel
theorem dX11_takeTape_5 : decode cX11_takeTape 5 = .ok (.getfield 13, 3) := by decide +kernel
theorem dX11_takeTape_8 : decode cX11_takeTape 8 = .ok (.invokevirtual 155, 3) := by decide +kernel
theorem dX11_takeTape_11 : decode cX11_takeTape 11 = .ok (.aload_n 0, 1) := by decide +kernel
theorem dX11_takeTape_12 : decode cX11_takeTape 12 = .ok (.iconst 0, 1) := by decide +kernel
theorem dX11_takeTape_13 : decode cX11_takeTape 13 = .ok (.putfield 13, 3) := by decide +kernel
theorem dX11_takeTape_16 : decode cX11_takeTape 16 = .ok (.return_, 1) := by decide +kernel
theorem dX11_fault_0 : decode cX11_fault 0 = .ok (.aload_n 0, 1) := by decide +kernel
theorem dX11_fault_1 : decode cX11_fault 1 = .ok (.getfield 17, 3) := by decide +kernel
theorem dX11_fault_4 : decode cX11_fault 4 = .ok (.ireturn, 1) := by decide +kernel
theorem dX11_set_0 : decode cX11_set 0 = .ok (.aload_n 0, 1) := by decide +kernel
theorem dX11_set_1 : decode cX11_set 1 = .ok (.getfield 83, 3) := by decide +kernel
theorem dX11_set_4 : decode cX11_set 4 = .ok (.iload_n 1, 1) := by decide +kernel
theorem dX11_set_5 : decode cX11_set 5 = .ok (.iload_n 2, 1) := by decide +kernel
theorem dX11_set_6 : decode cX11_set 6 = .ok (.invokevirtual 156, 3) := by decide +kernel
theorem dX11_set_9 : decode cX11_set 9 = .ok (.ifCond .ne 5, 3) := by decide +kernel
theorem dX11_set_12 : decode cX11_set 12 = .ok (.iconst 0, 1) := by decide +kernel
theorem dX11_set_13 : decode cX11_set 13 = .ok (.ireturn, 1) := by decide +kernel
theorem dX11_set_14 : decode cX11_set 14 = .ok (.aload_n 0, 1) := by decide +kernel
theorem dX11_set_15 : decode cX11_set 15 = .ok (.getfield 67, 3) := by decide +kernel
theorem dX11_set_18 : decode cX11_set 18 = .ok (.invokevirtual 135, 3) := by decide +kernel
theorem dX11_set_21 : decode cX11_set 21 = .ok (.iconst 1, 1) := by decide +kernel
theorem dX11_set_22 : decode cX11_set 22 = .ok (.ireturn, 1) := by decide +kernel
theorem dX11_is_0 : decode cX11_is 0 = .ok (.iload_n 1, 1) := by decide +kernel
theorem dX11_is_1 : decode cX11_is 1 = .ok (.tableswitch 119 0 7 #[47, 55, 63, 82, 90, 98, 106, 111], 47) := by decide +kernel
theorem dX11_is_48 : decode cX11_is 48 = .ok (.aload_n 0, 1) := by decide +kernel
theorem dX11_is_49 : decode cX11_is 49 = .ok (.getfield 23, 3) := by decide +kernel
theorem dX11_is_52 : decode cX11_is 52 = .ok (.getfield 138, 3) := by decide +kernel
theorem dX11_is_55 : decode cX11_is 55 = .ok (.ireturn, 1) := by decide +kernel
theorem dX11_is_56 : decode cX11_is 56 = .ok (.aload_n 0, 1) := by decide +kernel
theorem dX11_is_57 : decode cX11_is 57 = .ok (.getfield 44, 3) := by decide +kernel
theorem dX11_is_60 : decode cX11_is 60 = .ok (.invokevirtual 148, 3) := by decide +kernel
theorem dX11_is_63 : decode cX11_is 63 = .ok (.ireturn, 1) := by decide +kernel
theorem dX11_is_64 : decode cX11_is 64 = .ok (.aload_n 0, 1) := by decide +kernel
theorem dX11_is_65 : decode cX11_is 65 = .ok (.getfield 57, 3) := by decide +kernel
theorem dX11_is_68 : decode cX11_is 68 = .ok (.ifCond .eq 13, 3) := by decide +kernel
theorem dX11_is_71 : decode cX11_is 71 = .ok (.aload_n 0, 1) := by decide +kernel
theorem dX11_is_72 : decode cX11_is 72 = .ok (.getfield 44, 3) := by decide +kernel
theorem dX11_is_75 : decode cX11_is 75 = .ok (.invokevirtual 148, 3) := by decide +kernel
theorem dX11_is_78 : decode cX11_is 78 = .ok (.goto 4, 3) := by decide +kernel
theorem dX11_is_81 : decode cX11_is 81 = .ok (.iconst 0, 1) := by decide +kernel
theorem dX11_is_82 : decode cX11_is 82 = .ok (.ireturn, 1) := by decide +kernel
theorem dX11_is_83 : decode cX11_is 83 = .ok (.aload_n 0, 1) := by decide +kernel
theorem dX11_is_84 : decode cX11_is 84 = .ok (.getfield 83, 3) := by decide +kernel
theorem dX11_is_87 : decode cX11_is 87 = .ok (.getfield 160, 3) := by decide +kernel
theorem dX11_is_90 : decode cX11_is 90 = .ok (.ireturn, 1) := by decide +kernel
theorem dX11_is_91 : decode cX11_is 91 = .ok (.aload_n 0, 1) := by decide +kernel
theorem dX11_is_92 : decode cX11_is 92 = .ok (.getfield 83, 3) := by decide +kernel
theorem dX11_is_95 : decode cX11_is 95 = .ok (.getfield 163, 3) := by decide +kernel
theorem dX11_is_98 : decode cX11_is 98 = .ok (.ireturn, 1) := by decide +kernel
theorem dX11_is_99 : decode cX11_is 99 = .ok (.aload_n 0, 1) := by decide +kernel
theorem dX11_is_100 : decode cX11_is 100 = .ok (.getfield 83, 3) := by decide +kernel
theorem dX11_is_103 : decode cX11_is 103 = .ok (.getfield 166, 3) := by decide +kernel
theorem dX11_is_106 : decode cX11_is 106 = .ok (.ireturn, 1) := by decide +kernel
theorem dX11_is_107 : decode cX11_is 107 = .ok (.aload_n 0, 1) := by decide +kernel
theorem dX11_is_108 : decode cX11_is 108 = .ok (.getfield 13, 3) := by decide +kernel
theorem dX11_is_111 : decode cX11_is 111 = .ok (.ireturn, 1) := by decide +kernel
theorem dX11_is_112 : decode cX11_is 112 = .ok (.aload_n 0, 1) := by decide +kernel
theorem dX11_is_113 : decode cX11_is 113 = .ok (.getfield 23, 3) := by decide +kernel
theorem dX11_is_116 : decode cX11_is 116 = .ok (.getfield 169, 3) := by decide +kernel
theorem dX11_is_119 : decode cX11_is 119 = .ok (.ireturn, 1) := by decide +kernel
theorem dX11_is_120 : decode cX11_is 120 = .ok (.iconst (-1), 1) := by decide +kernel
theorem dX11_is_121 : decode cX11_is 121 = .ok (.ireturn, 1) := by decide +kernel
theorem dX11_function_0 : decode cX11_function 0 = .ok (.aload_n 0, 1) := by decide +kernel
theorem dX11_function_1 : decode cX11_function 1 = .ok (.getfield 23, 3) := by decide +kernel
theorem dX11_function_4 : decode cX11_function 4 = .ok (.iload_n 1, 1) := by decide +kernel
theorem dX11_function_5 : decode cX11_function 5 = .ok (.iload_n 2, 1) := by decide +kernel
theorem dX11_function_6 : decode cX11_function 6 = .ok (.invokevirtual 172, 3) := by decide +kernel
theorem dX11_function_9 : decode cX11_function 9 = .ok (.ireturn, 1) := by decide +kernel
theorem dX11_specialise_0 : decode cX11_specialise 0 = .ok (.aload_n 0, 1) := by decide +kernel
theorem dX11_specialise_1 : decode cX11_specialise 1 = .ok (.getfield 83, 3) := by decide +kernel
theorem dX11_specialise_4 : decode cX11_specialise 4 = .ok (.aload_n 0, 1) := by decide +kernel
theorem dX11_specialise_5 : decode cX11_specialise 5 = .ok (.getfield 23, 3) := by decide +kernel
theorem dX11_specialise_8 : decode cX11_specialise 8 = .ok (.aload_n 0, 1) := by decide +kernel
theorem dX11_specialise_9 : decode cX11_specialise 9 = .ok (.getfield 44, 3) := by decide +kernel
theorem dX11_specialise_12 : decode cX11_specialise 12 = .ok (.invokevirtual 176, 3) := by decide +kernel
theorem dX11_specialise_15 : decode cX11_specialise 15 = .ok (.iconst 0, 1) := by decide +kernel
theorem dX11_specialise_16 : decode cX11_specialise 16 = .ok (.istore_n 1, 1) := by decide +kernel
theorem dX11_specialise_17 : decode cX11_specialise 17 = .ok (.iload_n 1, 1) := by decide +kernel
theorem dX11_specialise_18 : decode cX11_specialise 18 = .ok (.ldc 179, 2) := by decide +kernel
theorem dX11_specialise_20 : decode cX11_specialise 20 = .ok (.if_icmp .ge 26, 3) := by decide +kernel
theorem dX11_specialise_23 : decode cX11_specialise 23 = .ok (.aload_n 0, 1) := by decide +kernel
theorem dX11_specialise_24 : decode cX11_specialise 24 = .ok (.getfield 83, 3) := by decide +kernel
theorem dX11_specialise_27 : decode cX11_specialise 27 = .ok (.invokevirtual 180, 3) := by decide +kernel
theorem dX11_specialise_30 : decode cX11_specialise 30 = .ok (.ifCond .eq 16, 3) := by decide +kernel
theorem dX11_specialise_33 : decode cX11_specialise 33 = .ok (.aload_n 0, 1) := by decide +kernel
theorem dX11_specialise_34 : decode cX11_specialise 34 = .ok (.getfield 83, 3) := by decide +kernel
theorem dX11_specialise_37 : decode cX11_specialise 37 = .ok (.invokevirtual 184, 3) := by decide +kernel
theorem dX11_specialise_40 : decode cX11_specialise 40 = .ok (.iinc 1 1, 3) := by decide +kernel
theorem dX11_specialise_43 : decode cX11_specialise 43 = .ok (.goto (-26), 3) := by decide +kernel
theorem dX11_specialise_46 : decode cX11_specialise 46 = .ok (.aload_n 0, 1) := by decide +kernel
theorem dX11_specialise_47 : decode cX11_specialise 47 = .ok (.getfield 83, 3) := by decide +kernel
theorem dX11_specialise_50 : decode cX11_specialise 50 = .ok (.invokevirtual 187, 3) := by decide +kernel
theorem dX11_specialise_53 : decode cX11_specialise 53 = .ok (.ireturn, 1) := by decide +kernel
theorem dX11_residue_0 : decode cX11_residue 0 = .ok (.aload_n 0, 1) := by decide +kernel
theorem dX11_residue_1 : decode cX11_residue 1 = .ok (.getfield 67, 3) := by decide +kernel
theorem dX11_residue_4 : decode cX11_residue 4 = .ok (.iload_n 1, 1) := by decide +kernel
theorem dX11_residue_5 : decode cX11_residue 5 = .ok (.invokevirtual 190, 3) := by decide +kernel
theorem dX11_residue_8 : decode cX11_residue 8 = .ok (.ireturn, 1) := by decide +kernel
theorem dX11_variant_0 : decode cX11_variant 0 = .ok (.aload_n 0, 1) := by decide +kernel
theorem dX11_variant_1 : decode cX11_variant 1 = .ok (.getfield 67, 3) := by decide +kernel
theorem dX11_variant_4 : decode cX11_variant 4 = .ok (.iload_n 1, 1) := by decide +kernel
theorem dX11_variant_5 : decode cX11_variant 5 = .ok (.iload_n 2, 1) := by decide +kernel
theorem dX11_variant_6 : decode cX11_variant 6 = .ok (.invokevirtual 193, 3) := by decide +kernel
theorem dX11_variant_9 : decode cX11_variant 9 = .ok (.ireturn, 1) := by decide +kernel
theorem dX11_kinds_0 : decode cX11_kinds 0 = .ok (.aload_n 0, 1) := by decide +kernel
theorem dX11_kinds_1 : decode cX11_kinds 1 = .ok (.getfield 67, 3) := by decide +kernel
theorem dX11_kinds_4 : decode cX11_kinds 4 = .ok (.iload_n 1, 1) := by decide +kernel
theorem dX11_kinds_5 : decode cX11_kinds 5 = .ok (.invokevirtual 196, 3) := by decide +kernel
theorem dX11_kinds_8 : decode cX11_kinds 8 = .ok (.ifCond .eq 13, 3) := by decide +kernel
theorem dX11_kinds_11 : decode cX11_kinds 11 = .ok (.iload_n 2, 1) := by decide +kernel
theorem dX11_kinds_12 : decode cX11_kinds 12 = .ok (.ifCond .lt 9, 3) := by decide +kernel
theorem dX11_kinds_15 : decode cX11_kinds 15 = .ok (.iload_n 2, 1) := by decide +kernel
theorem dX11_kinds_16 : decode cX11_kinds 16 = .ok (.bipush 13, 2) := by decide +kernel
theorem dX11_kinds_18 : decode cX11_kinds 18 = .ok (.if_icmp .lt 5, 3) := by decide +kernel
theorem dX11_kinds_21 : decode cX11_kinds 21 = .ok (.iconst (-1), 1) := by decide +kernel
theorem dX11_kinds_22 : decode cX11_kinds 22 = .ok (.ireturn, 1) := by decide +kernel
theorem dX11_kinds_23 : decode cX11_kinds 23 = .ok (.aload_n 0, 1) := by decide +kernel
theorem dX11_kinds_24 : decode cX11_kinds 24 = .ok (.getfield 67, 3) := by decide +kernel
theorem dX11_kinds_27 : decode cX11_kinds 27 = .ok (.iload_n 1, 1) := by decide +kernel
theorem dX11_kinds_28 : decode cX11_kinds 28 = .ok (.iload_n 2, 1) := by decide +kernel
theorem dX11_kinds_29 : decode cX11_kinds 29 = .ok (.invokevirtual 200, 3) := by decide +kernel
theorem dX11_kinds_32 : decode cX11_kinds 32 = .ok (.ireturn, 1) := by decide +kernel
theorem dX11_run_0 : decode cX11_run 0 = .ok (.iload_n 2, 1) := by decide +kernel
theorem dX11_run_1 : decode cX11_run 1 = .ok (.ifCond .lt 17, 3) := by decide +kernel
theorem dX11_run_4 : decode cX11_run 4 = .ok (.iload_n 2, 1) := by decide +kernel
theorem dX11_run_5 : decode cX11_run 5 = .ok (.bipush 6, 2) := by decide +kernel
theorem dX11_run_7 : decode cX11_run 7 = .ok (.if_icmp .ge 11, 3) := by decide +kernel
theorem dX11_run_10 : decode cX11_run 10 = .ok (.aload_n 0, 1) := by decide +kernel
theorem dX11_run_11 : decode cX11_run 11 = .ok (.iload_n 1, 1) := by decide +kernel
theorem dX11_run_12 : decode cX11_run 12 = .ok (.invokevirtual 203, 3) := by decide +kernel
theorem dX11_run_15 : decode cX11_run 15 = .ok (.ifCond .ne 5, 3) := by decide +kernel
theorem dX11_run_18 : decode cX11_run 18 = .ok (.iconst (-1), 1) := by decide +kernel
theorem dX11_run_19 : decode cX11_run 19 = .ok (.ireturn, 1) := by decide +kernel
theorem dX11_run_20 : decode cX11_run 20 = .ok (.iload_n 1, 1) := by decide +kernel
theorem dX11_run_21 : decode cX11_run 21 = .ok (.ifCond .ne 29, 3) := by decide +kernel
theorem dX11_run_24 : decode cX11_run 24 = .ok (.aload_n 0, 1) := by decide +kernel
theorem dX11_run_25 : decode cX11_run 25 = .ok (.getfield 92, 3) := by decide +kernel
theorem dX11_run_28 : decode cX11_run 28 = .ok (.aload_n 0, 1) := by decide +kernel
theorem dX11_run_29 : decode cX11_run 29 = .ok (.getfield 23, 3) := by decide +kernel
theorem dX11_run_32 : decode cX11_run 32 = .ok (.aload_n 0, 1) := by decide +kernel
theorem dX11_run_33 : decode cX11_run 33 = .ok (.getfield 44, 3) := by decide +kernel
theorem dX11_run_36 : decode cX11_run 36 = .ok (.aload_n 0, 1) := by decide +kernel
theorem dX11_run_37 : decode cX11_run 37 = .ok (.getfield 51, 3) := by decide +kernel
theorem dX11_run_40 : decode cX11_run 40 = .ok (.aload_n 0, 1) := by decide +kernel
theorem dX11_run_41 : decode cX11_run 41 = .ok (.getfield 74, 3) := by decide +kernel
theorem dX11_run_44 : decode cX11_run 44 = .ok (.invokevirtual 206, 3) := by decide +kernel
theorem dX11_run_47 : decode cX11_run 47 = .ok (.goto 22, 3) := by decide +kernel
theorem dX11_run_50 : decode cX11_run 50 = .ok (.aload_n 0, 1) := by decide +kernel
theorem dX11_run_51 : decode cX11_run 51 = .ok (.getfield 101, 3) := by decide +kernel
theorem dX11_run_54 : decode cX11_run 54 = .ok (.aload_n 0, 1) := by decide +kernel
theorem dX11_run_55 : decode cX11_run 55 = .ok (.getfield 67, 3) := by decide +kernel
theorem dX11_run_58 : decode cX11_run 58 = .ok (.aload_n 0, 1) := by decide +kernel
theorem dX11_run_59 : decode cX11_run 59 = .ok (.getfield 51, 3) := by decide +kernel
theorem dX11_run_62 : decode cX11_run 62 = .ok (.aload_n 0, 1) := by decide +kernel
theorem dX11_run_63 : decode cX11_run 63 = .ok (.getfield 74, 3) := by decide +kernel
theorem dX11_run_66 : decode cX11_run 66 = .ok (.invokevirtual 210, 3) := by decide +kernel
theorem dX11_run_69 : decode cX11_run 69 = .ok (.aload_n 0, 1) := by decide +kernel
theorem dX11_run_70 : decode cX11_run 70 = .ok (.getfield 74, 3) := by decide +kernel
theorem dX11_run_73 : decode cX11_run 73 = .ok (.getfield 214, 3) := by decide +kernel
theorem dX11_run_76 : decode cX11_run 76 = .ok (.ifCond .ne 17, 3) := by decide +kernel
theorem dX11_run_79 : decode cX11_run 79 = .ok (.aload_n 0, 1) := by decide +kernel
theorem dX11_run_80 : decode cX11_run 80 = .ok (.getfield 111, 3) := by decide +kernel
theorem dX11_run_83 : decode cX11_run 83 = .ok (.aload_n 0, 1) := by decide +kernel
theorem dX11_run_84 : decode cX11_run 84 = .ok (.getfield 74, 3) := by decide +kernel
theorem dX11_run_87 : decode cX11_run 87 = .ok (.getfield 217, 3) := by decide +kernel
theorem dX11_run_90 : decode cX11_run 90 = .ok (.invokevirtual 220, 3) := by decide +kernel
theorem dX11_run_93 : decode cX11_run 93 = .ok (.aload_n 0, 1) := by decide +kernel
theorem dX11_run_94 : decode cX11_run 94 = .ok (.getfield 74, 3) := by decide +kernel
theorem dX11_run_97 : decode cX11_run 97 = .ok (.iload_n 2, 1) := by decide +kernel
theorem dX11_run_98 : decode cX11_run 98 = .ok (.invokevirtual 223, 3) := by decide +kernel
theorem dX11_run_101 : decode cX11_run 101 = .ok (.ireturn, 1) := by decide +kernel
theorem dX11_canRun_0 : decode cX11_canRun 0 = .ok (.iload_n 1, 1) := by decide +kernel
theorem dX11_canRun_1 : decode cX11_canRun 1 = .ok (.ifCond .eq 10, 3) := by decide +kernel
theorem dX11_canRun_4 : decode cX11_canRun 4 = .ok (.iload_n 1, 1) := by decide +kernel
theorem dX11_canRun_5 : decode cX11_canRun 5 = .ok (.iconst 1, 1) := by decide +kernel
theorem dX11_canRun_6 : decode cX11_canRun 6 = .ok (.if_icmp .eq 5, 3) := by decide +kernel
theorem dX11_canRun_9 : decode cX11_canRun 9 = .ok (.iconst 0, 1) := by decide +kernel
theorem dX11_canRun_10 : decode cX11_canRun 10 = .ok (.ireturn, 1) := by decide +kernel
theorem dX11_canRun_11 : decode cX11_canRun 11 = .ok (.iload_n 1, 1) := by decide +kernel
theorem dX11_canRun_12 : decode cX11_canRun 12 = .ok (.ifCond .eq 13, 3) := by decide +kernel
theorem dX11_canRun_15 : decode cX11_canRun 15 = .ok (.aload_n 0, 1) := by decide +kernel
theorem dX11_canRun_16 : decode cX11_canRun 16 = .ok (.getfield 67, 3) := by decide +kernel
theorem dX11_canRun_19 : decode cX11_canRun 19 = .ok (.getfield 224, 3) := by decide +kernel
theorem dX11_canRun_22 : decode cX11_canRun 22 = .ok (.ifCond .eq 24, 3) := by decide +kernel
theorem dX11_canRun_25 : decode cX11_canRun 25 = .ok (.aload_n 0, 1) := by decide +kernel
theorem dX11_canRun_26 : decode cX11_canRun 26 = .ok (.getfield 57, 3) := by decide +kernel
theorem dX11_canRun_29 : decode cX11_canRun 29 = .ok (.ifCond .ne 13, 3) := by decide +kernel
theorem dX11_canRun_32 : decode cX11_canRun 32 = .ok (.aload_n 0, 1) := by decide +kernel
theorem dX11_canRun_33 : decode cX11_canRun 33 = .ok (.getfield 44, 3) := by decide +kernel
theorem dX11_canRun_36 : decode cX11_canRun 36 = .ok (.invokevirtual 148, 3) := by decide +kernel
theorem dX11_canRun_39 : decode cX11_canRun 39 = .ok (.ifCond .ne 7, 3) := by decide +kernel
theorem dX11_canRun_42 : decode cX11_canRun 42 = .ok (.iconst 1, 1) := by decide +kernel
theorem dX11_canRun_43 : decode cX11_canRun 43 = .ok (.goto 4, 3) := by decide +kernel
theorem dX11_canRun_46 : decode cX11_canRun 46 = .ok (.iconst 0, 1) := by decide +kernel
theorem dX11_canRun_47 : decode cX11_canRun 47 = .ok (.ireturn, 1) := by decide +kernel
theorem dX11_output_0 : decode cX11_output 0 = .ok (.aload_n 0, 1) := by decide +kernel
theorem dX11_output_1 : decode cX11_output 1 = .ok (.getfield 74, 3) := by decide +kernel
theorem dX11_output_4 : decode cX11_output 4 = .ok (.iload_n 1, 1) := by decide +kernel
theorem dX11_output_5 : decode cX11_output 5 = .ok (.iload_n 2, 1) := by decide +kernel
theorem dX11_output_6 : decode cX11_output 6 = .ok (.invokevirtual 227, 3) := by decide +kernel
theorem dX11_output_9 : decode cX11_output 9 = .ok (.ireturn, 1) := by decide +kernel
theorem dX11_place_0 : decode cX11_place 0 = .ok (.aload_n 0, 1) := by decide +kernel
theorem dX11_place_1 : decode cX11_place 1 = .ok (.getfield 74, 3) := by decide +kernel
theorem dX11_place_4 : decode cX11_place 4 = .ok (.iload_n 1, 1) := by decide +kernel
theorem dX11_place_5 : decode cX11_place 5 = .ok (.invokevirtual 230, 3) := by decide +kernel
theorem dX11_place_8 : decode cX11_place 8 = .ok (.ireturn, 1) := by decide +kernel
theorem dX11_value_0 : decode cX11_value 0 = .ok (.aload_n 0, 1) := by decide +kernel
theorem dX11_value_1 : decode cX11_value 1 = .ok (.getfield 111, 3) := by decide +kernel
theorem dX11_value_4 : decode cX11_value 4 = .ok (.getfield 233, 3) := by decide +kernel
theorem dX11_value_7 : decode cX11_value 7 = .ok (.ifCond .ne 5, 3) := by decide +kernel
theorem dX11_value_10 : decode cX11_value 10 = .ok (.iconst (-1), 1) := by decide +kernel
theorem dX11_value_11 : decode cX11_value 11 = .ok (.ireturn, 1) := by decide +kernel
theorem dX11_value_12 : decode cX11_value 12 = .ok (.aload_n 0, 1) := by decide +kernel
theorem dX11_value_13 : decode cX11_value 13 = .ok (.getfield 117, 3) := by decide +kernel
theorem dX11_value_16 : decode cX11_value 16 = .ok (.aload_n 0, 1) := by decide +kernel
theorem dX11_value_17 : decode cX11_value 17 = .ok (.getfield 111, 3) := by decide +kernel
theorem dX11_value_20 : decode cX11_value 20 = .ok (.invokevirtual 234, 3) := by decide +kernel
theorem dX11_value_23 : decode cX11_value 23 = .ok (.ireturn, 1) := by decide +kernel
theorem dX11_write_0 : decode cX11_write 0 = .ok (.aload_n 0, 1) := by decide +kernel
theorem dX11_write_1 : decode cX11_write 1 = .ok (.getfield 67, 3) := by decide +kernel
theorem dX11_write_4 : decode cX11_write 4 = .ok (.iload_n 1, 1) := by decide +kernel
theorem dX11_write_5 : decode cX11_write 5 = .ok (.invokevirtual 196, 3) := by decide +kernel
theorem dX11_write_8 : decode cX11_write 8 = .ok (.ifCond .ne 5, 3) := by decide +kernel
theorem dX11_write_11 : decode cX11_write 11 = .ok (.iconst (-1), 1) := by decide +kernel
theorem dX11_write_12 : decode cX11_write 12 = .ok (.ireturn, 1) := by decide +kernel
theorem dX11_write_13 : decode cX11_write 13 = .ok (.aload_n 0, 1) := by decide +kernel
theorem dX11_write_14 : decode cX11_write 14 = .ok (.getfield 117, 3) := by decide +kernel
theorem dX11_write_17 : decode cX11_write 17 = .ok (.aload_n 0, 1) := by decide +kernel
theorem dX11_write_18 : decode cX11_write 18 = .ok (.getfield 67, 3) := by decide +kernel
theorem dX11_write_21 : decode cX11_write 21 = .ok (.iload_n 1, 1) := by decide +kernel
theorem dX11_write_22 : decode cX11_write 22 = .ok (.invokevirtual 238, 3) := by decide +kernel
theorem dX11_write_25 : decode cX11_write 25 = .ok (.ireturn, 1) := by decide +kernel
theorem dX11_octet_0 : decode cX11_octet 0 = .ok (.aload_n 0, 1) := by decide +kernel
theorem dX11_octet_1 : decode cX11_octet 1 = .ok (.getfield 117, 3) := by decide +kernel
theorem dX11_octet_4 : decode cX11_octet 4 = .ok (.iload_n 1, 1) := by decide +kernel
theorem dX11_octet_5 : decode cX11_octet 5 = .ok (.invokevirtual 242, 3) := by decide +kernel
theorem dX11_octet_8 : decode cX11_octet 8 = .ok (.ireturn, 1) := by decide +kernel
theorem dX11_agree_0 : decode cX11_agree 0 = .ok (.aload_n 0, 1) := by decide +kernel
theorem dX11_agree_1 : decode cX11_agree 1 = .ok (.invokevirtual 245, 3) := by decide +kernel
theorem dX11_agree_4 : decode cX11_agree 4 = .ok (.ifCond .ne 5, 3) := by decide +kernel
theorem dX11_agree_7 : decode cX11_agree 7 = .ok (.iconst (-1), 1) := by decide +kernel
theorem dX11_agree_8 : decode cX11_agree 8 = .ok (.ireturn, 1) := by decide +kernel
theorem dX11_agree_9 : decode cX11_agree 9 = .ok (.aload_n 0, 1) := by decide +kernel
theorem dX11_agree_10 : decode cX11_agree 10 = .ok (.getfield 105, 3) := by decide +kernel
theorem dX11_agree_13 : decode cX11_agree 13 = .ok (.aload_n 0, 1) := by decide +kernel
theorem dX11_agree_14 : decode cX11_agree 14 = .ok (.getfield 108, 3) := by decide +kernel
theorem dX11_agree_17 : decode cX11_agree 17 = .ok (.invokevirtual 248, 3) := by decide +kernel
theorem dX11_agree_20 : decode cX11_agree 20 = .ok (.ifCond .eq 7, 3) := by decide +kernel
theorem dX11_agree_23 : decode cX11_agree 23 = .ok (.iconst 1, 1) := by decide +kernel
theorem dX11_agree_24 : decode cX11_agree 24 = .ok (.goto 4, 3) := by decide +kernel
theorem dX11_agree_27 : decode cX11_agree 27 = .ok (.iconst 0, 1) := by decide +kernel
theorem dX11_agree_28 : decode cX11_agree 28 = .ok (.ireturn, 1) := by decide +kernel
theorem dX11_saved_0 : decode cX11_saved 0 = .ok (.aload_n 0, 1) := by decide +kernel
theorem dX11_saved_1 : decode cX11_saved 1 = .ok (.invokevirtual 245, 3) := by decide +kernel
theorem dX11_saved_4 : decode cX11_saved 4 = .ok (.ifCond .eq 23, 3) := by decide +kernel
theorem dX11_saved_7 : decode cX11_saved 7 = .ok (.aload_n 0, 1) := by decide +kernel
theorem dX11_saved_8 : decode cX11_saved 8 = .ok (.getfield 105, 3) := by decide +kernel
theorem dX11_saved_11 : decode cX11_saved 11 = .ok (.getfield 214, 3) := by decide +kernel
theorem dX11_saved_14 : decode cX11_saved 14 = .ok (.ifCond .ne 13, 3) := by decide +kernel
theorem dX11_saved_17 : decode cX11_saved 17 = .ok (.aload_n 0, 1) := by decide +kernel
theorem dX11_saved_18 : decode cX11_saved 18 = .ok (.getfield 108, 3) := by decide +kernel
theorem dX11_saved_21 : decode cX11_saved 21 = .ok (.getfield 214, 3) := by decide +kernel
theorem dX11_saved_24 : decode cX11_saved 24 = .ok (.ifCond .eq 7, 3) := by decide +kernel
theorem dX11_saved_27 : decode cX11_saved 27 = .ok (.sipush (-1000), 3) := by decide +kernel
theorem dX11_saved_30 : decode cX11_saved 30 = .ok (.ireturn, 1) := by decide +kernel
theorem dX11_saved_31 : decode cX11_saved 31 = .ok (.aload_n 0, 1) := by decide +kernel
theorem dX11_saved_32 : decode cX11_saved 32 = .ok (.getfield 105, 3) := by decide +kernel
theorem dX11_saved_35 : decode cX11_saved 35 = .ok (.getfield 252, 3) := by decide +kernel
theorem dX11_saved_38 : decode cX11_saved 38 = .ok (.aload_n 0, 1) := by decide +kernel
theorem dX11_saved_39 : decode cX11_saved 39 = .ok (.getfield 108, 3) := by decide +kernel
theorem dX11_saved_42 : decode cX11_saved 42 = .ok (.getfield 252, 3) := by decide +kernel
theorem dX11_saved_45 : decode cX11_saved 45 = .ok (.isub, 1) := by decide +kernel
theorem dX11_saved_46 : decode cX11_saved 46 = .ok (.ireturn, 1) := by decide +kernel
theorem dX11_runBoth_0 : decode cX11_runBoth 0 = .ok (.aload_n 0, 1) := by decide +kernel
theorem dX11_runBoth_1 : decode cX11_runBoth 1 = .ok (.iconst 0, 1) := by decide +kernel
theorem dX11_runBoth_2 : decode cX11_runBoth 2 = .ok (.invokevirtual 203, 3) := by decide +kernel
theorem dX11_runBoth_5 : decode cX11_runBoth 5 = .ok (.ifCond .eq 11, 3) := by decide +kernel
theorem dX11_runBoth_8 : decode cX11_runBoth 8 = .ok (.aload_n 0, 1) := by decide +kernel
theorem dX11_runBoth_9 : decode cX11_runBoth 9 = .ok (.iconst 1, 1) := by decide +kernel
theorem dX11_runBoth_10 : decode cX11_runBoth 10 = .ok (.invokevirtual 203, 3) := by decide +kernel
theorem dX11_runBoth_13 : decode cX11_runBoth 13 = .ok (.ifCond .ne 5, 3) := by decide +kernel
theorem dX11_runBoth_16 : decode cX11_runBoth 16 = .ok (.iconst 0, 1) := by decide +kernel
theorem dX11_runBoth_17 : decode cX11_runBoth 17 = .ok (.ireturn, 1) := by decide +kernel
theorem dX11_runBoth_18 : decode cX11_runBoth 18 = .ok (.aload_n 0, 1) := by decide +kernel
theorem dX11_runBoth_19 : decode cX11_runBoth 19 = .ok (.getfield 92, 3) := by decide +kernel
theorem dX11_runBoth_22 : decode cX11_runBoth 22 = .ok (.aload_n 0, 1) := by decide +kernel
theorem dX11_runBoth_23 : decode cX11_runBoth 23 = .ok (.getfield 23, 3) := by decide +kernel
theorem dX11_runBoth_26 : decode cX11_runBoth 26 = .ok (.aload_n 0, 1) := by decide +kernel
theorem dX11_runBoth_27 : decode cX11_runBoth 27 = .ok (.getfield 44, 3) := by decide +kernel
theorem dX11_runBoth_30 : decode cX11_runBoth 30 = .ok (.aload_n 0, 1) := by decide +kernel
theorem dX11_runBoth_31 : decode cX11_runBoth 31 = .ok (.getfield 51, 3) := by decide +kernel
theorem dX11_runBoth_34 : decode cX11_runBoth 34 = .ok (.aload_n 0, 1) := by decide +kernel
theorem dX11_runBoth_35 : decode cX11_runBoth 35 = .ok (.getfield 105, 3) := by decide +kernel
theorem dX11_runBoth_38 : decode cX11_runBoth 38 = .ok (.invokevirtual 206, 3) := by decide +kernel
theorem dX11_runBoth_41 : decode cX11_runBoth 41 = .ok (.aload_n 0, 1) := by decide +kernel
theorem dX11_runBoth_42 : decode cX11_runBoth 42 = .ok (.getfield 101, 3) := by decide +kernel
theorem dX11_runBoth_45 : decode cX11_runBoth 45 = .ok (.aload_n 0, 1) := by decide +kernel
theorem dX11_runBoth_46 : decode cX11_runBoth 46 = .ok (.getfield 67, 3) := by decide +kernel
theorem dX11_runBoth_49 : decode cX11_runBoth 49 = .ok (.aload_n 0, 1) := by decide +kernel
theorem dX11_runBoth_50 : decode cX11_runBoth 50 = .ok (.getfield 51, 3) := by decide +kernel
theorem dX11_runBoth_53 : decode cX11_runBoth 53 = .ok (.aload_n 0, 1) := by decide +kernel
theorem dX11_runBoth_54 : decode cX11_runBoth 54 = .ok (.getfield 108, 3) := by decide +kernel
theorem dX11_runBoth_57 : decode cX11_runBoth 57 = .ok (.invokevirtual 210, 3) := by decide +kernel
theorem dX11_runBoth_60 : decode cX11_runBoth 60 = .ok (.iconst 1, 1) := by decide +kernel
theorem dX11_runBoth_61 : decode cX11_runBoth 61 = .ok (.ireturn, 1) := by decide +kernel
theorem dX11_op_0 : decode cX11_op 0 = .ok (.iload_n 2, 1) := by decide +kernel
theorem dX11_op_1 : decode cX11_op 1 = .ok (.invokestatic 255, 3) := by decide +kernel
theorem dX11_op_4 : decode cX11_op 4 = .ok (.ifCond .ne 5, 3) := by decide +kernel
theorem dX11_op_7 : decode cX11_op 7 = .ok (.iconst 0, 1) := by decide +kernel
theorem dX11_op_8 : decode cX11_op 8 = .ok (.ireturn, 1) := by decide +kernel
theorem dX11_op_9 : decode cX11_op 9 = .ok (.iload_n 2, 1) := by decide +kernel
theorem dX11_op_10 : decode cX11_op 10 = .ok (.iconst 1, 1) := by decide +kernel
theorem dX11_op_11 : decode cX11_op 11 = .ok (.iload_n 1, 1) := by decide +kernel
theorem dX11_op_12 : decode cX11_op 12 = .ok (.invokestatic 260, 3) := by decide +kernel
theorem dX11_op_15 : decode cX11_op 15 = .ok (.iconst 1, 1) := by decide +kernel
theorem dX11_op_16 : decode cX11_op 16 = .ok (.iload_n 3, 1) := by decide +kernel
theorem dX11_op_17 : decode cX11_op 17 = .ok (.invokestatic 260, 3) := by decide +kernel
theorem dX11_op_20 : decode cX11_op 20 = .ok (.invokestatic 264, 3) := by decide +kernel
theorem dX11_op_23 : decode cX11_op 23 = .ok (.lstore 4, 2) := by decide +kernel
theorem dX11_op_25 : decode cX11_op 25 = .ok (.lload 4, 2) := by decide +kernel
theorem dX11_op_27 : decode cX11_op 27 = .ok (.invokestatic 268, 3) := by decide +kernel
theorem dX11_op_30 : decode cX11_op 30 = .ok (.ireturn, 1) := by decide +kernel
theorem dX12_init_0 : decode cX12_init 0 = .ok (.aload_n 0, 1) := by decide +kernel
theorem dX12_init_1 : decode cX12_init 1 = .ok (.invokespecial 1, 3) := by decide +kernel
theorem dX12_init_4 : decode cX12_init 4 = .ok (.aload_n 0, 1) := by decide +kernel
theorem dX12_init_5 : decode cX12_init 5 = .ok (.sipush 800, 3) := by decide +kernel
theorem dX12_init_8 : decode cX12_init 8 = .ok (.newarray .byte, 2) := by decide +kernel
theorem dX12_init_10 : decode cX12_init 10 = .ok (.putfield 7, 3) := by decide +kernel
theorem dX12_init_13 : decode cX12_init 13 = .ok (.aload_n 0, 1) := by decide +kernel
theorem dX12_init_14 : decode cX12_init 14 = .ok (.iconst (-1), 1) := by decide +kernel
theorem dX12_init_15 : decode cX12_init 15 = .ok (.putfield 13, 3) := by decide +kernel
theorem dX12_init_18 : decode cX12_init 18 = .ok (.aload_n 0, 1) := by decide +kernel
theorem dX12_init_19 : decode cX12_init 19 = .ok (.bipush 73, 2) := by decide +kernel
theorem dX12_init_21 : decode cX12_init 21 = .ok (.newarray .int, 2) := by decide +kernel
theorem dX12_init_23 : decode cX12_init 23 = .ok (.putfield 17, 3) := by decide +kernel
theorem dX12_init_26 : decode cX12_init 26 = .ok (.aload_n 0, 1) := by decide +kernel
theorem dX12_init_27 : decode cX12_init 27 = .ok (.bipush 73, 2) := by decide +kernel
theorem dX12_init_29 : decode cX12_init 29 = .ok (.newarray .int, 2) := by decide +kernel
theorem dX12_init_31 : decode cX12_init 31 = .ok (.putfield 21, 3) := by decide +kernel
theorem dX12_init_34 : decode cX12_init 34 = .ok (.aload_n 0, 1) := by decide +kernel
theorem dX12_init_35 : decode cX12_init 35 = .ok (.sipush 365, 3) := by decide +kernel
theorem dX12_init_38 : decode cX12_init 38 = .ok (.newarray .int, 2) := by decide +kernel
theorem dX12_init_40 : decode cX12_init 40 = .ok (.putfield 24, 3) := by decide +kernel
theorem dX12_init_43 : decode cX12_init 43 = .ok (.aload_n 0, 1) := by decide +kernel
theorem dX12_init_44 : decode cX12_init 44 = .ok (.bipush 73, 2) := by decide +kernel
theorem dX12_init_46 : decode cX12_init 46 = .ok (.newarray .int, 2) := by decide +kernel
theorem dX12_init_48 : decode cX12_init 48 = .ok (.putfield 27, 3) := by decide +kernel
theorem dX12_init_51 : decode cX12_init 51 = .ok (.aload_n 0, 1) := by decide +kernel
theorem dX12_init_52 : decode cX12_init 52 = .ok (.bipush 73, 2) := by decide +kernel
theorem dX12_init_54 : decode cX12_init 54 = .ok (.newarray .int, 2) := by decide +kernel
theorem dX12_init_56 : decode cX12_init 56 = .ok (.putfield 30, 3) := by decide +kernel
theorem dX12_init_59 : decode cX12_init 59 = .ok (.aload_n 0, 1) := by decide +kernel
theorem dX12_init_60 : decode cX12_init 60 = .ok (.sipush 800, 3) := by decide +kernel
theorem dX12_init_63 : decode cX12_init 63 = .ok (.newarray .int, 2) := by decide +kernel
theorem dX12_init_65 : decode cX12_init 65 = .ok (.putfield 33, 3) := by decide +kernel
theorem dX12_init_68 : decode cX12_init 68 = .ok (.aload_n 0, 1) := by decide +kernel
theorem dX12_init_69 : decode cX12_init 69 = .ok (.sipush 800, 3) := by decide +kernel
theorem dX12_init_72 : decode cX12_init 72 = .ok (.newarray .int, 2) := by decide +kernel
theorem dX12_init_74 : decode cX12_init 74 = .ok (.putfield 36, 3) := by decide +kernel
theorem dX12_init_77 : decode cX12_init 77 = .ok (.aload_n 0, 1) := by decide +kernel
theorem dX12_init_78 : decode cX12_init 78 = .ok (.sipush 800, 3) := by decide +kernel
theorem dX12_init_81 : decode cX12_init 81 = .ok (.newarray .int, 2) := by decide +kernel
theorem dX12_init_83 : decode cX12_init 83 = .ok (.putfield 39, 3) := by decide +kernel
theorem dX12_init_86 : decode cX12_init 86 = .ok (.aload_n 0, 1) := by decide +kernel
theorem dX12_init_87 : decode cX12_init 87 = .ok (.sipush 800, 3) := by decide +kernel
theorem dX12_init_90 : decode cX12_init 90 = .ok (.newarray .int, 2) := by decide +kernel
theorem dX12_init_92 : decode cX12_init 92 = .ok (.putfield 42, 3) := by decide +kernel
theorem dX12_init_95 : decode cX12_init 95 = .ok (.aload_n 0, 1) := by decide +kernel
theorem dX12_init_96 : decode cX12_init 96 = .ok (.bipush 73, 2) := by decide +kernel
theorem dX12_init_98 : decode cX12_init 98 = .ok (.newarray .int, 2) := by decide +kernel
theorem dX12_init_100 : decode cX12_init 100 = .ok (.putfield 45, 3) := by decide +kernel
theorem dX12_init_103 : decode cX12_init 103 = .ok (.aload_n 0, 1) := by decide +kernel
theorem dX12_init_104 : decode cX12_init 104 = .ok (.bipush 73, 2) := by decide +kernel
theorem dX12_init_106 : decode cX12_init 106 = .ok (.newarray .int, 2) := by decide +kernel
theorem dX12_init_108 : decode cX12_init 108 = .ok (.putfield 48, 3) := by decide +kernel
theorem dX12_init_111 : decode cX12_init 111 = .ok (.aload_n 0, 1) := by decide +kernel
theorem dX12_init_112 : decode cX12_init 112 = .ok (.sipush 365, 3) := by decide +kernel
theorem dX12_init_115 : decode cX12_init 115 = .ok (.newarray .int, 2) := by decide +kernel
theorem dX12_init_117 : decode cX12_init 117 = .ok (.putfield 51, 3) := by decide +kernel
theorem dX12_init_120 : decode cX12_init 120 = .ok (.aload_n 0, 1) := by decide +kernel
theorem dX12_init_121 : decode cX12_init 121 = .ok (.bipush 73, 2) := by decide +kernel
theorem dX12_init_123 : decode cX12_init 123 = .ok (.newarray .int, 2) := by decide +kernel
theorem dX12_init_125 : decode cX12_init 125 = .ok (.putfield 54, 3) := by decide +kernel
theorem dX12_init_128 : decode cX12_init 128 = .ok (.aload_n 0, 1) := by decide +kernel
theorem dX12_init_129 : decode cX12_init 129 = .ok (.bipush 73, 2) := by decide +kernel
theorem dX12_init_131 : decode cX12_init 131 = .ok (.newarray .int, 2) := by decide +kernel
theorem dX12_init_133 : decode cX12_init 133 = .ok (.putfield 57, 3) := by decide +kernel
theorem dX12_init_136 : decode cX12_init 136 = .ok (.aload_n 0, 1) := by decide +kernel
theorem dX12_init_137 : decode cX12_init 137 = .ok (.sipush 800, 3) := by decide +kernel
theorem dX12_init_140 : decode cX12_init 140 = .ok (.newarray .int, 2) := by decide +kernel
theorem dX12_init_142 : decode cX12_init 142 = .ok (.putfield 60, 3) := by decide +kernel
theorem dX12_init_145 : decode cX12_init 145 = .ok (.aload_n 0, 1) := by decide +kernel
theorem dX12_init_146 : decode cX12_init 146 = .ok (.sipush 800, 3) := by decide +kernel
theorem dX12_init_149 : decode cX12_init 149 = .ok (.newarray .int, 2) := by decide +kernel
theorem dX12_init_151 : decode cX12_init 151 = .ok (.putfield 63, 3) := by decide +kernel
theorem dX12_init_154 : decode cX12_init 154 = .ok (.aload_n 0, 1) := by decide +kernel
theorem dX12_init_155 : decode cX12_init 155 = .ok (.sipush 800, 3) := by decide +kernel
theorem dX12_init_158 : decode cX12_init 158 = .ok (.newarray .int, 2) := by decide +kernel
theorem dX12_init_160 : decode cX12_init 160 = .ok (.putfield 66, 3) := by decide +kernel
theorem dX12_init_163 : decode cX12_init 163 = .ok (.aload_n 0, 1) := by decide +kernel
theorem dX12_init_164 : decode cX12_init 164 = .ok (.bipush 20, 2) := by decide +kernel
theorem dX12_init_166 : decode cX12_init 166 = .ok (.newarray .int, 2) := by decide +kernel
theorem dX12_init_168 : decode cX12_init 168 = .ok (.putfield 69, 3) := by decide +kernel
theorem dX12_init_171 : decode cX12_init 171 = .ok (.aload_n 0, 1) := by decide +kernel
theorem dX12_init_172 : decode cX12_init 172 = .ok (.bipush 20, 2) := by decide +kernel
theorem dX12_init_174 : decode cX12_init 174 = .ok (.newarray .int, 2) := by decide +kernel
theorem dX12_init_176 : decode cX12_init 176 = .ok (.putfield 72, 3) := by decide +kernel
theorem dX12_init_179 : decode cX12_init 179 = .ok (.aload_n 0, 1) := by decide +kernel
theorem dX12_init_180 : decode cX12_init 180 = .ok (.bipush 14, 2) := by decide +kernel
theorem dX12_init_182 : decode cX12_init 182 = .ok (.newarray .int, 2) := by decide +kernel
theorem dX12_init_184 : decode cX12_init 184 = .ok (.putfield 75, 3) := by decide +kernel
theorem dX12_init_187 : decode cX12_init 187 = .ok (.aload_n 0, 1) := by decide +kernel
theorem dX12_init_188 : decode cX12_init 188 = .ok (.bipush 30, 2) := by decide +kernel
theorem dX12_init_190 : decode cX12_init 190 = .ok (.newarray .int, 2) := by decide +kernel
theorem dX12_init_192 : decode cX12_init 192 = .ok (.putfield 78, 3) := by decide +kernel
theorem dX12_init_195 : decode cX12_init 195 = .ok (.aload_n 0, 1) := by decide +kernel
theorem dX12_init_196 : decode cX12_init 196 = .ok (.bipush 30, 2) := by decide +kernel
theorem dX12_init_198 : decode cX12_init 198 = .ok (.newarray .int, 2) := by decide +kernel
theorem dX12_init_200 : decode cX12_init 200 = .ok (.putfield 81, 3) := by decide +kernel
theorem dX12_init_203 : decode cX12_init 203 = .ok (.aload_n 0, 1) := by decide +kernel
theorem dX12_init_204 : decode cX12_init 204 = .ok (.bipush 30, 2) := by decide +kernel
theorem dX12_init_206 : decode cX12_init 206 = .ok (.newarray .int, 2) := by decide +kernel
theorem dX12_init_208 : decode cX12_init 208 = .ok (.putfield 84, 3) := by decide +kernel
theorem dX12_init_211 : decode cX12_init 211 = .ok (.aload_n 0, 1) := by decide +kernel
theorem dX12_init_212 : decode cX12_init 212 = .ok (.bipush 30, 2) := by decide +kernel
theorem dX12_init_214 : decode cX12_init 214 = .ok (.newarray .int, 2) := by decide +kernel
theorem dX12_init_216 : decode cX12_init 216 = .ok (.putfield 87, 3) := by decide +kernel
theorem dX12_init_219 : decode cX12_init 219 = .ok (.aload_n 0, 1) := by decide +kernel
theorem dX12_init_220 : decode cX12_init 220 = .ok (.bipush 30, 2) := by decide +kernel
theorem dX12_init_222 : decode cX12_init 222 = .ok (.newarray .int, 2) := by decide +kernel
theorem dX12_init_224 : decode cX12_init 224 = .ok (.putfield 90, 3) := by decide +kernel
theorem dX12_init_227 : decode cX12_init 227 = .ok (.aload_n 0, 1) := by decide +kernel
theorem dX12_init_228 : decode cX12_init 228 = .ok (.bipush 30, 2) := by decide +kernel
theorem dX12_init_230 : decode cX12_init 230 = .ok (.newarray .int, 2) := by decide +kernel
theorem dX12_init_232 : decode cX12_init 232 = .ok (.putfield 93, 3) := by decide +kernel
theorem dX12_init_235 : decode cX12_init 235 = .ok (.aload_n 0, 1) := by decide +kernel
theorem dX12_init_236 : decode cX12_init 236 = .ok (.bipush 30, 2) := by decide +kernel
theorem dX12_init_238 : decode cX12_init 238 = .ok (.newarray .int, 2) := by decide +kernel
theorem dX12_init_240 : decode cX12_init 240 = .ok (.putfield 96, 3) := by decide +kernel
theorem dX12_init_243 : decode cX12_init 243 = .ok (.aload_n 0, 1) := by decide +kernel
theorem dX12_init_244 : decode cX12_init 244 = .ok (.iconst 1, 1) := by decide +kernel
theorem dX12_init_245 : decode cX12_init 245 = .ok (.putfield 99, 3) := by decide +kernel
theorem dX12_init_248 : decode cX12_init 248 = .ok (.aload_n 0, 1) := by decide +kernel
theorem dX12_init_249 : decode cX12_init 249 = .ok (.iconst 3, 1) := by decide +kernel
theorem dX12_init_250 : decode cX12_init 250 = .ok (.newarray .int, 2) := by decide +kernel
theorem dX12_init_252 : decode cX12_init 252 = .ok (.dup, 1) := by decide +kernel
theorem dX12_init_253 : decode cX12_init 253 = .ok (.iconst 0, 1) := by decide +kernel
theorem dX12_init_254 : decode cX12_init 254 = .ok (.bipush 6, 2) := by decide +kernel
theorem dX12_init_256 : decode cX12_init 256 = .ok (.iastore, 1) := by decide +kernel
theorem dX12_init_257 : decode cX12_init 257 = .ok (.dup, 1) := by decide +kernel
theorem dX12_init_258 : decode cX12_init 258 = .ok (.iconst 1, 1) := by decide +kernel
theorem dX12_init_259 : decode cX12_init 259 = .ok (.iconst 3, 1) := by decide +kernel
theorem dX12_init_260 : decode cX12_init 260 = .ok (.iastore, 1) := by decide +kernel
theorem dX12_init_261 : decode cX12_init 261 = .ok (.dup, 1) := by decide +kernel
theorem dX12_init_262 : decode cX12_init 262 = .ok (.iconst 2, 1) := by decide +kernel
theorem dX12_init_263 : decode cX12_init 263 = .ok (.bipush 120, 2) := by decide +kernel
theorem dX12_init_265 : decode cX12_init 265 = .ok (.iastore, 1) := by decide +kernel
theorem dX12_init_266 : decode cX12_init 266 = .ok (.putfield 102, 3) := by decide +kernel
theorem dX12_init_269 : decode cX12_init 269 = .ok (.aload_n 0, 1) := by decide +kernel
theorem dX12_init_270 : decode cX12_init 270 = .ok (.ldc 105, 2) := by decide +kernel
theorem dX12_init_272 : decode cX12_init 272 = .ok (.newarray .int, 2) := by decide +kernel
theorem dX12_init_274 : decode cX12_init 274 = .ok (.putfield 106, 3) := by decide +kernel
theorem dX12_init_277 : decode cX12_init 277 = .ok (.aload_n 0, 1) := by decide +kernel
theorem dX12_init_278 : decode cX12_init 278 = .ok (.ldc 105, 2) := by decide +kernel
theorem dX12_init_280 : decode cX12_init 280 = .ok (.newarray .int, 2) := by decide +kernel
theorem dX12_init_282 : decode cX12_init 282 = .ok (.putfield 109, 3) := by decide +kernel
theorem dX12_init_285 : decode cX12_init 285 = .ok (.aload_n 0, 1) := by decide +kernel
theorem dX12_init_286 : decode cX12_init 286 = .ok (.ldc 105, 2) := by decide +kernel
theorem dX12_init_288 : decode cX12_init 288 = .ok (.newarray .int, 2) := by decide +kernel
theorem dX12_init_290 : decode cX12_init 290 = .ok (.putfield 112, 3) := by decide +kernel
theorem dX12_init_293 : decode cX12_init 293 = .ok (.aload_n 0, 1) := by decide +kernel
theorem dX12_init_294 : decode cX12_init 294 = .ok (.ldc 105, 2) := by decide +kernel
theorem dX12_init_296 : decode cX12_init 296 = .ok (.newarray .int, 2) := by decide +kernel
theorem dX12_init_298 : decode cX12_init 298 = .ok (.putfield 115, 3) := by decide +kernel
theorem dX12_init_301 : decode cX12_init 301 = .ok (.aload_n 0, 1) := by decide +kernel
theorem dX12_init_302 : decode cX12_init 302 = .ok (.ldc 105, 2) := by decide +kernel
theorem dX12_init_304 : decode cX12_init 304 = .ok (.newarray .int, 2) := by decide +kernel
theorem dX12_init_306 : decode cX12_init 306 = .ok (.putfield 118, 3) := by decide +kernel
theorem dX12_init_309 : decode cX12_init 309 = .ok (.aload_n 0, 1) := by decide +kernel
theorem dX12_init_310 : decode cX12_init 310 = .ok (.sipush 300, 3) := by decide +kernel
theorem dX12_init_313 : decode cX12_init 313 = .ok (.newarray .int, 2) := by decide +kernel
theorem dX12_init_315 : decode cX12_init 315 = .ok (.putfield 121, 3) := by decide +kernel
theorem dX12_init_318 : decode cX12_init 318 = .ok (.aload_n 0, 1) := by decide +kernel
theorem dX12_init_319 : decode cX12_init 319 = .ok (.bipush 8, 2) := by decide +kernel
theorem dX12_init_321 : decode cX12_init 321 = .ok (.newarray .int, 2) := by decide +kernel
theorem dX12_init_323 : decode cX12_init 323 = .ok (.putfield 124, 3) := by decide +kernel
theorem dX12_init_326 : decode cX12_init 326 = .ok (.aload_n 0, 1) := by decide +kernel
theorem dX12_init_327 : decode cX12_init 327 = .ok (.sipush 6000, 3) := by decide +kernel
theorem dX12_init_330 : decode cX12_init 330 = .ok (.newarray .int, 2) := by decide +kernel
theorem dX12_init_332 : decode cX12_init 332 = .ok (.putfield 127, 3) := by decide +kernel
theorem dX12_init_335 : decode cX12_init 335 = .ok (.aload_n 0, 1) := by decide +kernel
theorem dX12_init_336 : decode cX12_init 336 = .ok (.sipush 6000, 3) := by decide +kernel
theorem dX12_init_339 : decode cX12_init 339 = .ok (.newarray .int, 2) := by decide +kernel
theorem dX12_init_341 : decode cX12_init 341 = .ok (.putfield 130, 3) := by decide +kernel
theorem dX12_init_344 : decode cX12_init 344 = .ok (.aload_n 0, 1) := by decide +kernel
theorem dX12_init_345 : decode cX12_init 345 = .ok (.sipush 6000, 3) := by decide +kernel
theorem dX12_init_348 : decode cX12_init 348 = .ok (.newarray .int, 2) := by decide +kernel
theorem dX12_init_350 : decode cX12_init 350 = .ok (.putfield 133, 3) := by decide +kernel
theorem dX12_init_353 : decode cX12_init 353 = .ok (.aload_n 0, 1) := by decide +kernel
theorem dX12_init_354 : decode cX12_init 354 = .ok (.sipush 6000, 3) := by decide +kernel
theorem dX12_init_357 : decode cX12_init 357 = .ok (.newarray .int, 2) := by decide +kernel
theorem dX12_init_359 : decode cX12_init 359 = .ok (.putfield 136, 3) := by decide +kernel
theorem dX12_init_362 : decode cX12_init 362 = .ok (.aload_n 0, 1) := by decide +kernel
theorem dX12_init_363 : decode cX12_init 363 = .ok (.sipush 500, 3) := by decide +kernel
theorem dX12_init_366 : decode cX12_init 366 = .ok (.newarray .int, 2) := by decide +kernel
theorem dX12_init_368 : decode cX12_init 368 = .ok (.putfield 139, 3) := by decide +kernel
theorem dX12_init_371 : decode cX12_init 371 = .ok (.aload_n 0, 1) := by decide +kernel
theorem dX12_init_372 : decode cX12_init 372 = .ok (.bipush 8, 2) := by decide +kernel
theorem dX12_init_374 : decode cX12_init 374 = .ok (.newarray .int, 2) := by decide +kernel
theorem dX12_init_376 : decode cX12_init 376 = .ok (.putfield 142, 3) := by decide +kernel
theorem dX12_init_379 : decode cX12_init 379 = .ok (.aload_n 0, 1) := by decide +kernel
theorem dX12_init_380 : decode cX12_init 380 = .ok (.bipush 60, 2) := by decide +kernel
theorem dX12_init_382 : decode cX12_init 382 = .ok (.newarray .int, 2) := by decide +kernel
theorem dX12_init_384 : decode cX12_init 384 = .ok (.putfield 145, 3) := by decide +kernel
theorem dX12_init_387 : decode cX12_init 387 = .ok (.aload_n 0, 1) := by decide +kernel
theorem dX12_init_388 : decode cX12_init 388 = .ok (.bipush 60, 2) := by decide +kernel
theorem dX12_init_390 : decode cX12_init 390 = .ok (.newarray .int, 2) := by decide +kernel
theorem dX12_init_392 : decode cX12_init 392 = .ok (.putfield 148, 3) := by decide +kernel
theorem dX12_init_395 : decode cX12_init 395 = .ok (.aload_n 0, 1) := by decide +kernel
theorem dX12_init_396 : decode cX12_init 396 = .ok (.iconst 5, 1) := by decide +kernel
theorem dX12_init_397 : decode cX12_init 397 = .ok (.newarray .int, 2) := by decide +kernel
theorem dX12_init_399 : decode cX12_init 399 = .ok (.putfield 151, 3) := by decide +kernel
theorem dX12_init_402 : decode cX12_init 402 = .ok (.aload_n 0, 1) := by decide +kernel
theorem dX12_init_403 : decode cX12_init 403 = .ok (.sipush 960, 3) := by decide +kernel
theorem dX12_init_406 : decode cX12_init 406 = .ok (.newarray .int, 2) := by decide +kernel
theorem dX12_init_408 : decode cX12_init 408 = .ok (.putfield 154, 3) := by decide +kernel
theorem dX12_init_411 : decode cX12_init 411 = .ok (.aload_n 0, 1) := by decide +kernel
theorem dX12_init_412 : decode cX12_init 412 = .ok (.sipush 960, 3) := by decide +kernel
theorem dX12_init_415 : decode cX12_init 415 = .ok (.newarray .int, 2) := by decide +kernel
theorem dX12_init_417 : decode cX12_init 417 = .ok (.putfield 157, 3) := by decide +kernel
theorem dX12_init_420 : decode cX12_init 420 = .ok (.aload_n 0, 1) := by decide +kernel
theorem dX12_init_421 : decode cX12_init 421 = .ok (.sipush 960, 3) := by decide +kernel
theorem dX12_init_424 : decode cX12_init 424 = .ok (.newarray .int, 2) := by decide +kernel
theorem dX12_init_426 : decode cX12_init 426 = .ok (.putfield 160, 3) := by decide +kernel
theorem dX12_init_429 : decode cX12_init 429 = .ok (.aload_n 0, 1) := by decide +kernel
theorem dX12_init_430 : decode cX12_init 430 = .ok (.sipush 960, 3) := by decide +kernel
theorem dX12_init_433 : decode cX12_init 433 = .ok (.newarray .int, 2) := by decide +kernel
theorem dX12_init_435 : decode cX12_init 435 = .ok (.putfield 163, 3) := by decide +kernel
theorem dX12_init_438 : decode cX12_init 438 = .ok (.aload_n 0, 1) := by decide +kernel
theorem dX12_init_439 : decode cX12_init 439 = .ok (.sipush 960, 3) := by decide +kernel
theorem dX12_init_442 : decode cX12_init 442 = .ok (.newarray .int, 2) := by decide +kernel
theorem dX12_init_444 : decode cX12_init 444 = .ok (.putfield 166, 3) := by decide +kernel
theorem dX12_init_447 : decode cX12_init 447 = .ok (.aload_n 0, 1) := by decide +kernel
theorem dX12_init_448 : decode cX12_init 448 = .ok (.sipush 960, 3) := by decide +kernel
theorem dX12_init_451 : decode cX12_init 451 = .ok (.newarray .int, 2) := by decide +kernel
theorem dX12_init_453 : decode cX12_init 453 = .ok (.putfield 169, 3) := by decide +kernel
theorem dX12_init_456 : decode cX12_init 456 = .ok (.aload_n 0, 1) := by decide +kernel
theorem dX12_init_457 : decode cX12_init 457 = .ok (.sipush 960, 3) := by decide +kernel
theorem dX12_init_460 : decode cX12_init 460 = .ok (.newarray .int, 2) := by decide +kernel
theorem dX12_init_462 : decode cX12_init 462 = .ok (.putfield 172, 3) := by decide +kernel
theorem dX12_init_465 : decode cX12_init 465 = .ok (.aload_n 0, 1) := by decide +kernel
theorem dX12_init_466 : decode cX12_init 466 = .ok (.sipush 4200, 3) := by decide +kernel
theorem dX12_init_469 : decode cX12_init 469 = .ok (.newarray .int, 2) := by decide +kernel
theorem dX12_init_471 : decode cX12_init 471 = .ok (.putfield 175, 3) := by decide +kernel
theorem dX12_init_474 : decode cX12_init 474 = .ok (.aload_n 0, 1) := by decide +kernel
theorem dX12_init_475 : decode cX12_init 475 = .ok (.sipush 4200, 3) := by decide +kernel
theorem dX12_init_478 : decode cX12_init 478 = .ok (.newarray .int, 2) := by decide +kernel
theorem dX12_init_480 : decode cX12_init 480 = .ok (.putfield 178, 3) := by decide +kernel
theorem dX12_init_483 : decode cX12_init 483 = .ok (.aload_n 0, 1) := by decide +kernel
theorem dX12_init_484 : decode cX12_init 484 = .ok (.sipush 200, 3) := by decide +kernel
theorem dX12_init_487 : decode cX12_init 487 = .ok (.newarray .int, 2) := by decide +kernel
theorem dX12_init_489 : decode cX12_init 489 = .ok (.putfield 181, 3) := by decide +kernel
theorem dX12_init_492 : decode cX12_init 492 = .ok (.aload_n 0, 1) := by decide +kernel
theorem dX12_init_493 : decode cX12_init 493 = .ok (.sipush 200, 3) := by decide +kernel
theorem dX12_init_496 : decode cX12_init 496 = .ok (.newarray .int, 2) := by decide +kernel
theorem dX12_init_498 : decode cX12_init 498 = .ok (.putfield 184, 3) := by decide +kernel
theorem dX12_init_501 : decode cX12_init 501 = .ok (.aload_n 0, 1) := by decide +kernel
theorem dX12_init_502 : decode cX12_init 502 = .ok (.bipush 25, 2) := by decide +kernel
theorem dX12_init_504 : decode cX12_init 504 = .ok (.newarray .int, 2) := by decide +kernel
theorem dX12_init_506 : decode cX12_init 506 = .ok (.putfield 187, 3) := by decide +kernel
theorem dX12_init_509 : decode cX12_init 509 = .ok (.aload_n 0, 1) := by decide +kernel
theorem dX12_init_510 : decode cX12_init 510 = .ok (.bipush 25, 2) := by decide +kernel
theorem dX12_init_512 : decode cX12_init 512 = .ok (.newarray .int, 2) := by decide +kernel
theorem dX12_init_514 : decode cX12_init 514 = .ok (.putfield 190, 3) := by decide +kernel
theorem dX12_init_517 : decode cX12_init 517 = .ok (.aload_n 0, 1) := by decide +kernel
theorem dX12_init_518 : decode cX12_init 518 = .ok (.bipush 25, 2) := by decide +kernel
theorem dX12_init_520 : decode cX12_init 520 = .ok (.newarray .int, 2) := by decide +kernel
theorem dX12_init_522 : decode cX12_init 522 = .ok (.putfield 193, 3) := by decide +kernel
theorem dX12_init_525 : decode cX12_init 525 = .ok (.aload_n 0, 1) := by decide +kernel
theorem dX12_init_526 : decode cX12_init 526 = .ok (.sipush 5250, 3) := by decide +kernel
theorem dX12_init_529 : decode cX12_init 529 = .ok (.newarray .int, 2) := by decide +kernel
theorem dX12_init_531 : decode cX12_init 531 = .ok (.putfield 196, 3) := by decide +kernel
theorem dX12_init_534 : decode cX12_init 534 = .ok (.aload_n 0, 1) := by decide +kernel
theorem dX12_init_535 : decode cX12_init 535 = .ok (.sipush 5250, 3) := by decide +kernel
theorem dX12_init_538 : decode cX12_init 538 = .ok (.newarray .int, 2) := by decide +kernel
theorem dX12_init_540 : decode cX12_init 540 = .ok (.putfield 199, 3) := by decide +kernel
theorem dX12_init_543 : decode cX12_init 543 = .ok (.aload_n 0, 1) := by decide +kernel
theorem dX12_init_544 : decode cX12_init 544 = .ok (.bipush 25, 2) := by decide +kernel
theorem dX12_init_546 : decode cX12_init 546 = .ok (.newarray .int, 2) := by decide +kernel
theorem dX12_init_548 : decode cX12_init 548 = .ok (.putfield 202, 3) := by decide +kernel
theorem dX12_init_551 : decode cX12_init 551 = .ok (.aload_n 0, 1) := by decide +kernel
theorem dX12_init_552 : decode cX12_init 552 = .ok (.bipush 25, 2) := by decide +kernel
theorem dX12_init_554 : decode cX12_init 554 = .ok (.newarray .int, 2) := by decide +kernel
theorem dX12_init_556 : decode cX12_init 556 = .ok (.putfield 205, 3) := by decide +kernel
theorem dX12_init_559 : decode cX12_init 559 = .ok (.aload_n 0, 1) := by decide +kernel
theorem dX12_init_560 : decode cX12_init 560 = .ok (.bipush 25, 2) := by decide +kernel
theorem dX12_init_562 : decode cX12_init 562 = .ok (.newarray .int, 2) := by decide +kernel
theorem dX12_init_564 : decode cX12_init 564 = .ok (.putfield 208, 3) := by decide +kernel
theorem dX12_init_567 : decode cX12_init 567 = .ok (.aload_n 0, 1) := by decide +kernel
theorem dX12_init_568 : decode cX12_init 568 = .ok (.bipush 25, 2) := by decide +kernel
theorem dX12_init_570 : decode cX12_init 570 = .ok (.newarray .int, 2) := by decide +kernel
theorem dX12_init_572 : decode cX12_init 572 = .ok (.putfield 211, 3) := by decide +kernel
theorem dX12_init_575 : decode cX12_init 575 = .ok (.aload_n 0, 1) := by decide +kernel
theorem dX12_init_576 : decode cX12_init 576 = .ok (.bipush 25, 2) := by decide +kernel
theorem dX12_init_578 : decode cX12_init 578 = .ok (.newarray .int, 2) := by decide +kernel
theorem dX12_init_580 : decode cX12_init 580 = .ok (.putfield 214, 3) := by decide +kernel
theorem dX12_init_583 : decode cX12_init 583 = .ok (.aload_n 0, 1) := by decide +kernel
theorem dX12_init_584 : decode cX12_init 584 = .ok (.sipush 210, 3) := by decide +kernel
theorem dX12_init_587 : decode cX12_init 587 = .ok (.newarray .int, 2) := by decide +kernel
theorem dX12_init_589 : decode cX12_init 589 = .ok (.putfield 217, 3) := by decide +kernel
theorem dX12_init_592 : decode cX12_init 592 = .ok (.aload_n 0, 1) := by decide +kernel
theorem dX12_init_593 : decode cX12_init 593 = .ok (.sipush 210, 3) := by decide +kernel
theorem dX12_init_596 : decode cX12_init 596 = .ok (.newarray .int, 2) := by decide +kernel
theorem dX12_init_598 : decode cX12_init 598 = .ok (.putfield 220, 3) := by decide +kernel
theorem dX12_init_601 : decode cX12_init 601 = .ok (.aload_n 0, 1) := by decide +kernel
theorem dX12_init_602 : decode cX12_init 602 = .ok (.sipush 210, 3) := by decide +kernel
theorem dX12_init_605 : decode cX12_init 605 = .ok (.newarray .int, 2) := by decide +kernel
theorem dX12_init_607 : decode cX12_init 607 = .ok (.putfield 223, 3) := by decide +kernel
theorem dX12_init_610 : decode cX12_init 610 = .ok (.aload_n 0, 1) := by decide +kernel
theorem dX12_init_611 : decode cX12_init 611 = .ok (.sipush 210, 3) := by decide +kernel
theorem dX12_init_614 : decode cX12_init 614 = .ok (.newarray .int, 2) := by decide +kernel
theorem dX12_init_616 : decode cX12_init 616 = .ok (.putfield 226, 3) := by decide +kernel
theorem dX12_init_619 : decode cX12_init 619 = .ok (.aload_n 0, 1) := by decide +kernel
theorem dX12_init_620 : decode cX12_init 620 = .ok (.sipush 210, 3) := by decide +kernel
theorem dX12_init_623 : decode cX12_init 623 = .ok (.newarray .int, 2) := by decide +kernel
theorem dX12_init_625 : decode cX12_init 625 = .ok (.putfield 229, 3) := by decide +kernel
theorem dX12_init_628 : decode cX12_init 628 = .ok (.aload_n 0, 1) := by decide +kernel
theorem dX12_init_629 : decode cX12_init 629 = .ok (.sipush 210, 3) := by decide +kernel
theorem dX12_init_632 : decode cX12_init 632 = .ok (.newarray .int, 2) := by decide +kernel
theorem dX12_init_634 : decode cX12_init 634 = .ok (.putfield 232, 3) := by decide +kernel
theorem dX12_init_637 : decode cX12_init 637 = .ok (.aload_n 0, 1) := by decide +kernel
theorem dX12_init_638 : decode cX12_init 638 = .ok (.bipush 6, 2) := by decide +kernel
theorem dX12_init_640 : decode cX12_init 640 = .ok (.newarray .int, 2) := by decide +kernel
theorem dX12_init_642 : decode cX12_init 642 = .ok (.putfield 235, 3) := by decide +kernel
theorem dX12_init_645 : decode cX12_init 645 = .ok (.aload_n 0, 1) := by decide +kernel
theorem dX12_init_646 : decode cX12_init 646 = .ok (.bipush 41, 2) := by decide +kernel
theorem dX12_init_648 : decode cX12_init 648 = .ok (.newarray .int, 2) := by decide +kernel
theorem dX12_init_650 : decode cX12_init 650 = .ok (.putfield 238, 3) := by decide +kernel
theorem dX12_init_653 : decode cX12_init 653 = .ok (.aload_n 0, 1) := by decide +kernel
theorem dX12_init_654 : decode cX12_init 654 = .ok (.bipush 41, 2) := by decide +kernel
theorem dX12_init_656 : decode cX12_init 656 = .ok (.newarray .int, 2) := by decide +kernel
theorem dX12_init_658 : decode cX12_init 658 = .ok (.putfield 241, 3) := by decide +kernel
theorem dX12_init_661 : decode cX12_init 661 = .ok (.aload_n 0, 1) := by decide +kernel
theorem dX12_init_662 : decode cX12_init 662 = .ok (.sipush 10000, 3) := by decide +kernel
theorem dX12_init_665 : decode cX12_init 665 = .ok (.newarray .int, 2) := by decide +kernel
theorem dX12_init_667 : decode cX12_init 667 = .ok (.putfield 244, 3) := by decide +kernel
theorem dX12_init_670 : decode cX12_init 670 = .ok (.aload_n 0, 1) := by decide +kernel
theorem dX12_init_671 : decode cX12_init 671 = .ok (.bipush 31, 2) := by decide +kernel
theorem dX12_init_673 : decode cX12_init 673 = .ok (.newarray .int, 2) := by decide +kernel
theorem dX12_init_675 : decode cX12_init 675 = .ok (.putfield 247, 3) := by decide +kernel
theorem dX12_init_678 : decode cX12_init 678 = .ok (.aload_n 0, 1) := by decide +kernel
theorem dX12_init_679 : decode cX12_init 679 = .ok (.bipush 31, 2) := by decide +kernel
theorem dX12_init_681 : decode cX12_init 681 = .ok (.newarray .int, 2) := by decide +kernel
theorem dX12_init_683 : decode cX12_init 683 = .ok (.putfield 250, 3) := by decide +kernel
theorem dX12_init_686 : decode cX12_init 686 = .ok (.aload_n 0, 1) := by decide +kernel
theorem dX12_init_687 : decode cX12_init 687 = .ok (.bipush 60, 2) := by decide +kernel
theorem dX12_init_689 : decode cX12_init 689 = .ok (.newarray .int, 2) := by decide +kernel
theorem dX12_init_691 : decode cX12_init 691 = .ok (.putfield 253, 3) := by decide +kernel
theorem dX12_init_694 : decode cX12_init 694 = .ok (.aload_n 0, 1) := by decide +kernel
theorem dX12_init_695 : decode cX12_init 695 = .ok (.bipush 60, 2) := by decide +kernel
theorem dX12_init_697 : decode cX12_init 697 = .ok (.newarray .int, 2) := by decide +kernel
theorem dX12_init_699 : decode cX12_init 699 = .ok (.putfield 256, 3) := by decide +kernel
theorem dX12_init_702 : decode cX12_init 702 = .ok (.aload_n 0, 1) := by decide +kernel
theorem dX12_init_703 : decode cX12_init 703 = .ok (.bipush 8, 2) := by decide +kernel
theorem dX12_init_705 : decode cX12_init 705 = .ok (.newarray .int, 2) := by decide +kernel
theorem dX12_init_707 : decode cX12_init 707 = .ok (.putfield 259, 3) := by decide +kernel
theorem dX12_init_710 : decode cX12_init 710 = .ok (.aload_n 0, 1) := by decide +kernel
theorem dX12_init_711 : decode cX12_init 711 = .ok (.bipush 41, 2) := by decide +kernel
theorem dX12_init_713 : decode cX12_init 713 = .ok (.newarray .int, 2) := by decide +kernel
theorem dX12_init_715 : decode cX12_init 715 = .ok (.putfield 262, 3) := by decide +kernel
theorem dX12_init_718 : decode cX12_init 718 = .ok (.aload_n 0, 1) := by decide +kernel
theorem dX12_init_719 : decode cX12_init 719 = .ok (.bipush 41, 2) := by decide +kernel
theorem dX12_init_721 : decode cX12_init 721 = .ok (.newarray .int, 2) := by decide +kernel
theorem dX12_init_723 : decode cX12_init 723 = .ok (.putfield 265, 3) := by decide +kernel
theorem dX12_init_726 : decode cX12_init 726 = .ok (.aload_n 0, 1) := by decide +kernel
theorem dX12_init_727 : decode cX12_init 727 = .ok (.bipush 101, 2) := by decide +kernel
theorem dX12_init_729 : decode cX12_init 729 = .ok (.newarray .int, 2) := by decide +kernel
theorem dX12_init_731 : decode cX12_init 731 = .ok (.putfield 268, 3) := by decide +kernel
theorem dX12_init_734 : decode cX12_init 734 = .ok (.aload_n 0, 1) := by decide +kernel
theorem dX12_init_735 : decode cX12_init 735 = .ok (.bipush 101, 2) := by decide +kernel
theorem dX12_init_737 : decode cX12_init 737 = .ok (.newarray .int, 2) := by decide +kernel
theorem dX12_init_739 : decode cX12_init 739 = .ok (.putfield 271, 3) := by decide +kernel
theorem dX12_init_742 : decode cX12_init 742 = .ok (.aload_n 0, 1) := by decide +kernel
theorem dX12_init_743 : decode cX12_init 743 = .ok (.bipush 8, 2) := by decide +kernel
theorem dX12_init_745 : decode cX12_init 745 = .ok (.newarray .int, 2) := by decide +kernel
theorem dX12_init_747 : decode cX12_init 747 = .ok (.putfield 274, 3) := by decide +kernel
theorem dX12_init_750 : decode cX12_init 750 = .ok (.aload_n 0, 1) := by decide +kernel
theorem dX12_init_751 : decode cX12_init 751 = .ok (.bipush 6, 2) := by decide +kernel
theorem dX12_init_753 : decode cX12_init 753 = .ok (.newarray .int, 2) := by decide +kernel
theorem dX12_init_755 : decode cX12_init 755 = .ok (.putfield 277, 3) := by decide +kernel
theorem dX12_init_758 : decode cX12_init 758 = .ok (.aload_n 0, 1) := by decide +kernel
theorem dX12_init_759 : decode cX12_init 759 = .ok (.ldc_w 280, 3) := by decide +kernel
theorem dX12_init_762 : decode cX12_init 762 = .ok (.newarray .byte, 2) := by decide +kernel
theorem dX12_init_764 : decode cX12_init 764 = .ok (.putfield 281, 3) := by decide +kernel
theorem dX12_init_767 : decode cX12_init 767 = .ok (.aload_n 0, 1) := by decide +kernel
theorem dX12_init_768 : decode cX12_init 768 = .ok (.sipush 210, 3) := by decide +kernel
theorem dX12_init_771 : decode cX12_init 771 = .ok (.newarray .int, 2) := by decide +kernel
theorem dX12_init_773 : decode cX12_init 773 = .ok (.putfield 284, 3) := by decide +kernel
theorem dX12_init_776 : decode cX12_init 776 = .ok (.return_, 1) := by decide +kernel
theorem dX12_isIn_0 : decode cX12_isIn 0 = .ok (.iload_n 0, 1) := by decide +kernel
theorem dX12_isIn_1 : decode cX12_isIn 1 = .ok (.iload_n 1, 1) := by decide +kernel
theorem dX12_isIn_2 : decode cX12_isIn 2 = .ok (.if_icmp .lt 12, 3) := by decide +kernel
theorem dX12_isIn_5 : decode cX12_isIn 5 = .ok (.iload_n 0, 1) := by decide +kernel
theorem dX12_isIn_6 : decode cX12_isIn 6 = .ok (.iload_n 2, 1) := by decide +kernel
theorem dX12_isIn_7 : decode cX12_isIn 7 = .ok (.if_icmp .gt 7, 3) := by decide +kernel
theorem dX12_isIn_10 : decode cX12_isIn 10 = .ok (.iconst 1, 1) := by decide +kernel
theorem dX12_isIn_11 : decode cX12_isIn 11 = .ok (.goto 4, 3) := by decide +kernel
theorem dX12_isIn_14 : decode cX12_isIn 14 = .ok (.iconst 0, 1) := by decide +kernel
theorem dX12_isIn_15 : decode cX12_isIn 15 = .ok (.ireturn, 1) := by decide +kernel
theorem dX12_floatOf_0 : decode cX12_floatOf 0 = .ok (.iload_n 0, 1) := by decide +kernel
theorem dX12_floatOf_1 : decode cX12_floatOf 1 = .ok (.iconst 1, 1) := by decide +kernel
theorem dX12_floatOf_2 : decode cX12_floatOf 2 = .ok (.if_icmp .eq 11, 3) := by decide +kernel
theorem dX12_floatOf_5 : decode cX12_floatOf 5 = .ok (.iload_n 1, 1) := by decide +kernel
theorem dX12_floatOf_6 : decode cX12_floatOf 6 = .ok (.i2f, 1) := by decide +kernel
theorem dX12_floatOf_7 : decode cX12_floatOf 7 = .ok (.invokestatic 287, 3) := by decide +kernel
theorem dX12_floatOf_10 : decode cX12_floatOf 10 = .ok (.goto 17, 3) := by decide +kernel
theorem dX12_floatOf_13 : decode cX12_floatOf 13 = .ok (.iload_n 1, 1) := by decide +kernel
theorem dX12_floatOf_14 : decode cX12_floatOf 14 = .ok (.invokestatic 291, 3) := by decide +kernel
theorem dX12_floatOf_17 : decode cX12_floatOf 17 = .ok (.ifCond .eq 9, 3) := by decide +kernel
theorem dX12_floatOf_20 : decode cX12_floatOf 20 = .ok (.ldc_w 295, 3) := by decide +kernel
theorem dX12_floatOf_23 : decode cX12_floatOf 23 = .ok (.goto 4, 3) := by decide +kernel
theorem dX12_floatOf_26 : decode cX12_floatOf 26 = .ok (.iload_n 1, 1) := by decide +kernel
theorem dX12_floatOf_27 : decode cX12_floatOf 27 = .ok (.ireturn, 1) := by decide +kernel
theorem dX12_intOf_0 : decode cX12_intOf 0 = .ok (.iload_n 0, 1) := by decide +kernel
theorem dX12_intOf_1 : decode cX12_intOf 1 = .ok (.iconst 1, 1) := by decide +kernel
theorem dX12_intOf_2 : decode cX12_intOf 2 = .ok (.if_icmp .eq 7, 3) := by decide +kernel
theorem dX12_intOf_5 : decode cX12_intOf 5 = .ok (.iload_n 1, 1) := by decide +kernel
theorem dX12_intOf_6 : decode cX12_intOf 6 = .ok (.goto 19, 3) := by decide +kernel
theorem dX12_intOf_9 : decode cX12_intOf 9 = .ok (.iload_n 1, 1) := by decide +kernel
theorem dX12_intOf_10 : decode cX12_intOf 10 = .ok (.invokestatic 291, 3) := by decide +kernel
theorem dX12_intOf_13 : decode cX12_intOf 13 = .ok (.ifCond .eq 7, 3) := by decide +kernel
theorem dX12_intOf_16 : decode cX12_intOf 16 = .ok (.iconst 0, 1) := by decide +kernel
theorem dX12_intOf_17 : decode cX12_intOf 17 = .ok (.goto 8, 3) := by decide +kernel
theorem dX12_intOf_20 : decode cX12_intOf 20 = .ok (.iload_n 1, 1) := by decide +kernel
theorem dX12_intOf_21 : decode cX12_intOf 21 = .ok (.invokestatic 296, 3) := by decide +kernel
theorem dX12_intOf_24 : decode cX12_intOf 24 = .ok (.f2i, 1) := by decide +kernel
theorem dX12_intOf_25 : decode cX12_intOf 25 = .ok (.ireturn, 1) := by decide +kernel
theorem dX12_bitsOf_0 : decode cX12_bitsOf 0 = .ok (.fload_n 0, 1) := by decide +kernel
theorem dX12_bitsOf_1 : decode cX12_bitsOf 1 = .ok (.invokestatic 302, 3) := by decide +kernel
theorem dX12_bitsOf_4 : decode cX12_bitsOf 4 = .ok (.ireturn, 1) := by decide +kernel
theorem dX12_give_0 : decode cX12_give 0 = .ok (.aload_n 0, 1) := by decide +kernel
theorem dX12_give_1 : decode cX12_give 1 = .ok (.iload_n 1, 1) := by decide +kernel
theorem dX12_give_2 : decode cX12_give 2 = .ok (.putfield 305, 3) := by decide +kernel
theorem dX12_give_5 : decode cX12_give 5 = .ok (.aload_n 0, 1) := by decide +kernel
theorem dX12_give_6 : decode cX12_give 6 = .ok (.iload_n 2, 1) := by decide +kernel
theorem dX12_give_7 : decode cX12_give 7 = .ok (.putfield 308, 3) := by decide +kernel
theorem dX12_give_10 : decode cX12_give 10 = .ok (.return_, 1) := by decide +kernel
theorem dX12_wholes_0 : decode cX12_wholes 0 = .ok (.iload_n 0, 1) := by decide +kernel
theorem dX12_wholes_1 : decode cX12_wholes 1 = .ok (.tableswitch 43 42 45 #[39, 31, 43, 35], 31) := by decide +kernel
theorem dX12_wholes_32 : decode cX12_wholes 32 = .ok (.iload_n 1, 1) := by decide +kernel
theorem dX12_wholes_33 : decode cX12_wholes 33 = .ok (.iload_n 2, 1) := by decide +kernel
theorem dX12_wholes_34 : decode cX12_wholes 34 = .ok (.iadd, 1) := by decide +kernel
theorem dX12_wholes_35 : decode cX12_wholes 35 = .ok (.ireturn, 1) := by decide +kernel
theorem dX12_wholes_36 : decode cX12_wholes 36 = .ok (.iload_n 1, 1) := by decide +kernel
theorem dX12_wholes_37 : decode cX12_wholes 37 = .ok (.iload_n 2, 1) := by decide +kernel
theorem dX12_wholes_38 : decode cX12_wholes 38 = .ok (.isub, 1) := by decide +kernel
theorem dX12_wholes_39 : decode cX12_wholes 39 = .ok (.ireturn, 1) := by decide +kernel
theorem dX12_wholes_40 : decode cX12_wholes 40 = .ok (.iload_n 1, 1) := by decide +kernel
theorem dX12_wholes_41 : decode cX12_wholes 41 = .ok (.iload_n 2, 1) := by decide +kernel
theorem dX12_wholes_42 : decode cX12_wholes 42 = .ok (.imul, 1) := by decide +kernel
theorem dX12_wholes_43 : decode cX12_wholes 43 = .ok (.ireturn, 1) := by decide +kernel
theorem dX12_wholes_44 : decode cX12_wholes 44 = .ok (.iload_n 2, 1) := by decide +kernel
theorem dX12_wholes_45 : decode cX12_wholes 45 = .ok (.ifCond .ne 7, 3) := by decide +kernel
theorem dX12_wholes_48 : decode cX12_wholes 48 = .ok (.iconst 0, 1) := by decide +kernel
theorem dX12_wholes_49 : decode cX12_wholes 49 = .ok (.goto 6, 3) := by decide +kernel
theorem dX12_wholes_52 : decode cX12_wholes 52 = .ok (.iload_n 1, 1) := by decide +kernel
theorem dX12_wholes_53 : decode cX12_wholes 53 = .ok (.iload_n 2, 1) := by decide +kernel
theorem dX12_wholes_54 : decode cX12_wholes 54 = .ok (.idiv, 1) := by decide +kernel
theorem dX12_wholes_55 : decode cX12_wholes 55 = .ok (.ireturn, 1) := by decide +kernel
theorem dX12_isNan_0 : decode cX12_isNan 0 = .ok (.iload_n 0, 1) := by decide +kernel
theorem dX12_isNan_1 : decode cX12_isNan 1 = .ok (.ldc_w 311, 3) := by decide +kernel
theorem dX12_isNan_4 : decode cX12_isNan 4 = .ok (.iand, 1) := by decide +kernel
theorem dX12_isNan_5 : decode cX12_isNan 5 = .ok (.ldc_w 312, 3) := by decide +kernel
theorem dX12_isNan_8 : decode cX12_isNan 8 = .ok (.if_icmp .le 7, 3) := by decide +kernel
theorem dX12_isNan_11 : decode cX12_isNan 11 = .ok (.iconst 1, 1) := by decide +kernel
theorem dX12_isNan_12 : decode cX12_isNan 12 = .ok (.goto 4, 3) := by decide +kernel
theorem dX12_isNan_15 : decode cX12_isNan 15 = .ok (.iconst 0, 1) := by decide +kernel
theorem dX12_isNan_16 : decode cX12_isNan 16 = .ok (.ireturn, 1) := by decide +kernel
theorem dX12_isInfinite_0 : decode cX12_isInfinite 0 = .ok (.iload_n 0, 1) := by decide +kernel
theorem dX12_isInfinite_1 : decode cX12_isInfinite 1 = .ok (.ldc_w 311, 3) := by decide +kernel
theorem dX12_isInfinite_4 : decode cX12_isInfinite 4 = .ok (.iand, 1) := by decide +kernel
theorem dX12_isInfinite_5 : decode cX12_isInfinite 5 = .ok (.ldc_w 312, 3) := by decide +kernel
theorem dX12_isInfinite_8 : decode cX12_isInfinite 8 = .ok (.if_icmp .ne 7, 3) := by decide +kernel
theorem dX12_isInfinite_11 : decode cX12_isInfinite 11 = .ok (.iconst 1, 1) := by decide +kernel
theorem dX12_isInfinite_12 : decode cX12_isInfinite 12 = .ok (.goto 4, 3) := by decide +kernel
theorem dX12_isInfinite_15 : decode cX12_isInfinite 15 = .ok (.iconst 0, 1) := by decide +kernel
theorem dX12_isInfinite_16 : decode cX12_isInfinite 16 = .ok (.ireturn, 1) := by decide +kernel
theorem dX12_isNoNumber_0 : decode cX12_isNoNumber 0 = .ok (.iload_n 1, 1) := by decide +kernel
theorem dX12_isNoNumber_1 : decode cX12_isNoNumber 1 = .ok (.invokestatic 291, 3) := by decide +kernel
theorem dX12_isNoNumber_4 : decode cX12_isNoNumber 4 = .ok (.ifCond .ne 10, 3) := by decide +kernel
theorem dX12_isNoNumber_7 : decode cX12_isNoNumber 7 = .ok (.iload_n 2, 1) := by decide +kernel
theorem dX12_isNoNumber_8 : decode cX12_isNoNumber 8 = .ok (.invokestatic 291, 3) := by decide +kernel
theorem dX12_isNoNumber_11 : decode cX12_isNoNumber 11 = .ok (.ifCond .eq 5, 3) := by decide +kernel
theorem dX12_isNoNumber_14 : decode cX12_isNoNumber 14 = .ok (.iconst 1, 1) := by decide +kernel
theorem dX12_isNoNumber_15 : decode cX12_isNoNumber 15 = .ok (.ireturn, 1) := by decide +kernel
theorem dX12_isNoNumber_16 : decode cX12_isNoNumber 16 = .ok (.iload_n 1, 1) := by decide +kernel
theorem dX12_isNoNumber_17 : decode cX12_isNoNumber 17 = .ok (.invokestatic 313, 3) := by decide +kernel
theorem dX12_isNoNumber_20 : decode cX12_isNoNumber 20 = .ok (.ifCond .eq 14, 3) := by decide +kernel
theorem dX12_isNoNumber_23 : decode cX12_isNoNumber 23 = .ok (.iload_n 2, 1) := by decide +kernel
theorem dX12_isNoNumber_24 : decode cX12_isNoNumber 24 = .ok (.invokestatic 313, 3) := by decide +kernel
theorem dX12_isNoNumber_27 : decode cX12_isNoNumber 27 = .ok (.ifCond .eq 7, 3) := by decide +kernel
theorem dX12_isNoNumber_30 : decode cX12_isNoNumber 30 = .ok (.iconst 1, 1) := by decide +kernel
theorem dX12_isNoNumber_31 : decode cX12_isNoNumber 31 = .ok (.goto 4, 3) := by decide +kernel
theorem dX12_isNoNumber_34 : decode cX12_isNoNumber 34 = .ok (.iconst 0, 1) := by decide +kernel
theorem dX12_isNoNumber_35 : decode cX12_isNoNumber 35 = .ok (.istore_n 3, 1) := by decide +kernel
theorem dX12_isNoNumber_36 : decode cX12_isNoNumber 36 = .ok (.iload_n 0, 1) := by decide +kernel
theorem dX12_isNoNumber_37 : decode cX12_isNoNumber 37 = .ok (.tableswitch 97 42 45 #[61, 31, 97, 46], 31) := by decide +kernel
theorem dX12_isNoNumber_68 : decode cX12_isNoNumber 68 = .ok (.iload_n 3, 1) := by decide +kernel
theorem dX12_isNoNumber_69 : decode cX12_isNoNumber 69 = .ok (.ifCond .eq 12, 3) := by decide +kernel
theorem dX12_isNoNumber_72 : decode cX12_isNoNumber 72 = .ok (.iload_n 1, 1) := by decide +kernel
theorem dX12_isNoNumber_73 : decode cX12_isNoNumber 73 = .ok (.iload_n 2, 1) := by decide +kernel
theorem dX12_isNoNumber_74 : decode cX12_isNoNumber 74 = .ok (.if_icmp .eq 7, 3) := by decide +kernel
theorem dX12_isNoNumber_77 : decode cX12_isNoNumber 77 = .ok (.iconst 1, 1) := by decide +kernel
theorem dX12_isNoNumber_78 : decode cX12_isNoNumber 78 = .ok (.goto 4, 3) := by decide +kernel
theorem dX12_isNoNumber_81 : decode cX12_isNoNumber 81 = .ok (.iconst 0, 1) := by decide +kernel
theorem dX12_isNoNumber_82 : decode cX12_isNoNumber 82 = .ok (.ireturn, 1) := by decide +kernel
theorem dX12_isNoNumber_83 : decode cX12_isNoNumber 83 = .ok (.iload_n 3, 1) := by decide +kernel
theorem dX12_isNoNumber_84 : decode cX12_isNoNumber 84 = .ok (.ifCond .eq 12, 3) := by decide +kernel
theorem dX12_isNoNumber_87 : decode cX12_isNoNumber 87 = .ok (.iload_n 1, 1) := by decide +kernel
theorem dX12_isNoNumber_88 : decode cX12_isNoNumber 88 = .ok (.iload_n 2, 1) := by decide +kernel
theorem dX12_isNoNumber_89 : decode cX12_isNoNumber 89 = .ok (.if_icmp .ne 7, 3) := by decide +kernel
theorem dX12_isNoNumber_92 : decode cX12_isNoNumber 92 = .ok (.iconst 1, 1) := by decide +kernel
theorem dX12_isNoNumber_93 : decode cX12_isNoNumber 93 = .ok (.goto 4, 3) := by decide +kernel
theorem dX12_isNoNumber_96 : decode cX12_isNoNumber 96 = .ok (.iconst 0, 1) := by decide +kernel
theorem dX12_isNoNumber_97 : decode cX12_isNoNumber 97 = .ok (.ireturn, 1) := by decide +kernel
theorem dX12_isNoNumber_98 : decode cX12_isNoNumber 98 = .ok (.iload_n 1, 1) := by decide +kernel
theorem dX12_isNoNumber_99 : decode cX12_isNoNumber 99 = .ok (.invokestatic 313, 3) := by decide +kernel
theorem dX12_isNoNumber_102 : decode cX12_isNoNumber 102 = .ok (.ifCond .eq 11, 3) := by decide +kernel
theorem dX12_isNoNumber_105 : decode cX12_isNoNumber 105 = .ok (.iload_n 2, 1) := by decide +kernel
theorem dX12_isNoNumber_106 : decode cX12_isNoNumber 106 = .ok (.ldc_w 311, 3) := by decide +kernel
theorem dX12_isNoNumber_109 : decode cX12_isNoNumber 109 = .ok (.iand, 1) := by decide +kernel
theorem dX12_isNoNumber_110 : decode cX12_isNoNumber 110 = .ok (.ifCond .eq 18, 3) := by decide +kernel
theorem dX12_isNoNumber_113 : decode cX12_isNoNumber 113 = .ok (.iload_n 1, 1) := by decide +kernel
theorem dX12_isNoNumber_114 : decode cX12_isNoNumber 114 = .ok (.ldc_w 311, 3) := by decide +kernel
theorem dX12_isNoNumber_117 : decode cX12_isNoNumber 117 = .ok (.iand, 1) := by decide +kernel
theorem dX12_isNoNumber_118 : decode cX12_isNoNumber 118 = .ok (.ifCond .ne 14, 3) := by decide +kernel
theorem dX12_isNoNumber_121 : decode cX12_isNoNumber 121 = .ok (.iload_n 2, 1) := by decide +kernel
theorem dX12_isNoNumber_122 : decode cX12_isNoNumber 122 = .ok (.invokestatic 313, 3) := by decide +kernel
theorem dX12_isNoNumber_125 : decode cX12_isNoNumber 125 = .ok (.ifCond .eq 7, 3) := by decide +kernel
theorem dX12_isNoNumber_128 : decode cX12_isNoNumber 128 = .ok (.iconst 1, 1) := by decide +kernel
theorem dX12_isNoNumber_129 : decode cX12_isNoNumber 129 = .ok (.goto 4, 3) := by decide +kernel
theorem dX12_isNoNumber_132 : decode cX12_isNoNumber 132 = .ok (.iconst 0, 1) := by decide +kernel
theorem dX12_isNoNumber_133 : decode cX12_isNoNumber 133 = .ok (.ireturn, 1) := by decide +kernel
theorem dX12_isNoNumber_134 : decode cX12_isNoNumber 134 = .ok (.iload_n 3, 1) := by decide +kernel
theorem dX12_isNoNumber_135 : decode cX12_isNoNumber 135 = .ok (.ifCond .ne 19, 3) := by decide +kernel
theorem dX12_isNoNumber_138 : decode cX12_isNoNumber 138 = .ok (.iload_n 1, 1) := by decide +kernel
theorem dX12_isNoNumber_139 : decode cX12_isNoNumber 139 = .ok (.ldc_w 311, 3) := by decide +kernel
theorem dX12_isNoNumber_142 : decode cX12_isNoNumber 142 = .ok (.iand, 1) := by decide +kernel
theorem dX12_isNoNumber_143 : decode cX12_isNoNumber 143 = .ok (.ifCond .ne 15, 3) := by decide +kernel
theorem dX12_isNoNumber_146 : decode cX12_isNoNumber 146 = .ok (.iload_n 2, 1) := by decide +kernel
theorem dX12_isNoNumber_147 : decode cX12_isNoNumber 147 = .ok (.ldc_w 311, 3) := by decide +kernel
theorem dX12_isNoNumber_150 : decode cX12_isNoNumber 150 = .ok (.iand, 1) := by decide +kernel
theorem dX12_isNoNumber_151 : decode cX12_isNoNumber 151 = .ok (.ifCond .ne 7, 3) := by decide +kernel
theorem dX12_isNoNumber_154 : decode cX12_isNoNumber 154 = .ok (.iconst 1, 1) := by decide +kernel
theorem dX12_isNoNumber_155 : decode cX12_isNoNumber 155 = .ok (.goto 4, 3) := by decide +kernel
theorem dX12_isNoNumber_158 : decode cX12_isNoNumber 158 = .ok (.iconst 0, 1) := by decide +kernel
theorem dX12_isNoNumber_159 : decode cX12_isNoNumber 159 = .ok (.ireturn, 1) := by decide +kernel
theorem dX12_brokens_0 : decode cX12_brokens 0 = .ok (.iload_n 0, 1) := by decide +kernel
theorem dX12_brokens_1 : decode cX12_brokens 1 = .ok (.iload_n 1, 1) := by decide +kernel
theorem dX12_brokens_2 : decode cX12_brokens 2 = .ok (.iload_n 2, 1) := by decide +kernel
theorem dX12_brokens_3 : decode cX12_brokens 3 = .ok (.invokestatic 316, 3) := by decide +kernel
theorem dX12_brokens_6 : decode cX12_brokens 6 = .ok (.ifCond .eq 7, 3) := by decide +kernel
theorem dX12_brokens_9 : decode cX12_brokens 9 = .ok (.ldc_w 295, 3) := by decide +kernel
theorem dX12_brokens_12 : decode cX12_brokens 12 = .ok (.ireturn, 1) := by decide +kernel
theorem dX12_brokens_13 : decode cX12_brokens 13 = .ok (.iload_n 1, 1) := by decide +kernel
theorem dX12_brokens_14 : decode cX12_brokens 14 = .ok (.invokestatic 296, 3) := by decide +kernel
theorem dX12_brokens_17 : decode cX12_brokens 17 = .ok (.fstore_n 3, 1) := by decide +kernel
theorem dX12_brokens_18 : decode cX12_brokens 18 = .ok (.iload_n 2, 1) := by decide +kernel
theorem dX12_brokens_19 : decode cX12_brokens 19 = .ok (.invokestatic 296, 3) := by decide +kernel
theorem dX12_brokens_22 : decode cX12_brokens 22 = .ok (.fstore 4, 2) := by decide +kernel
theorem dX12_brokens_24 : decode cX12_brokens 24 = .ok (.iload_n 0, 1) := by decide +kernel
theorem dX12_brokens_25 : decode cX12_brokens 25 = .ok (.tableswitch 55 42 45 #[47, 31, 55, 39], 31) := by decide +kernel
theorem dX12_brokens_56 : decode cX12_brokens 56 = .ok (.fload_n 3, 1) := by decide +kernel
theorem dX12_brokens_57 : decode cX12_brokens 57 = .ok (.fload 4, 2) := by decide +kernel
theorem dX12_brokens_59 : decode cX12_brokens 59 = .ok (.fadd, 1) := by decide +kernel
theorem dX12_brokens_60 : decode cX12_brokens 60 = .ok (.invokestatic 287, 3) := by decide +kernel
theorem dX12_brokens_63 : decode cX12_brokens 63 = .ok (.ireturn, 1) := by decide +kernel
theorem dX12_brokens_64 : decode cX12_brokens 64 = .ok (.fload_n 3, 1) := by decide +kernel
theorem dX12_brokens_65 : decode cX12_brokens 65 = .ok (.fload 4, 2) := by decide +kernel
theorem dX12_brokens_67 : decode cX12_brokens 67 = .ok (.fsub, 1) := by decide +kernel
theorem dX12_brokens_68 : decode cX12_brokens 68 = .ok (.invokestatic 287, 3) := by decide +kernel
theorem dX12_brokens_71 : decode cX12_brokens 71 = .ok (.ireturn, 1) := by decide +kernel
theorem dX12_brokens_72 : decode cX12_brokens 72 = .ok (.fload_n 3, 1) := by decide +kernel
theorem dX12_brokens_73 : decode cX12_brokens 73 = .ok (.fload 4, 2) := by decide +kernel
theorem dX12_brokens_75 : decode cX12_brokens 75 = .ok (.fmul, 1) := by decide +kernel
theorem dX12_brokens_76 : decode cX12_brokens 76 = .ok (.invokestatic 287, 3) := by decide +kernel
theorem dX12_brokens_79 : decode cX12_brokens 79 = .ok (.ireturn, 1) := by decide +kernel
theorem dX12_brokens_80 : decode cX12_brokens 80 = .ok (.fload_n 3, 1) := by decide +kernel
theorem dX12_brokens_81 : decode cX12_brokens 81 = .ok (.fload 4, 2) := by decide +kernel
theorem dX12_brokens_83 : decode cX12_brokens 83 = .ok (.fdiv, 1) := by decide +kernel
theorem dX12_brokens_84 : decode cX12_brokens 84 = .ok (.invokestatic 287, 3) := by decide +kernel
theorem dX12_brokens_87 : decode cX12_brokens 87 = .ok (.ireturn, 1) := by decide +kernel
theorem dX12_isLess_0 : decode cX12_isLess 0 = .ok (.iload_n 0, 1) := by decide +kernel
theorem dX12_isLess_1 : decode cX12_isLess 1 = .ok (.invokestatic 291, 3) := by decide +kernel
theorem dX12_isLess_4 : decode cX12_isLess 4 = .ok (.ifCond .ne 26, 3) := by decide +kernel
theorem dX12_isLess_7 : decode cX12_isLess 7 = .ok (.iload_n 1, 1) := by decide +kernel
theorem dX12_isLess_8 : decode cX12_isLess 8 = .ok (.invokestatic 291, 3) := by decide +kernel
theorem dX12_isLess_11 : decode cX12_isLess 11 = .ok (.ifCond .ne 19, 3) := by decide +kernel
theorem dX12_isLess_14 : decode cX12_isLess 14 = .ok (.iload_n 0, 1) := by decide +kernel
theorem dX12_isLess_15 : decode cX12_isLess 15 = .ok (.invokestatic 296, 3) := by decide +kernel
theorem dX12_isLess_18 : decode cX12_isLess 18 = .ok (.iload_n 1, 1) := by decide +kernel
theorem dX12_isLess_19 : decode cX12_isLess 19 = .ok (.invokestatic 296, 3) := by decide +kernel
theorem dX12_isLess_22 : decode cX12_isLess 22 = .ok (.fcmp .g, 1) := by decide +kernel
theorem dX12_isLess_23 : decode cX12_isLess 23 = .ok (.ifCond .ge 7, 3) := by decide +kernel
theorem dX12_isLess_26 : decode cX12_isLess 26 = .ok (.iconst 1, 1) := by decide +kernel
theorem dX12_isLess_27 : decode cX12_isLess 27 = .ok (.goto 4, 3) := by decide +kernel
theorem dX12_isLess_30 : decode cX12_isLess 30 = .ok (.iconst 0, 1) := by decide +kernel
theorem dX12_isLess_31 : decode cX12_isLess 31 = .ok (.ireturn, 1) := by decide +kernel
theorem dX12_isSame_0 : decode cX12_isSame 0 = .ok (.iload_n 0, 1) := by decide +kernel
theorem dX12_isSame_1 : decode cX12_isSame 1 = .ok (.invokestatic 291, 3) := by decide +kernel
theorem dX12_isSame_4 : decode cX12_isSame 4 = .ok (.ifCond .ne 26, 3) := by decide +kernel
theorem dX12_isSame_7 : decode cX12_isSame 7 = .ok (.iload_n 1, 1) := by decide +kernel
theorem dX12_isSame_8 : decode cX12_isSame 8 = .ok (.invokestatic 291, 3) := by decide +kernel
theorem dX12_isSame_11 : decode cX12_isSame 11 = .ok (.ifCond .ne 19, 3) := by decide +kernel
theorem dX12_isSame_14 : decode cX12_isSame 14 = .ok (.iload_n 0, 1) := by decide +kernel
theorem dX12_isSame_15 : decode cX12_isSame 15 = .ok (.invokestatic 296, 3) := by decide +kernel
theorem dX12_isSame_18 : decode cX12_isSame 18 = .ok (.iload_n 1, 1) := by decide +kernel
theorem dX12_isSame_19 : decode cX12_isSame 19 = .ok (.invokestatic 296, 3) := by decide +kernel
theorem dX12_isSame_22 : decode cX12_isSame 22 = .ok (.fcmp .l, 1) := by decide +kernel
theorem dX12_isSame_23 : decode cX12_isSame 23 = .ok (.ifCond .ne 7, 3) := by decide +kernel
theorem dX12_isSame_26 : decode cX12_isSame 26 = .ok (.iconst 1, 1) := by decide +kernel
theorem dX12_isSame_27 : decode cX12_isSame 27 = .ok (.goto 4, 3) := by decide +kernel
theorem dX12_isSame_30 : decode cX12_isSame 30 = .ok (.iconst 0, 1) := by decide +kernel
theorem dX12_isSame_31 : decode cX12_isSame 31 = .ok (.ireturn, 1) := by decide +kernel
theorem dX12_join_0 : decode cX12_join 0 = .ok (.iload_n 2, 1) := by decide +kernel
theorem dX12_join_1 : decode cX12_join 1 = .ok (.iconst 1, 1) := by decide +kernel
theorem dX12_join_2 : decode cX12_join 2 = .ok (.if_icmp .eq 9, 3) := by decide +kernel
theorem dX12_join_5 : decode cX12_join 5 = .ok (.iload 4, 2) := by decide +kernel
theorem dX12_join_7 : decode cX12_join 7 = .ok (.iconst 1, 1) := by decide +kernel
theorem dX12_join_8 : decode cX12_join 8 = .ok (.if_icmp .ne 7, 3) := by decide +kernel
theorem dX12_join_11 : decode cX12_join 11 = .ok (.iconst 1, 1) := by decide +kernel
theorem dX12_join_12 : decode cX12_join 12 = .ok (.goto 4, 3) := by decide +kernel
theorem dX12_join_15 : decode cX12_join 15 = .ok (.iconst 0, 1) := by decide +kernel
theorem dX12_join_16 : decode cX12_join 16 = .ok (.istore 6, 2) := by decide +kernel
theorem dX12_join_18 : decode cX12_join 18 = .ok (.iload_n 1, 1) := by decide +kernel
theorem dX12_join_19 : decode cX12_join 19 = .ok (.bipush 37, 2) := by decide +kernel
theorem dX12_join_21 : decode cX12_join 21 = .ok (.if_icmp .ne 37, 3) := by decide +kernel
theorem dX12_join_24 : decode cX12_join 24 = .ok (.iload 4, 2) := by decide +kernel
theorem dX12_join_26 : decode cX12_join 26 = .ok (.iload 5, 2) := by decide +kernel
theorem dX12_join_28 : decode cX12_join 28 = .ok (.invokestatic 320, 3) := by decide +kernel
theorem dX12_join_31 : decode cX12_join 31 = .ok (.istore 7, 2) := by decide +kernel
theorem dX12_join_33 : decode cX12_join 33 = .ok (.aload_n 0, 1) := by decide +kernel
theorem dX12_join_34 : decode cX12_join 34 = .ok (.iconst 0, 1) := by decide +kernel
theorem dX12_join_35 : decode cX12_join 35 = .ok (.iload 7, 2) := by decide +kernel
theorem dX12_join_37 : decode cX12_join 37 = .ok (.ifCond .ne 7, 3) := by decide +kernel
theorem dX12_join_40 : decode cX12_join 40 = .ok (.iconst 0, 1) := by decide +kernel
theorem dX12_join_41 : decode cX12_join 41 = .ok (.goto 11, 3) := by decide +kernel
theorem dX12_join_44 : decode cX12_join 44 = .ok (.iload_n 2, 1) := by decide +kernel
theorem dX12_join_45 : decode cX12_join 45 = .ok (.iload_n 3, 1) := by decide +kernel
theorem dX12_join_46 : decode cX12_join 46 = .ok (.invokestatic 320, 3) := by decide +kernel
theorem dX12_join_49 : decode cX12_join 49 = .ok (.iload 7, 2) := by decide +kernel
theorem dX12_join_51 : decode cX12_join 51 = .ok (.irem, 1) := by decide +kernel
theorem dX12_join_52 : decode cX12_join 52 = .ok (.invokevirtual 324, 3) := by decide +kernel
theorem dX12_join_55 : decode cX12_join 55 = .ok (.goto 146, 3) := by decide +kernel
theorem dX12_join_58 : decode cX12_join 58 = .ok (.iload_n 1, 1) := by decide +kernel
theorem dX12_join_59 : decode cX12_join 59 = .ok (.bipush 60, 2) := by decide +kernel
theorem dX12_join_61 : decode cX12_join 61 = .ok (.if_icmp .ne 48, 3) := by decide +kernel
theorem dX12_join_64 : decode cX12_join 64 = .ok (.aload_n 0, 1) := by decide +kernel
theorem dX12_join_65 : decode cX12_join 65 = .ok (.iconst 0, 1) := by decide +kernel
theorem dX12_join_66 : decode cX12_join 66 = .ok (.iload 6, 2) := by decide +kernel
theorem dX12_join_68 : decode cX12_join 68 = .ok (.ifCond .eq 24, 3) := by decide +kernel
theorem dX12_join_71 : decode cX12_join 71 = .ok (.iload_n 2, 1) := by decide +kernel
theorem dX12_join_72 : decode cX12_join 72 = .ok (.iload_n 3, 1) := by decide +kernel
theorem dX12_join_73 : decode cX12_join 73 = .ok (.invokestatic 328, 3) := by decide +kernel
theorem dX12_join_76 : decode cX12_join 76 = .ok (.iload 4, 2) := by decide +kernel
theorem dX12_join_78 : decode cX12_join 78 = .ok (.iload 5, 2) := by decide +kernel
theorem dX12_join_80 : decode cX12_join 80 = .ok (.invokestatic 328, 3) := by decide +kernel
theorem dX12_join_83 : decode cX12_join 83 = .ok (.invokestatic 331, 3) := by decide +kernel
theorem dX12_join_86 : decode cX12_join 86 = .ok (.ifCond .eq 16, 3) := by decide +kernel
theorem dX12_join_89 : decode cX12_join 89 = .ok (.goto 9, 3) := by decide +kernel
theorem dX12_join_92 : decode cX12_join 92 = .ok (.iload_n 3, 1) := by decide +kernel
theorem dX12_join_93 : decode cX12_join 93 = .ok (.iload 5, 2) := by decide +kernel
theorem dX12_join_95 : decode cX12_join 95 = .ok (.if_icmp .ge 7, 3) := by decide +kernel
theorem dX12_join_98 : decode cX12_join 98 = .ok (.iconst 1, 1) := by decide +kernel
theorem dX12_join_99 : decode cX12_join 99 = .ok (.goto 4, 3) := by decide +kernel
theorem dX12_join_102 : decode cX12_join 102 = .ok (.iconst 0, 1) := by decide +kernel
theorem dX12_join_103 : decode cX12_join 103 = .ok (.invokevirtual 324, 3) := by decide +kernel
theorem dX12_join_106 : decode cX12_join 106 = .ok (.goto 95, 3) := by decide +kernel
theorem dX12_join_109 : decode cX12_join 109 = .ok (.iload_n 1, 1) := by decide +kernel
theorem dX12_join_110 : decode cX12_join 110 = .ok (.bipush 61, 2) := by decide +kernel
theorem dX12_join_112 : decode cX12_join 112 = .ok (.if_icmp .ne 48, 3) := by decide +kernel
theorem dX12_join_115 : decode cX12_join 115 = .ok (.aload_n 0, 1) := by decide +kernel
theorem dX12_join_116 : decode cX12_join 116 = .ok (.iconst 0, 1) := by decide +kernel
theorem dX12_join_117 : decode cX12_join 117 = .ok (.iload 6, 2) := by decide +kernel
theorem dX12_join_119 : decode cX12_join 119 = .ok (.ifCond .eq 24, 3) := by decide +kernel
theorem dX12_join_122 : decode cX12_join 122 = .ok (.iload_n 2, 1) := by decide +kernel
theorem dX12_join_123 : decode cX12_join 123 = .ok (.iload_n 3, 1) := by decide +kernel
theorem dX12_join_124 : decode cX12_join 124 = .ok (.invokestatic 328, 3) := by decide +kernel
theorem dX12_join_127 : decode cX12_join 127 = .ok (.iload 4, 2) := by decide +kernel
theorem dX12_join_129 : decode cX12_join 129 = .ok (.iload 5, 2) := by decide +kernel
theorem dX12_join_131 : decode cX12_join 131 = .ok (.invokestatic 328, 3) := by decide +kernel
theorem dX12_join_134 : decode cX12_join 134 = .ok (.invokestatic 335, 3) := by decide +kernel
theorem dX12_join_137 : decode cX12_join 137 = .ok (.ifCond .eq 16, 3) := by decide +kernel
theorem dX12_join_140 : decode cX12_join 140 = .ok (.goto 9, 3) := by decide +kernel
theorem dX12_join_143 : decode cX12_join 143 = .ok (.iload_n 3, 1) := by decide +kernel
theorem dX12_join_144 : decode cX12_join 144 = .ok (.iload 5, 2) := by decide +kernel
theorem dX12_join_146 : decode cX12_join 146 = .ok (.if_icmp .ne 7, 3) := by decide +kernel
theorem dX12_join_149 : decode cX12_join 149 = .ok (.iconst 1, 1) := by decide +kernel
theorem dX12_join_150 : decode cX12_join 150 = .ok (.goto 4, 3) := by decide +kernel
theorem dX12_join_153 : decode cX12_join 153 = .ok (.iconst 0, 1) := by decide +kernel
theorem dX12_join_154 : decode cX12_join 154 = .ok (.invokevirtual 324, 3) := by decide +kernel
theorem dX12_join_157 : decode cX12_join 157 = .ok (.goto 44, 3) := by decide +kernel
theorem dX12_join_160 : decode cX12_join 160 = .ok (.iload 6, 2) := by decide +kernel
theorem dX12_join_162 : decode cX12_join 162 = .ok (.ifCond .eq 27, 3) := by decide +kernel
theorem dX12_join_165 : decode cX12_join 165 = .ok (.aload_n 0, 1) := by decide +kernel
theorem dX12_join_166 : decode cX12_join 166 = .ok (.iconst 1, 1) := by decide +kernel
theorem dX12_join_167 : decode cX12_join 167 = .ok (.iload_n 1, 1) := by decide +kernel
theorem dX12_join_168 : decode cX12_join 168 = .ok (.iload_n 2, 1) := by decide +kernel
