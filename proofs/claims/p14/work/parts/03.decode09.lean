theorem dX12_variant_90 : decode cX12_variant 90 = .ok (.ireturn, 1) := by decide +kernel
theorem dX12_variant_91 : decode cX12_variant 91 = .ok (.aload_n 0, 1) := by decide +kernel
theorem dX12_variant_92 : decode cX12_variant 92 = .ok (.iload_n 1, 1) := by decide +kernel
theorem dX12_variant_93 : decode cX12_variant 93 = .ok (.invokevirtual 791, 3) := by decide +kernel
theorem dX12_variant_96 : decode cX12_variant 96 = .ok (.ireturn, 1) := by decide +kernel
theorem dX12_variant_97 : decode cX12_variant 97 = .ok (.aload_n 0, 1) := by decide +kernel
theorem dX12_variant_98 : decode cX12_variant 98 = .ok (.iload_n 1, 1) := by decide +kernel
theorem dX12_variant_99 : decode cX12_variant 99 = .ok (.invokevirtual 794, 3) := by decide +kernel
theorem dX12_variant_102 : decode cX12_variant 102 = .ok (.ireturn, 1) := by decide +kernel
theorem dX12_variant_103 : decode cX12_variant 103 = .ok (.iconst (-1), 1) := by decide +kernel
theorem dX12_variant_104 : decode cX12_variant 104 = .ok (.ireturn, 1) := by decide +kernel
theorem dX12_kinds_0 : decode cX12_kinds 0 = .ok (.aload_n 0, 1) := by decide +kernel
theorem dX12_kinds_1 : decode cX12_kinds 1 = .ok (.iload_n 1, 1) := by decide +kernel
theorem dX12_kinds_2 : decode cX12_kinds 2 = .ok (.invokevirtual 785, 3) := by decide +kernel
theorem dX12_kinds_5 : decode cX12_kinds 5 = .ok (.ifCond .eq 22, 3) := by decide +kernel
theorem dX12_kinds_8 : decode cX12_kinds 8 = .ok (.iload_n 2, 1) := by decide +kernel
theorem dX12_kinds_9 : decode cX12_kinds 9 = .ok (.iconst 0, 1) := by decide +kernel
theorem dX12_kinds_10 : decode cX12_kinds 10 = .ok (.bipush 12, 2) := by decide +kernel
theorem dX12_kinds_12 : decode cX12_kinds 12 = .ok (.invokestatic 359, 3) := by decide +kernel
theorem dX12_kinds_15 : decode cX12_kinds 15 = .ok (.ifCond .eq 12, 3) := by decide +kernel
theorem dX12_kinds_18 : decode cX12_kinds 18 = .ok (.aload_n 0, 1) := by decide +kernel
theorem dX12_kinds_19 : decode cX12_kinds 19 = .ok (.iload_n 1, 1) := by decide +kernel
theorem dX12_kinds_20 : decode cX12_kinds 20 = .ok (.iload_n 2, 1) := by decide +kernel
theorem dX12_kinds_21 : decode cX12_kinds 21 = .ok (.invokevirtual 779, 3) := by decide +kernel
theorem dX12_kinds_24 : decode cX12_kinds 24 = .ok (.goto 4, 3) := by decide +kernel
theorem dX12_kinds_27 : decode cX12_kinds 27 = .ok (.iconst (-1), 1) := by decide +kernel
theorem dX12_kinds_28 : decode cX12_kinds 28 = .ok (.ireturn, 1) := by decide +kernel
theorem dX12_beginRun_0 : decode cX12_beginRun 0 = .ok (.aload_n 0, 1) := by decide +kernel
theorem dX12_beginRun_1 : decode cX12_beginRun 1 = .ok (.iconst 0, 1) := by decide +kernel
theorem dX12_beginRun_2 : decode cX12_beginRun 2 = .ok (.putfield 524, 3) := by decide +kernel
theorem dX12_beginRun_5 : decode cX12_beginRun 5 = .ok (.aload_n 0, 1) := by decide +kernel
theorem dX12_beginRun_6 : decode cX12_beginRun 6 = .ok (.iconst 0, 1) := by decide +kernel
theorem dX12_beginRun_7 : decode cX12_beginRun 7 = .ok (.putfield 658, 3) := by decide +kernel
theorem dX12_beginRun_10 : decode cX12_beginRun 10 = .ok (.aload_n 0, 1) := by decide +kernel
theorem dX12_beginRun_11 : decode cX12_beginRun 11 = .ok (.iconst 0, 1) := by decide +kernel
theorem dX12_beginRun_12 : decode cX12_beginRun 12 = .ok (.putfield 661, 3) := by decide +kernel
theorem dX12_beginRun_15 : decode cX12_beginRun 15 = .ok (.aload_n 0, 1) := by decide +kernel
theorem dX12_beginRun_16 : decode cX12_beginRun 16 = .ok (.iconst 0, 1) := by decide +kernel
theorem dX12_beginRun_17 : decode cX12_beginRun 17 = .ok (.putfield 664, 3) := by decide +kernel
theorem dX12_beginRun_20 : decode cX12_beginRun 20 = .ok (.aload_n 0, 1) := by decide +kernel
theorem dX12_beginRun_21 : decode cX12_beginRun 21 = .ok (.iconst 0, 1) := by decide +kernel
theorem dX12_beginRun_22 : decode cX12_beginRun 22 = .ok (.putfield 649, 3) := by decide +kernel
theorem dX12_beginRun_25 : decode cX12_beginRun 25 = .ok (.aload_n 0, 1) := by decide +kernel
theorem dX12_beginRun_26 : decode cX12_beginRun 26 = .ok (.iconst 0, 1) := by decide +kernel
theorem dX12_beginRun_27 : decode cX12_beginRun 27 = .ok (.putfield 797, 3) := by decide +kernel
theorem dX12_beginRun_30 : decode cX12_beginRun 30 = .ok (.iconst 0, 1) := by decide +kernel
theorem dX12_beginRun_31 : decode cX12_beginRun 31 = .ok (.istore_n 1, 1) := by decide +kernel
theorem dX12_beginRun_32 : decode cX12_beginRun 32 = .ok (.iload_n 1, 1) := by decide +kernel
theorem dX12_beginRun_33 : decode cX12_beginRun 33 = .ok (.bipush 8, 2) := by decide +kernel
theorem dX12_beginRun_35 : decode cX12_beginRun 35 = .ok (.if_icmp .ge 16, 3) := by decide +kernel
theorem dX12_beginRun_38 : decode cX12_beginRun 38 = .ok (.aload_n 0, 1) := by decide +kernel
theorem dX12_beginRun_39 : decode cX12_beginRun 39 = .ok (.getfield 142, 3) := by decide +kernel
theorem dX12_beginRun_42 : decode cX12_beginRun 42 = .ok (.iload_n 1, 1) := by decide +kernel
theorem dX12_beginRun_43 : decode cX12_beginRun 43 = .ok (.iconst 0, 1) := by decide +kernel
theorem dX12_beginRun_44 : decode cX12_beginRun 44 = .ok (.iastore, 1) := by decide +kernel
theorem dX12_beginRun_45 : decode cX12_beginRun 45 = .ok (.iinc 1 1, 3) := by decide +kernel
theorem dX12_beginRun_48 : decode cX12_beginRun 48 = .ok (.goto (-16), 3) := by decide +kernel
theorem dX12_beginRun_51 : decode cX12_beginRun 51 = .ok (.aload_n 0, 1) := by decide +kernel
theorem dX12_beginRun_52 : decode cX12_beginRun 52 = .ok (.iconst 0, 1) := by decide +kernel
theorem dX12_beginRun_53 : decode cX12_beginRun 53 = .ok (.invokevirtual 763, 3) := by decide +kernel
theorem dX12_beginRun_56 : decode cX12_beginRun 56 = .ok (.aload_n 0, 1) := by decide +kernel
theorem dX12_beginRun_57 : decode cX12_beginRun 57 = .ok (.invokevirtual 800, 3) := by decide +kernel
theorem dX12_beginRun_60 : decode cX12_beginRun 60 = .ok (.return_, 1) := by decide +kernel
theorem dX12_endRun_0 : decode cX12_endRun 0 = .ok (.aload_n 0, 1) := by decide +kernel
theorem dX12_endRun_1 : decode cX12_endRun 1 = .ok (.getfield 235, 3) := by decide +kernel
theorem dX12_endRun_4 : decode cX12_endRun 4 = .ok (.iconst 0, 1) := by decide +kernel
theorem dX12_endRun_5 : decode cX12_endRun 5 = .ok (.aload_n 0, 1) := by decide +kernel
theorem dX12_endRun_6 : decode cX12_endRun 6 = .ok (.getfield 557, 3) := by decide +kernel
theorem dX12_endRun_9 : decode cX12_endRun 9 = .ok (.iastore, 1) := by decide +kernel
theorem dX12_endRun_10 : decode cX12_endRun 10 = .ok (.aload_n 0, 1) := by decide +kernel
theorem dX12_endRun_11 : decode cX12_endRun 11 = .ok (.getfield 235, 3) := by decide +kernel
theorem dX12_endRun_14 : decode cX12_endRun 14 = .ok (.iconst 1, 1) := by decide +kernel
theorem dX12_endRun_15 : decode cX12_endRun 15 = .ok (.aload_n 0, 1) := by decide +kernel
theorem dX12_endRun_16 : decode cX12_endRun 16 = .ok (.getfield 658, 3) := by decide +kernel
theorem dX12_endRun_19 : decode cX12_endRun 19 = .ok (.iastore, 1) := by decide +kernel
theorem dX12_endRun_20 : decode cX12_endRun 20 = .ok (.aload_n 0, 1) := by decide +kernel
theorem dX12_endRun_21 : decode cX12_endRun 21 = .ok (.getfield 235, 3) := by decide +kernel
theorem dX12_endRun_24 : decode cX12_endRun 24 = .ok (.iconst 2, 1) := by decide +kernel
theorem dX12_endRun_25 : decode cX12_endRun 25 = .ok (.aload_n 0, 1) := by decide +kernel
theorem dX12_endRun_26 : decode cX12_endRun 26 = .ok (.getfield 649, 3) := by decide +kernel
theorem dX12_endRun_29 : decode cX12_endRun 29 = .ok (.iastore, 1) := by decide +kernel
theorem dX12_endRun_30 : decode cX12_endRun 30 = .ok (.aload_n 0, 1) := by decide +kernel
theorem dX12_endRun_31 : decode cX12_endRun 31 = .ok (.getfield 235, 3) := by decide +kernel
theorem dX12_endRun_34 : decode cX12_endRun 34 = .ok (.iconst 3, 1) := by decide +kernel
theorem dX12_endRun_35 : decode cX12_endRun 35 = .ok (.aload_n 0, 1) := by decide +kernel
theorem dX12_endRun_36 : decode cX12_endRun 36 = .ok (.getfield 557, 3) := by decide +kernel
theorem dX12_endRun_39 : decode cX12_endRun 39 = .ok (.ifCond .ne 12, 3) := by decide +kernel
theorem dX12_endRun_42 : decode cX12_endRun 42 = .ok (.aload_n 0, 1) := by decide +kernel
theorem dX12_endRun_43 : decode cX12_endRun 43 = .ok (.getfield 115, 3) := by decide +kernel
theorem dX12_endRun_46 : decode cX12_endRun 46 = .ok (.iload_n 1, 1) := by decide +kernel
theorem dX12_endRun_47 : decode cX12_endRun 47 = .ok (.iaload, 1) := by decide +kernel
theorem dX12_endRun_48 : decode cX12_endRun 48 = .ok (.goto 4, 3) := by decide +kernel
theorem dX12_endRun_51 : decode cX12_endRun 51 = .ok (.iconst 0, 1) := by decide +kernel
theorem dX12_endRun_52 : decode cX12_endRun 52 = .ok (.iastore, 1) := by decide +kernel
theorem dX12_endRun_53 : decode cX12_endRun 53 = .ok (.aload_n 0, 1) := by decide +kernel
theorem dX12_endRun_54 : decode cX12_endRun 54 = .ok (.getfield 235, 3) := by decide +kernel
theorem dX12_endRun_57 : decode cX12_endRun 57 = .ok (.iconst 4, 1) := by decide +kernel
theorem dX12_endRun_58 : decode cX12_endRun 58 = .ok (.aload_n 0, 1) := by decide +kernel
theorem dX12_endRun_59 : decode cX12_endRun 59 = .ok (.getfield 557, 3) := by decide +kernel
theorem dX12_endRun_62 : decode cX12_endRun 62 = .ok (.ifCond .ne 12, 3) := by decide +kernel
theorem dX12_endRun_65 : decode cX12_endRun 65 = .ok (.aload_n 0, 1) := by decide +kernel
theorem dX12_endRun_66 : decode cX12_endRun 66 = .ok (.getfield 118, 3) := by decide +kernel
theorem dX12_endRun_69 : decode cX12_endRun 69 = .ok (.iload_n 1, 1) := by decide +kernel
theorem dX12_endRun_70 : decode cX12_endRun 70 = .ok (.iaload, 1) := by decide +kernel
theorem dX12_endRun_71 : decode cX12_endRun 71 = .ok (.goto 4, 3) := by decide +kernel
theorem dX12_endRun_74 : decode cX12_endRun 74 = .ok (.iconst 0, 1) := by decide +kernel
theorem dX12_endRun_75 : decode cX12_endRun 75 = .ok (.iastore, 1) := by decide +kernel
theorem dX12_endRun_76 : decode cX12_endRun 76 = .ok (.aload_n 0, 1) := by decide +kernel
theorem dX12_endRun_77 : decode cX12_endRun 77 = .ok (.getfield 235, 3) := by decide +kernel
theorem dX12_endRun_80 : decode cX12_endRun 80 = .ok (.iconst 5, 1) := by decide +kernel
theorem dX12_endRun_81 : decode cX12_endRun 81 = .ok (.aload_n 0, 1) := by decide +kernel
theorem dX12_endRun_82 : decode cX12_endRun 82 = .ok (.getfield 664, 3) := by decide +kernel
theorem dX12_endRun_85 : decode cX12_endRun 85 = .ok (.iastore, 1) := by decide +kernel
theorem dX12_endRun_86 : decode cX12_endRun 86 = .ok (.aload_n 0, 1) := by decide +kernel
theorem dX12_endRun_87 : decode cX12_endRun 87 = .ok (.getfield 557, 3) := by decide +kernel
theorem dX12_endRun_90 : decode cX12_endRun 90 = .ok (.ifCond .ne 8, 3) := by decide +kernel
theorem dX12_endRun_93 : decode cX12_endRun 93 = .ok (.aload_n 0, 1) := by decide +kernel
theorem dX12_endRun_94 : decode cX12_endRun 94 = .ok (.iload_n 1, 1) := by decide +kernel
theorem dX12_endRun_95 : decode cX12_endRun 95 = .ok (.invokevirtual 803, 3) := by decide +kernel
theorem dX12_endRun_98 : decode cX12_endRun 98 = .ok (.return_, 1) := by decide +kernel
theorem dX12_layRow_0 : decode cX12_layRow 0 = .ok (.iconst 1, 1) := by decide +kernel
theorem dX12_layRow_1 : decode cX12_layRow 1 = .ok (.istore_n 2, 1) := by decide +kernel
theorem dX12_layRow_2 : decode cX12_layRow 2 = .ok (.aload_n 0, 1) := by decide +kernel
theorem dX12_layRow_3 : decode cX12_layRow 3 = .ok (.getfield 181, 3) := by decide +kernel
theorem dX12_layRow_6 : decode cX12_layRow 6 = .ok (.iconst 0, 1) := by decide +kernel
theorem dX12_layRow_7 : decode cX12_layRow 7 = .ok (.iload_n 1, 1) := by decide +kernel
theorem dX12_layRow_8 : decode cX12_layRow 8 = .ok (.iastore, 1) := by decide +kernel
theorem dX12_layRow_9 : decode cX12_layRow 9 = .ok (.iload_n 2, 1) := by decide +kernel
theorem dX12_layRow_10 : decode cX12_layRow 10 = .ok (.ifCond .le 112, 3) := by decide +kernel
theorem dX12_layRow_13 : decode cX12_layRow 13 = .ok (.iinc 2 (-1), 3) := by decide +kernel
theorem dX12_layRow_16 : decode cX12_layRow 16 = .ok (.aload_n 0, 1) := by decide +kernel
theorem dX12_layRow_17 : decode cX12_layRow 17 = .ok (.getfield 181, 3) := by decide +kernel
theorem dX12_layRow_20 : decode cX12_layRow 20 = .ok (.iload_n 2, 1) := by decide +kernel
theorem dX12_layRow_21 : decode cX12_layRow 21 = .ok (.iaload, 1) := by decide +kernel
theorem dX12_layRow_22 : decode cX12_layRow 22 = .ok (.istore_n 3, 1) := by decide +kernel
theorem dX12_layRow_23 : decode cX12_layRow 23 = .ok (.aload_n 0, 1) := by decide +kernel
theorem dX12_layRow_24 : decode cX12_layRow 24 = .ok (.getfield 238, 3) := by decide +kernel
theorem dX12_layRow_27 : decode cX12_layRow 27 = .ok (.aload_n 0, 1) := by decide +kernel
theorem dX12_layRow_28 : decode cX12_layRow 28 = .ok (.getfield 797, 3) := by decide +kernel
theorem dX12_layRow_31 : decode cX12_layRow 31 = .ok (.aload_n 0, 1) := by decide +kernel
theorem dX12_layRow_32 : decode cX12_layRow 32 = .ok (.getfield 106, 3) := by decide +kernel
theorem dX12_layRow_35 : decode cX12_layRow 35 = .ok (.iload_n 3, 1) := by decide +kernel
theorem dX12_layRow_36 : decode cX12_layRow 36 = .ok (.iaload, 1) := by decide +kernel
theorem dX12_layRow_37 : decode cX12_layRow 37 = .ok (.iastore, 1) := by decide +kernel
theorem dX12_layRow_38 : decode cX12_layRow 38 = .ok (.aload_n 0, 1) := by decide +kernel
theorem dX12_layRow_39 : decode cX12_layRow 39 = .ok (.getfield 241, 3) := by decide +kernel
theorem dX12_layRow_42 : decode cX12_layRow 42 = .ok (.aload_n 0, 1) := by decide +kernel
theorem dX12_layRow_43 : decode cX12_layRow 43 = .ok (.getfield 797, 3) := by decide +kernel
theorem dX12_layRow_46 : decode cX12_layRow 46 = .ok (.aload_n 0, 1) := by decide +kernel
theorem dX12_layRow_47 : decode cX12_layRow 47 = .ok (.getfield 106, 3) := by decide +kernel
theorem dX12_layRow_50 : decode cX12_layRow 50 = .ok (.iload_n 3, 1) := by decide +kernel
theorem dX12_layRow_51 : decode cX12_layRow 51 = .ok (.iaload, 1) := by decide +kernel
theorem dX12_layRow_52 : decode cX12_layRow 52 = .ok (.iconst 2, 1) := by decide +kernel
theorem dX12_layRow_53 : decode cX12_layRow 53 = .ok (.if_icmp .ne 7, 3) := by decide +kernel
theorem dX12_layRow_56 : decode cX12_layRow 56 = .ok (.iconst 0, 1) := by decide +kernel
theorem dX12_layRow_57 : decode cX12_layRow 57 = .ok (.goto 9, 3) := by decide +kernel
theorem dX12_layRow_60 : decode cX12_layRow 60 = .ok (.aload_n 0, 1) := by decide +kernel
theorem dX12_layRow_61 : decode cX12_layRow 61 = .ok (.getfield 109, 3) := by decide +kernel
theorem dX12_layRow_64 : decode cX12_layRow 64 = .ok (.iload_n 3, 1) := by decide +kernel
theorem dX12_layRow_65 : decode cX12_layRow 65 = .ok (.iaload, 1) := by decide +kernel
theorem dX12_layRow_66 : decode cX12_layRow 66 = .ok (.iastore, 1) := by decide +kernel
theorem dX12_layRow_67 : decode cX12_layRow 67 = .ok (.aload_n 0, 1) := by decide +kernel
theorem dX12_layRow_68 : decode cX12_layRow 68 = .ok (.dup, 1) := by decide +kernel
theorem dX12_layRow_69 : decode cX12_layRow 69 = .ok (.getfield 797, 3) := by decide +kernel
theorem dX12_layRow_72 : decode cX12_layRow 72 = .ok (.iconst 1, 1) := by decide +kernel
theorem dX12_layRow_73 : decode cX12_layRow 73 = .ok (.iadd, 1) := by decide +kernel
theorem dX12_layRow_74 : decode cX12_layRow 74 = .ok (.putfield 797, 3) := by decide +kernel
theorem dX12_layRow_77 : decode cX12_layRow 77 = .ok (.aload_n 0, 1) := by decide +kernel
theorem dX12_layRow_78 : decode cX12_layRow 78 = .ok (.getfield 106, 3) := by decide +kernel
theorem dX12_layRow_81 : decode cX12_layRow 81 = .ok (.iload_n 3, 1) := by decide +kernel
theorem dX12_layRow_82 : decode cX12_layRow 82 = .ok (.iaload, 1) := by decide +kernel
theorem dX12_layRow_83 : decode cX12_layRow 83 = .ok (.iconst 2, 1) := by decide +kernel
theorem dX12_layRow_84 : decode cX12_layRow 84 = .ok (.if_icmp .eq 6, 3) := by decide +kernel
theorem dX12_layRow_87 : decode cX12_layRow 87 = .ok (.goto (-78), 3) := by decide +kernel
theorem dX12_layRow_90 : decode cX12_layRow 90 = .ok (.aload_n 0, 1) := by decide +kernel
theorem dX12_layRow_91 : decode cX12_layRow 91 = .ok (.getfield 181, 3) := by decide +kernel
theorem dX12_layRow_94 : decode cX12_layRow 94 = .ok (.iload_n 2, 1) := by decide +kernel
theorem dX12_layRow_95 : decode cX12_layRow 95 = .ok (.aload_n 0, 1) := by decide +kernel
theorem dX12_layRow_96 : decode cX12_layRow 96 = .ok (.getfield 112, 3) := by decide +kernel
theorem dX12_layRow_99 : decode cX12_layRow 99 = .ok (.iload_n 3, 1) := by decide +kernel
theorem dX12_layRow_100 : decode cX12_layRow 100 = .ok (.iaload, 1) := by decide +kernel
theorem dX12_layRow_101 : decode cX12_layRow 101 = .ok (.iastore, 1) := by decide +kernel
theorem dX12_layRow_102 : decode cX12_layRow 102 = .ok (.aload_n 0, 1) := by decide +kernel
theorem dX12_layRow_103 : decode cX12_layRow 103 = .ok (.getfield 181, 3) := by decide +kernel
theorem dX12_layRow_106 : decode cX12_layRow 106 = .ok (.iload_n 2, 1) := by decide +kernel
theorem dX12_layRow_107 : decode cX12_layRow 107 = .ok (.iconst 1, 1) := by decide +kernel
theorem dX12_layRow_108 : decode cX12_layRow 108 = .ok (.iadd, 1) := by decide +kernel
theorem dX12_layRow_109 : decode cX12_layRow 109 = .ok (.aload_n 0, 1) := by decide +kernel
theorem dX12_layRow_110 : decode cX12_layRow 110 = .ok (.getfield 109, 3) := by decide +kernel
theorem dX12_layRow_113 : decode cX12_layRow 113 = .ok (.iload_n 3, 1) := by decide +kernel
theorem dX12_layRow_114 : decode cX12_layRow 114 = .ok (.iaload, 1) := by decide +kernel
theorem dX12_layRow_115 : decode cX12_layRow 115 = .ok (.iastore, 1) := by decide +kernel
theorem dX12_layRow_116 : decode cX12_layRow 116 = .ok (.iinc 2 2, 3) := by decide +kernel
theorem dX12_layRow_119 : decode cX12_layRow 119 = .ok (.goto (-110), 3) := by decide +kernel
theorem dX12_layRow_122 : decode cX12_layRow 122 = .ok (.return_, 1) := by decide +kernel
theorem dX12_runTask_0 : decode cX12_runTask 0 = .ok (.aload_n 0, 1) := by decide +kernel
theorem dX12_runTask_1 : decode cX12_runTask 1 = .ok (.invokevirtual 806, 3) := by decide +kernel
theorem dX12_runTask_4 : decode cX12_runTask 4 = .ok (.aload_n 0, 1) := by decide +kernel
theorem dX12_runTask_5 : decode cX12_runTask 5 = .ok (.iconst 1, 1) := by decide +kernel
theorem dX12_runTask_6 : decode cX12_runTask 6 = .ok (.invokevirtual 770, 3) := by decide +kernel
theorem dX12_runTask_9 : decode cX12_runTask 9 = .ok (.iconst 0, 1) := by decide +kernel
theorem dX12_runTask_10 : decode cX12_runTask 10 = .ok (.istore_n 1, 1) := by decide +kernel
theorem dX12_runTask_11 : decode cX12_runTask 11 = .ok (.iload_n 1, 1) := by decide +kernel
theorem dX12_runTask_12 : decode cX12_runTask 12 = .ok (.aload_n 0, 1) := by decide +kernel
theorem dX12_runTask_13 : decode cX12_runTask 13 = .ok (.getfield 503, 3) := by decide +kernel
theorem dX12_runTask_16 : decode cX12_runTask 16 = .ok (.if_icmp .ge 30, 3) := by decide +kernel
theorem dX12_runTask_19 : decode cX12_runTask 19 = .ok (.aload_n 0, 1) := by decide +kernel
theorem dX12_runTask_20 : decode cX12_runTask 20 = .ok (.getfield 115, 3) := by decide +kernel
theorem dX12_runTask_23 : decode cX12_runTask 23 = .ok (.aload_n 0, 1) := by decide +kernel
theorem dX12_runTask_24 : decode cX12_runTask 24 = .ok (.getfield 151, 3) := by decide +kernel
theorem dX12_runTask_27 : decode cX12_runTask 27 = .ok (.iload_n 1, 1) := by decide +kernel
theorem dX12_runTask_28 : decode cX12_runTask 28 = .ok (.iaload, 1) := by decide +kernel
theorem dX12_runTask_29 : decode cX12_runTask 29 = .ok (.iaload, 1) := by decide +kernel
theorem dX12_runTask_30 : decode cX12_runTask 30 = .ok (.bipush 40, 2) := by decide +kernel
theorem dX12_runTask_32 : decode cX12_runTask 32 = .ok (.if_icmp .le 8, 3) := by decide +kernel
theorem dX12_runTask_35 : decode cX12_runTask 35 = .ok (.aload_n 0, 1) := by decide +kernel
theorem dX12_runTask_36 : decode cX12_runTask 36 = .ok (.iconst 2, 1) := by decide +kernel
theorem dX12_runTask_37 : decode cX12_runTask 37 = .ok (.putfield 557, 3) := by decide +kernel
theorem dX12_runTask_40 : decode cX12_runTask 40 = .ok (.iinc 1 1, 3) := by decide +kernel
theorem dX12_runTask_43 : decode cX12_runTask 43 = .ok (.goto (-32), 3) := by decide +kernel
theorem dX12_runTask_46 : decode cX12_runTask 46 = .ok (.aload_n 0, 1) := by decide +kernel
theorem dX12_runTask_47 : decode cX12_runTask 47 = .ok (.aload_n 0, 1) := by decide +kernel
theorem dX12_runTask_48 : decode cX12_runTask 48 = .ok (.getfield 99, 3) := by decide +kernel
theorem dX12_runTask_51 : decode cX12_runTask 51 = .ok (.aload_n 0, 1) := by decide +kernel
theorem dX12_runTask_52 : decode cX12_runTask 52 = .ok (.getfield 503, 3) := by decide +kernel
theorem dX12_runTask_55 : decode cX12_runTask 55 = .ok (.invokevirtual 667, 3) := by decide +kernel
theorem dX12_runTask_58 : decode cX12_runTask 58 = .ok (.istore_n 1, 1) := by decide +kernel
theorem dX12_runTask_59 : decode cX12_runTask 59 = .ok (.aload_n 0, 1) := by decide +kernel
theorem dX12_runTask_60 : decode cX12_runTask 60 = .ok (.getfield 557, 3) := by decide +kernel
theorem dX12_runTask_63 : decode cX12_runTask 63 = .ok (.ifCond .ne 13, 3) := by decide +kernel
theorem dX12_runTask_66 : decode cX12_runTask 66 = .ok (.iload_n 1, 1) := by decide +kernel
theorem dX12_runTask_67 : decode cX12_runTask 67 = .ok (.iconst (-1), 1) := by decide +kernel
theorem dX12_runTask_68 : decode cX12_runTask 68 = .ok (.if_icmp .ne 8, 3) := by decide +kernel
theorem dX12_runTask_71 : decode cX12_runTask 71 = .ok (.aload_n 0, 1) := by decide +kernel
theorem dX12_runTask_72 : decode cX12_runTask 72 = .ok (.iconst 4, 1) := by decide +kernel
theorem dX12_runTask_73 : decode cX12_runTask 73 = .ok (.putfield 557, 3) := by decide +kernel
theorem dX12_runTask_76 : decode cX12_runTask 76 = .ok (.aload_n 0, 1) := by decide +kernel
theorem dX12_runTask_77 : decode cX12_runTask 77 = .ok (.getfield 557, 3) := by decide +kernel
theorem dX12_runTask_80 : decode cX12_runTask 80 = .ok (.ifCond .ne 19, 3) := by decide +kernel
theorem dX12_runTask_83 : decode cX12_runTask 83 = .ok (.aload_n 0, 1) := by decide +kernel
theorem dX12_runTask_84 : decode cX12_runTask 84 = .ok (.invokevirtual 673, 3) := by decide +kernel
theorem dX12_runTask_87 : decode cX12_runTask 87 = .ok (.ifCond .eq 12, 3) := by decide +kernel
theorem dX12_runTask_90 : decode cX12_runTask 90 = .ok (.aload_n 0, 1) := by decide +kernel
theorem dX12_runTask_91 : decode cX12_runTask 91 = .ok (.iload_n 1, 1) := by decide +kernel
theorem dX12_runTask_92 : decode cX12_runTask 92 = .ok (.invokevirtual 676, 3) := by decide +kernel
theorem dX12_runTask_95 : decode cX12_runTask 95 = .ok (.aload_n 0, 1) := by decide +kernel
theorem dX12_runTask_96 : decode cX12_runTask 96 = .ok (.invokevirtual 767, 3) := by decide +kernel
theorem dX12_runTask_99 : decode cX12_runTask 99 = .ok (.aload_n 0, 1) := by decide +kernel
theorem dX12_runTask_100 : decode cX12_runTask 100 = .ok (.aload_n 0, 1) := by decide +kernel
theorem dX12_runTask_101 : decode cX12_runTask 101 = .ok (.getfield 557, 3) := by decide +kernel
theorem dX12_runTask_104 : decode cX12_runTask 104 = .ok (.ifCond .ne 10, 3) := by decide +kernel
theorem dX12_runTask_107 : decode cX12_runTask 107 = .ok (.aload_n 0, 1) := by decide +kernel
theorem dX12_runTask_108 : decode cX12_runTask 108 = .ok (.invokevirtual 594, 3) := by decide +kernel
theorem dX12_runTask_111 : decode cX12_runTask 111 = .ok (.goto 4, 3) := by decide +kernel
theorem dX12_runTask_114 : decode cX12_runTask 114 = .ok (.iconst (-1), 1) := by decide +kernel
theorem dX12_runTask_115 : decode cX12_runTask 115 = .ok (.invokevirtual 809, 3) := by decide +kernel
theorem dX12_runTask_118 : decode cX12_runTask 118 = .ok (.return_, 1) := by decide +kernel
theorem dX12_enterVariant_0 : decode cX12_enterVariant 0 = .ok (.aload_n 0, 1) := by decide +kernel
theorem dX12_enterVariant_1 : decode cX12_enterVariant 1 = .ok (.getfield 247, 3) := by decide +kernel
theorem dX12_enterVariant_4 : decode cX12_enterVariant 4 = .ok (.aload_n 0, 1) := by decide +kernel
theorem dX12_enterVariant_5 : decode cX12_enterVariant 5 = .ok (.getfield 661, 3) := by decide +kernel
theorem dX12_enterVariant_8 : decode cX12_enterVariant 8 = .ok (.iconst 1, 1) := by decide +kernel
theorem dX12_enterVariant_9 : decode cX12_enterVariant 9 = .ok (.isub, 1) := by decide +kernel
theorem dX12_enterVariant_10 : decode cX12_enterVariant 10 = .ok (.iload_n 2, 1) := by decide +kernel
theorem dX12_enterVariant_11 : decode cX12_enterVariant 11 = .ok (.iastore, 1) := by decide +kernel
theorem dX12_enterVariant_12 : decode cX12_enterVariant 12 = .ok (.aload_n 0, 1) := by decide +kernel
theorem dX12_enterVariant_13 : decode cX12_enterVariant 13 = .ok (.getfield 250, 3) := by decide +kernel
theorem dX12_enterVariant_16 : decode cX12_enterVariant 16 = .ok (.aload_n 0, 1) := by decide +kernel
theorem dX12_enterVariant_17 : decode cX12_enterVariant 17 = .ok (.getfield 661, 3) := by decide +kernel
theorem dX12_enterVariant_20 : decode cX12_enterVariant 20 = .ok (.iconst 1, 1) := by decide +kernel
theorem dX12_enterVariant_21 : decode cX12_enterVariant 21 = .ok (.isub, 1) := by decide +kernel
theorem dX12_enterVariant_22 : decode cX12_enterVariant 22 = .ok (.iload_n 1, 1) := by decide +kernel
theorem dX12_enterVariant_23 : decode cX12_enterVariant 23 = .ok (.iastore, 1) := by decide +kernel
theorem dX12_enterVariant_24 : decode cX12_enterVariant 24 = .ok (.return_, 1) := by decide +kernel
theorem dX12_valueOf_0 : decode cX12_valueOf 0 = .ok (.aload_n 0, 1) := by decide +kernel
theorem dX12_valueOf_1 : decode cX12_valueOf 1 = .ok (.getfield 175, 3) := by decide +kernel
theorem dX12_valueOf_4 : decode cX12_valueOf 4 = .ok (.iload_n 1, 1) := by decide +kernel
theorem dX12_valueOf_5 : decode cX12_valueOf 5 = .ok (.iaload, 1) := by decide +kernel
theorem dX12_valueOf_6 : decode cX12_valueOf 6 = .ok (.iconst 3, 1) := by decide +kernel
theorem dX12_valueOf_7 : decode cX12_valueOf 7 = .ok (.if_icmp .ne 22, 3) := by decide +kernel
theorem dX12_valueOf_10 : decode cX12_valueOf 10 = .ok (.aload_n 0, 1) := by decide +kernel
theorem dX12_valueOf_11 : decode cX12_valueOf 11 = .ok (.getfield 244, 3) := by decide +kernel
theorem dX12_valueOf_14 : decode cX12_valueOf 14 = .ok (.aload_n 0, 1) := by decide +kernel
theorem dX12_valueOf_15 : decode cX12_valueOf 15 = .ok (.getfield 812, 3) := by decide +kernel
theorem dX12_valueOf_18 : decode cX12_valueOf 18 = .ok (.aload_n 0, 1) := by decide +kernel
theorem dX12_valueOf_19 : decode cX12_valueOf 19 = .ok (.getfield 178, 3) := by decide +kernel
theorem dX12_valueOf_22 : decode cX12_valueOf 22 = .ok (.iload_n 1, 1) := by decide +kernel
theorem dX12_valueOf_23 : decode cX12_valueOf 23 = .ok (.iaload, 1) := by decide +kernel
theorem dX12_valueOf_24 : decode cX12_valueOf 24 = .ok (.iadd, 1) := by decide +kernel
theorem dX12_valueOf_25 : decode cX12_valueOf 25 = .ok (.iaload, 1) := by decide +kernel
theorem dX12_valueOf_26 : decode cX12_valueOf 26 = .ok (.goto 19, 3) := by decide +kernel
theorem dX12_valueOf_29 : decode cX12_valueOf 29 = .ok (.aload_n 0, 1) := by decide +kernel
theorem dX12_valueOf_30 : decode cX12_valueOf 30 = .ok (.aload_n 0, 1) := by decide +kernel
theorem dX12_valueOf_31 : decode cX12_valueOf 31 = .ok (.getfield 175, 3) := by decide +kernel
theorem dX12_valueOf_34 : decode cX12_valueOf 34 = .ok (.iload_n 1, 1) := by decide +kernel
theorem dX12_valueOf_35 : decode cX12_valueOf 35 = .ok (.iaload, 1) := by decide +kernel
theorem dX12_valueOf_36 : decode cX12_valueOf 36 = .ok (.aload_n 0, 1) := by decide +kernel
theorem dX12_valueOf_37 : decode cX12_valueOf 37 = .ok (.getfield 178, 3) := by decide +kernel
theorem dX12_valueOf_40 : decode cX12_valueOf 40 = .ok (.iload_n 1, 1) := by decide +kernel
theorem dX12_valueOf_41 : decode cX12_valueOf 41 = .ok (.iaload, 1) := by decide +kernel
theorem dX12_valueOf_42 : decode cX12_valueOf 42 = .ok (.invokevirtual 527, 3) := by decide +kernel
theorem dX12_valueOf_45 : decode cX12_valueOf 45 = .ok (.ireturn, 1) := by decide +kernel
theorem dX12_hold_0 : decode cX12_hold 0 = .ok (.aload_n 0, 1) := by decide +kernel
theorem dX12_hold_1 : decode cX12_hold 1 = .ok (.getfield 244, 3) := by decide +kernel
theorem dX12_hold_4 : decode cX12_hold 4 = .ok (.aload_n 0, 1) := by decide +kernel
theorem dX12_hold_5 : decode cX12_hold 5 = .ok (.getfield 812, 3) := by decide +kernel
theorem dX12_hold_8 : decode cX12_hold 8 = .ok (.aload_n 0, 1) := by decide +kernel
theorem dX12_hold_9 : decode cX12_hold 9 = .ok (.getfield 157, 3) := by decide +kernel
theorem dX12_hold_12 : decode cX12_hold 12 = .ok (.iload_n 1, 1) := by decide +kernel
theorem dX12_hold_13 : decode cX12_hold 13 = .ok (.iaload, 1) := by decide +kernel
theorem dX12_hold_14 : decode cX12_hold 14 = .ok (.iadd, 1) := by decide +kernel
theorem dX12_hold_15 : decode cX12_hold 15 = .ok (.iload_n 2, 1) := by decide +kernel
theorem dX12_hold_16 : decode cX12_hold 16 = .ok (.iastore, 1) := by decide +kernel
theorem dX12_hold_17 : decode cX12_hold 17 = .ok (.return_, 1) := by decide +kernel
theorem dX12_runResidue_0 : decode cX12_runResidue 0 = .ok (.aload_n 0, 1) := by decide +kernel
theorem dX12_runResidue_1 : decode cX12_runResidue 1 = .ok (.invokevirtual 806, 3) := by decide +kernel
theorem dX12_runResidue_4 : decode cX12_runResidue 4 = .ok (.iconst (-1), 1) := by decide +kernel
theorem dX12_runResidue_5 : decode cX12_runResidue 5 = .ok (.istore_n 1, 1) := by decide +kernel
theorem dX12_runResidue_6 : decode cX12_runResidue 6 = .ok (.aload_n 0, 1) := by decide +kernel
theorem dX12_runResidue_7 : decode cX12_runResidue 7 = .ok (.invokevirtual 673, 3) := by decide +kernel
theorem dX12_runResidue_10 : decode cX12_runResidue 10 = .ok (.ifCond .eq 157, 3) := by decide +kernel
theorem dX12_runResidue_13 : decode cX12_runResidue 13 = .ok (.aload_n 0, 1) := by decide +kernel
theorem dX12_runResidue_14 : decode cX12_runResidue 14 = .ok (.iconst 0, 1) := by decide +kernel
theorem dX12_runResidue_15 : decode cX12_runResidue 15 = .ok (.putfield 812, 3) := by decide +kernel
theorem dX12_runResidue_18 : decode cX12_runResidue 18 = .ok (.iconst 0, 1) := by decide +kernel
theorem dX12_runResidue_19 : decode cX12_runResidue 19 = .ok (.istore_n 2, 1) := by decide +kernel
theorem dX12_runResidue_20 : decode cX12_runResidue 20 = .ok (.iload_n 2, 1) := by decide +kernel
theorem dX12_runResidue_21 : decode cX12_runResidue 21 = .ok (.aload_n 0, 1) := by decide +kernel
theorem dX12_runResidue_22 : decode cX12_runResidue 22 = .ok (.getfield 509, 3) := by decide +kernel
theorem dX12_runResidue_25 : decode cX12_runResidue 25 = .ok (.if_icmp .ge 21, 3) := by decide +kernel
theorem dX12_runResidue_28 : decode cX12_runResidue 28 = .ok (.aload_n 0, 1) := by decide +kernel
theorem dX12_runResidue_29 : decode cX12_runResidue 29 = .ok (.getfield 244, 3) := by decide +kernel
theorem dX12_runResidue_32 : decode cX12_runResidue 32 = .ok (.iload_n 2, 1) := by decide +kernel
theorem dX12_runResidue_33 : decode cX12_runResidue 33 = .ok (.aload_n 0, 1) := by decide +kernel
theorem dX12_runResidue_34 : decode cX12_runResidue 34 = .ok (.getfield 124, 3) := by decide +kernel
theorem dX12_runResidue_37 : decode cX12_runResidue 37 = .ok (.iload_n 2, 1) := by decide +kernel
theorem dX12_runResidue_38 : decode cX12_runResidue 38 = .ok (.iaload, 1) := by decide +kernel
theorem dX12_runResidue_39 : decode cX12_runResidue 39 = .ok (.iastore, 1) := by decide +kernel
theorem dX12_runResidue_40 : decode cX12_runResidue 40 = .ok (.iinc 2 1, 3) := by decide +kernel
theorem dX12_runResidue_43 : decode cX12_runResidue 43 = .ok (.goto (-23), 3) := by decide +kernel
theorem dX12_runResidue_46 : decode cX12_runResidue 46 = .ok (.aload_n 0, 1) := by decide +kernel
theorem dX12_runResidue_47 : decode cX12_runResidue 47 = .ok (.iconst 0, 1) := by decide +kernel
theorem dX12_runResidue_48 : decode cX12_runResidue 48 = .ok (.iconst (-1), 1) := by decide +kernel
theorem dX12_runResidue_49 : decode cX12_runResidue 49 = .ok (.invokevirtual 815, 3) := by decide +kernel
theorem dX12_runResidue_52 : decode cX12_runResidue 52 = .ok (.aload_n 0, 1) := by decide +kernel
theorem dX12_runResidue_53 : decode cX12_runResidue 53 = .ok (.getfield 202, 3) := by decide +kernel
theorem dX12_runResidue_56 : decode cX12_runResidue 56 = .ok (.iconst 0, 1) := by decide +kernel
theorem dX12_runResidue_57 : decode cX12_runResidue 57 = .ok (.iaload, 1) := by decide +kernel
theorem dX12_runResidue_58 : decode cX12_runResidue 58 = .ok (.istore_n 2, 1) := by decide +kernel
theorem dX12_runResidue_59 : decode cX12_runResidue 59 = .ok (.iload_n 2, 1) := by decide +kernel
theorem dX12_runResidue_60 : decode cX12_runResidue 60 = .ok (.iconst (-1), 1) := by decide +kernel
theorem dX12_runResidue_61 : decode cX12_runResidue 61 = .ok (.if_icmp .eq 106, 3) := by decide +kernel
theorem dX12_runResidue_64 : decode cX12_runResidue 64 = .ok (.aload_n 0, 1) := by decide +kernel
theorem dX12_runResidue_65 : decode cX12_runResidue 65 = .ok (.getfield 557, 3) := by decide +kernel
theorem dX12_runResidue_68 : decode cX12_runResidue 68 = .ok (.ifCond .ne 99, 3) := by decide +kernel
theorem dX12_runResidue_71 : decode cX12_runResidue 71 = .ok (.aload_n 0, 1) := by decide +kernel
theorem dX12_runResidue_72 : decode cX12_runResidue 72 = .ok (.getfield 250, 3) := by decide +kernel
theorem dX12_runResidue_75 : decode cX12_runResidue 75 = .ok (.aload_n 0, 1) := by decide +kernel
theorem dX12_runResidue_76 : decode cX12_runResidue 76 = .ok (.getfield 661, 3) := by decide +kernel
theorem dX12_runResidue_79 : decode cX12_runResidue 79 = .ok (.iconst 1, 1) := by decide +kernel
theorem dX12_runResidue_80 : decode cX12_runResidue 80 = .ok (.isub, 1) := by decide +kernel
theorem dX12_runResidue_81 : decode cX12_runResidue 81 = .ok (.iaload, 1) := by decide +kernel
theorem dX12_runResidue_82 : decode cX12_runResidue 82 = .ok (.istore_n 3, 1) := by decide +kernel
theorem dX12_runResidue_83 : decode cX12_runResidue 83 = .ok (.iload_n 2, 1) := by decide +kernel
theorem dX12_runResidue_84 : decode cX12_runResidue 84 = .ok (.aload_n 0, 1) := by decide +kernel
theorem dX12_runResidue_85 : decode cX12_runResidue 85 = .ok (.getfield 205, 3) := by decide +kernel
theorem dX12_runResidue_88 : decode cX12_runResidue 88 = .ok (.iload_n 3, 1) := by decide +kernel
theorem dX12_runResidue_89 : decode cX12_runResidue 89 = .ok (.iaload, 1) := by decide +kernel
theorem dX12_runResidue_90 : decode cX12_runResidue 90 = .ok (.if_icmp .ge 12, 3) := by decide +kernel
theorem dX12_runResidue_93 : decode cX12_runResidue 93 = .ok (.aload_n 0, 1) := by decide +kernel
theorem dX12_runResidue_94 : decode cX12_runResidue 94 = .ok (.iload_n 2, 1) := by decide +kernel
theorem dX12_runResidue_95 : decode cX12_runResidue 95 = .ok (.invokevirtual 818, 3) := by decide +kernel
theorem dX12_runResidue_98 : decode cX12_runResidue 98 = .ok (.istore_n 2, 1) := by decide +kernel
theorem dX12_runResidue_99 : decode cX12_runResidue 99 = .ok (.goto (-40), 3) := by decide +kernel
theorem dX12_runResidue_102 : decode cX12_runResidue 102 = .ok (.aload_n 0, 1) := by decide +kernel
theorem dX12_runResidue_103 : decode cX12_runResidue 103 = .ok (.aload_n 0, 1) := by decide +kernel
theorem dX12_runResidue_104 : decode cX12_runResidue 104 = .ok (.getfield 208, 3) := by decide +kernel
theorem dX12_runResidue_107 : decode cX12_runResidue 107 = .ok (.iload_n 3, 1) := by decide +kernel
theorem dX12_runResidue_108 : decode cX12_runResidue 108 = .ok (.iaload, 1) := by decide +kernel
theorem dX12_runResidue_109 : decode cX12_runResidue 109 = .ok (.invokevirtual 821, 3) := by decide +kernel
theorem dX12_runResidue_112 : decode cX12_runResidue 112 = .ok (.istore_n 1, 1) := by decide +kernel
theorem dX12_runResidue_113 : decode cX12_runResidue 113 = .ok (.aload_n 0, 1) := by decide +kernel
theorem dX12_runResidue_114 : decode cX12_runResidue 114 = .ok (.getfield 247, 3) := by decide +kernel
theorem dX12_runResidue_117 : decode cX12_runResidue 117 = .ok (.aload_n 0, 1) := by decide +kernel
theorem dX12_runResidue_118 : decode cX12_runResidue 118 = .ok (.getfield 661, 3) := by decide +kernel
theorem dX12_runResidue_121 : decode cX12_runResidue 121 = .ok (.iconst 1, 1) := by decide +kernel
theorem dX12_runResidue_122 : decode cX12_runResidue 122 = .ok (.isub, 1) := by decide +kernel
theorem dX12_runResidue_123 : decode cX12_runResidue 123 = .ok (.iaload, 1) := by decide +kernel
theorem dX12_runResidue_124 : decode cX12_runResidue 124 = .ok (.istore_n 2, 1) := by decide +kernel
theorem dX12_runResidue_125 : decode cX12_runResidue 125 = .ok (.aload_n 0, 1) := by decide +kernel
theorem dX12_runResidue_126 : decode cX12_runResidue 126 = .ok (.dup, 1) := by decide +kernel
theorem dX12_runResidue_127 : decode cX12_runResidue 127 = .ok (.getfield 661, 3) := by decide +kernel
theorem dX12_runResidue_130 : decode cX12_runResidue 130 = .ok (.iconst 1, 1) := by decide +kernel
theorem dX12_runResidue_131 : decode cX12_runResidue 131 = .ok (.isub, 1) := by decide +kernel
theorem dX12_runResidue_132 : decode cX12_runResidue 132 = .ok (.putfield 661, 3) := by decide +kernel
theorem dX12_runResidue_135 : decode cX12_runResidue 135 = .ok (.aload_n 0, 1) := by decide +kernel
theorem dX12_runResidue_136 : decode cX12_runResidue 136 = .ok (.dup, 1) := by decide +kernel
theorem dX12_runResidue_137 : decode cX12_runResidue 137 = .ok (.getfield 812, 3) := by decide +kernel
theorem dX12_runResidue_140 : decode cX12_runResidue 140 = .ok (.sipush 320, 3) := by decide +kernel
theorem dX12_runResidue_143 : decode cX12_runResidue 143 = .ok (.isub, 1) := by decide +kernel
theorem dX12_runResidue_144 : decode cX12_runResidue 144 = .ok (.putfield 812, 3) := by decide +kernel
theorem dX12_runResidue_147 : decode cX12_runResidue 147 = .ok (.iload_n 2, 1) := by decide +kernel
theorem dX12_runResidue_148 : decode cX12_runResidue 148 = .ok (.iconst (-1), 1) := by decide +kernel
theorem dX12_runResidue_149 : decode cX12_runResidue 149 = .ok (.if_icmp .ne 6, 3) := by decide +kernel
theorem dX12_runResidue_152 : decode cX12_runResidue 152 = .ok (.goto (-93), 3) := by decide +kernel
theorem dX12_runResidue_155 : decode cX12_runResidue 155 = .ok (.aload_n 0, 1) := by decide +kernel
theorem dX12_runResidue_156 : decode cX12_runResidue 156 = .ok (.iload_n 2, 1) := by decide +kernel
theorem dX12_runResidue_157 : decode cX12_runResidue 157 = .ok (.iload_n 1, 1) := by decide +kernel
theorem dX12_runResidue_158 : decode cX12_runResidue 158 = .ok (.invokevirtual 824, 3) := by decide +kernel
theorem dX12_runResidue_161 : decode cX12_runResidue 161 = .ok (.iinc 2 1, 3) := by decide +kernel
theorem dX12_runResidue_164 : decode cX12_runResidue 164 = .ok (.goto (-105), 3) := by decide +kernel
theorem dX12_runResidue_167 : decode cX12_runResidue 167 = .ok (.aload_n 0, 1) := by decide +kernel
theorem dX12_runResidue_168 : decode cX12_runResidue 168 = .ok (.iload_n 1, 1) := by decide +kernel
theorem dX12_runResidue_169 : decode cX12_runResidue 169 = .ok (.invokevirtual 809, 3) := by decide +kernel
theorem dX12_runResidue_172 : decode cX12_runResidue 172 = .ok (.return_, 1) := by decide +kernel
theorem dX12_runItem_0 : decode cX12_runItem 0 = .ok (.aload_n 0, 1) := by decide +kernel
theorem dX12_runItem_1 : decode cX12_runItem 1 = .ok (.getfield 169, 3) := by decide +kernel
theorem dX12_runItem_4 : decode cX12_runItem 4 = .ok (.iload_n 1, 1) := by decide +kernel
theorem dX12_runItem_5 : decode cX12_runItem 5 = .ok (.iaload, 1) := by decide +kernel
theorem dX12_runItem_6 : decode cX12_runItem 6 = .ok (.istore_n 2, 1) := by decide +kernel
theorem dX12_runItem_7 : decode cX12_runItem 7 = .ok (.aload_n 0, 1) := by decide +kernel
theorem dX12_runItem_8 : decode cX12_runItem 8 = .ok (.getfield 154, 3) := by decide +kernel
theorem dX12_runItem_11 : decode cX12_runItem 11 = .ok (.iload_n 1, 1) := by decide +kernel
theorem dX12_runItem_12 : decode cX12_runItem 12 = .ok (.iaload, 1) := by decide +kernel
theorem dX12_runItem_13 : decode cX12_runItem 13 = .ok (.tableswitch 153 6 14 #[51, 136, 153, 153, 153, 123, 129, 94, 94], 51) := by decide +kernel
theorem dX12_runItem_64 : decode cX12_runItem 64 = .ok (.aload_n 0, 1) := by decide +kernel
theorem dX12_runItem_65 : decode cX12_runItem 65 = .ok (.aload_n 0, 1) := by decide +kernel
theorem dX12_runItem_66 : decode cX12_runItem 66 = .ok (.iload_n 2, 1) := by decide +kernel
theorem dX12_runItem_67 : decode cX12_runItem 67 = .ok (.invokevirtual 821, 3) := by decide +kernel
theorem dX12_runItem_70 : decode cX12_runItem 70 = .ok (.invokevirtual 597, 3) := by decide +kernel
theorem dX12_runItem_73 : decode cX12_runItem 73 = .ok (.istore_n 3, 1) := by decide +kernel
theorem dX12_runItem_74 : decode cX12_runItem 74 = .ok (.aload_n 0, 1) := by decide +kernel
theorem dX12_runItem_75 : decode cX12_runItem 75 = .ok (.getfield 106, 3) := by decide +kernel
theorem dX12_runItem_78 : decode cX12_runItem 78 = .ok (.iload_n 3, 1) := by decide +kernel
theorem dX12_runItem_79 : decode cX12_runItem 79 = .ok (.iaload, 1) := by decide +kernel
theorem dX12_runItem_80 : decode cX12_runItem 80 = .ok (.aload_n 0, 1) := by decide +kernel
theorem dX12_runItem_81 : decode cX12_runItem 81 = .ok (.getfield 109, 3) := by decide +kernel
theorem dX12_runItem_84 : decode cX12_runItem 84 = .ok (.iload_n 3, 1) := by decide +kernel
theorem dX12_runItem_85 : decode cX12_runItem 85 = .ok (.iaload, 1) := by decide +kernel
theorem dX12_runItem_86 : decode cX12_runItem 86 = .ok (.invokestatic 603, 3) := by decide +kernel
theorem dX12_runItem_89 : decode cX12_runItem 89 = .ok (.ifCond .eq 9, 3) := by decide +kernel
theorem dX12_runItem_92 : decode cX12_runItem 92 = .ok (.iload_n 1, 1) := by decide +kernel
theorem dX12_runItem_93 : decode cX12_runItem 93 = .ok (.iconst 1, 1) := by decide +kernel
theorem dX12_runItem_94 : decode cX12_runItem 94 = .ok (.iadd, 1) := by decide +kernel
theorem dX12_runItem_95 : decode cX12_runItem 95 = .ok (.goto 11, 3) := by decide +kernel
theorem dX12_runItem_98 : decode cX12_runItem 98 = .ok (.aload_n 0, 1) := by decide +kernel
theorem dX12_runItem_99 : decode cX12_runItem 99 = .ok (.getfield 163, 3) := by decide +kernel
theorem dX12_runItem_102 : decode cX12_runItem 102 = .ok (.iload_n 1, 1) := by decide +kernel
theorem dX12_runItem_103 : decode cX12_runItem 103 = .ok (.iaload, 1) := by decide +kernel
theorem dX12_runItem_104 : decode cX12_runItem 104 = .ok (.iconst 1, 1) := by decide +kernel
theorem dX12_runItem_105 : decode cX12_runItem 105 = .ok (.iadd, 1) := by decide +kernel
theorem dX12_runItem_106 : decode cX12_runItem 106 = .ok (.ireturn, 1) := by decide +kernel
theorem dX12_runItem_107 : decode cX12_runItem 107 = .ok (.aload_n 0, 1) := by decide +kernel
theorem dX12_runItem_108 : decode cX12_runItem 108 = .ok (.aload_n 0, 1) := by decide +kernel
theorem dX12_runItem_109 : decode cX12_runItem 109 = .ok (.getfield 160, 3) := by decide +kernel
theorem dX12_runItem_112 : decode cX12_runItem 112 = .ok (.iload_n 1, 1) := by decide +kernel
theorem dX12_runItem_113 : decode cX12_runItem 113 = .ok (.iaload, 1) := by decide +kernel
theorem dX12_runItem_114 : decode cX12_runItem 114 = .ok (.aload_n 0, 1) := by decide +kernel
theorem dX12_runItem_115 : decode cX12_runItem 115 = .ok (.iload_n 2, 1) := by decide +kernel
theorem dX12_runItem_116 : decode cX12_runItem 116 = .ok (.invokevirtual 821, 3) := by decide +kernel
theorem dX12_runItem_119 : decode cX12_runItem 119 = .ok (.invokevirtual 824, 3) := by decide +kernel
theorem dX12_runItem_122 : decode cX12_runItem 122 = .ok (.aload_n 0, 1) := by decide +kernel
theorem dX12_runItem_123 : decode cX12_runItem 123 = .ok (.getfield 166, 3) := by decide +kernel
theorem dX12_runItem_126 : decode cX12_runItem 126 = .ok (.aload_n 0, 1) := by decide +kernel
theorem dX12_runItem_127 : decode cX12_runItem 127 = .ok (.getfield 160, 3) := by decide +kernel
theorem dX12_runItem_130 : decode cX12_runItem 130 = .ok (.iload_n 1, 1) := by decide +kernel
theorem dX12_runItem_131 : decode cX12_runItem 131 = .ok (.iaload, 1) := by decide +kernel
theorem dX12_runItem_132 : decode cX12_runItem 132 = .ok (.iaload, 1) := by decide +kernel
theorem dX12_runItem_133 : decode cX12_runItem 133 = .ok (.iconst 1, 1) := by decide +kernel
theorem dX12_runItem_134 : decode cX12_runItem 134 = .ok (.iadd, 1) := by decide +kernel
theorem dX12_runItem_135 : decode cX12_runItem 135 = .ok (.ireturn, 1) := by decide +kernel
theorem dX12_runItem_136 : decode cX12_runItem 136 = .ok (.aload_n 0, 1) := by decide +kernel
theorem dX12_runItem_137 : decode cX12_runItem 137 = .ok (.iload_n 1, 1) := by decide +kernel
theorem dX12_runItem_138 : decode cX12_runItem 138 = .ok (.invokevirtual 827, 3) := by decide +kernel
theorem dX12_runItem_141 : decode cX12_runItem 141 = .ok (.ireturn, 1) := by decide +kernel
theorem dX12_runItem_142 : decode cX12_runItem 142 = .ok (.aload_n 0, 1) := by decide +kernel
theorem dX12_runItem_143 : decode cX12_runItem 143 = .ok (.iconst 4, 1) := by decide +kernel
theorem dX12_runItem_144 : decode cX12_runItem 144 = .ok (.putfield 557, 3) := by decide +kernel
theorem dX12_runItem_147 : decode cX12_runItem 147 = .ok (.iload_n 1, 1) := by decide +kernel
theorem dX12_runItem_148 : decode cX12_runItem 148 = .ok (.ireturn, 1) := by decide +kernel
theorem dX12_runItem_149 : decode cX12_runItem 149 = .ok (.aload_n 0, 1) := by decide +kernel
theorem dX12_runItem_150 : decode cX12_runItem 150 = .ok (.aload_n 0, 1) := by decide +kernel
theorem dX12_runItem_151 : decode cX12_runItem 151 = .ok (.aload_n 0, 1) := by decide +kernel
theorem dX12_runItem_152 : decode cX12_runItem 152 = .ok (.iload_n 2, 1) := by decide +kernel
theorem dX12_runItem_153 : decode cX12_runItem 153 = .ok (.invokevirtual 821, 3) := by decide +kernel
theorem dX12_runItem_156 : decode cX12_runItem 156 = .ok (.invokevirtual 597, 3) := by decide +kernel
theorem dX12_runItem_159 : decode cX12_runItem 159 = .ok (.invokevirtual 652, 3) := by decide +kernel
theorem dX12_runItem_162 : decode cX12_runItem 162 = .ok (.iload_n 1, 1) := by decide +kernel
theorem dX12_runItem_163 : decode cX12_runItem 163 = .ok (.iconst 1, 1) := by decide +kernel
theorem dX12_runItem_164 : decode cX12_runItem 164 = .ok (.iadd, 1) := by decide +kernel
theorem dX12_runItem_165 : decode cX12_runItem 165 = .ok (.ireturn, 1) := by decide +kernel
theorem dX12_runItem_166 : decode cX12_runItem 166 = .ok (.aload_n 0, 1) := by decide +kernel
theorem dX12_runItem_167 : decode cX12_runItem 167 = .ok (.iload_n 1, 1) := by decide +kernel
theorem dX12_runItem_168 : decode cX12_runItem 168 = .ok (.aload_n 0, 1) := by decide +kernel
theorem dX12_runItem_169 : decode cX12_runItem 169 = .ok (.iload_n 1, 1) := by decide +kernel
theorem dX12_runItem_170 : decode cX12_runItem 170 = .ok (.iload_n 2, 1) := by decide +kernel
theorem dX12_runItem_171 : decode cX12_runItem 171 = .ok (.invokevirtual 830, 3) := by decide +kernel
theorem dX12_runItem_174 : decode cX12_runItem 174 = .ok (.invokevirtual 824, 3) := by decide +kernel
theorem dX12_runItem_177 : decode cX12_runItem 177 = .ok (.iload_n 1, 1) := by decide +kernel
theorem dX12_runItem_178 : decode cX12_runItem 178 = .ok (.iconst 1, 1) := by decide +kernel
theorem dX12_runItem_179 : decode cX12_runItem 179 = .ok (.iadd, 1) := by decide +kernel
theorem dX12_runItem_180 : decode cX12_runItem 180 = .ok (.ireturn, 1) := by decide +kernel
theorem dX12_itemValue_0 : decode cX12_itemValue 0 = .ok (.aload_n 0, 1) := by decide +kernel
theorem dX12_itemValue_1 : decode cX12_itemValue 1 = .ok (.getfield 154, 3) := by decide +kernel
theorem dX12_itemValue_4 : decode cX12_itemValue 4 = .ok (.iload_n 1, 1) := by decide +kernel
theorem dX12_itemValue_5 : decode cX12_itemValue 5 = .ok (.iaload, 1) := by decide +kernel
theorem dX12_itemValue_6 : decode cX12_itemValue 6 = .ok (.istore_n 3, 1) := by decide +kernel
theorem dX12_itemValue_7 : decode cX12_itemValue 7 = .ok (.iload_n 3, 1) := by decide +kernel
theorem dX12_itemValue_8 : decode cX12_itemValue 8 = .ok (.bipush 9, 2) := by decide +kernel
theorem dX12_itemValue_10 : decode cX12_itemValue 10 = .ok (.if_icmp .ne 34, 3) := by decide +kernel
theorem dX12_itemValue_13 : decode cX12_itemValue 13 = .ok (.aload_n 0, 1) := by decide +kernel
theorem dX12_itemValue_14 : decode cX12_itemValue 14 = .ok (.aload_n 0, 1) := by decide +kernel
theorem dX12_itemValue_15 : decode cX12_itemValue 15 = .ok (.getfield 160, 3) := by decide +kernel
theorem dX12_itemValue_18 : decode cX12_itemValue 18 = .ok (.iload_n 1, 1) := by decide +kernel
theorem dX12_itemValue_19 : decode cX12_itemValue 19 = .ok (.iaload, 1) := by decide +kernel
theorem dX12_itemValue_20 : decode cX12_itemValue 20 = .ok (.iconst 4, 1) := by decide +kernel
theorem dX12_itemValue_21 : decode cX12_itemValue 21 = .ok (.if_icmp .ge 7, 3) := by decide +kernel
theorem dX12_itemValue_24 : decode cX12_itemValue 24 = .ok (.iconst 0, 1) := by decide +kernel
theorem dX12_itemValue_25 : decode cX12_itemValue 25 = .ok (.goto 4, 3) := by decide +kernel
theorem dX12_itemValue_28 : decode cX12_itemValue 28 = .ok (.iconst 1, 1) := by decide +kernel
theorem dX12_itemValue_29 : decode cX12_itemValue 29 = .ok (.aload_n 0, 1) := by decide +kernel
theorem dX12_itemValue_30 : decode cX12_itemValue 30 = .ok (.getfield 142, 3) := by decide +kernel
theorem dX12_itemValue_33 : decode cX12_itemValue 33 = .ok (.aload_n 0, 1) := by decide +kernel
theorem dX12_itemValue_34 : decode cX12_itemValue 34 = .ok (.getfield 160, 3) := by decide +kernel
theorem dX12_itemValue_37 : decode cX12_itemValue 37 = .ok (.iload_n 1, 1) := by decide +kernel
theorem dX12_itemValue_38 : decode cX12_itemValue 38 = .ok (.iaload, 1) := by decide +kernel
theorem dX12_itemValue_39 : decode cX12_itemValue 39 = .ok (.iaload, 1) := by decide +kernel
theorem dX12_itemValue_40 : decode cX12_itemValue 40 = .ok (.invokevirtual 527, 3) := by decide +kernel
theorem dX12_itemValue_43 : decode cX12_itemValue 43 = .ok (.ireturn, 1) := by decide +kernel
theorem dX12_itemValue_44 : decode cX12_itemValue 44 = .ok (.aload_n 0, 1) := by decide +kernel
theorem dX12_itemValue_45 : decode cX12_itemValue 45 = .ok (.iload_n 2, 1) := by decide +kernel
theorem dX12_itemValue_46 : decode cX12_itemValue 46 = .ok (.invokevirtual 821, 3) := by decide +kernel
theorem dX12_itemValue_49 : decode cX12_itemValue 49 = .ok (.istore 4, 2) := by decide +kernel
theorem dX12_itemValue_51 : decode cX12_itemValue 51 = .ok (.iload_n 3, 1) := by decide +kernel
theorem dX12_itemValue_52 : decode cX12_itemValue 52 = .ok (.bipush 10, 2) := by decide +kernel
theorem dX12_itemValue_54 : decode cX12_itemValue 54 = .ok (.if_icmp .ne 38, 3) := by decide +kernel
theorem dX12_itemValue_57 : decode cX12_itemValue 57 = .ok (.aload_n 0, 1) := by decide +kernel
theorem dX12_itemValue_58 : decode cX12_itemValue 58 = .ok (.iload 4, 2) := by decide +kernel
theorem dX12_itemValue_60 : decode cX12_itemValue 60 = .ok (.aload_n 0, 1) := by decide +kernel
theorem dX12_itemValue_61 : decode cX12_itemValue 61 = .ok (.iload_n 2, 1) := by decide +kernel
theorem dX12_itemValue_62 : decode cX12_itemValue 62 = .ok (.iconst 1, 1) := by decide +kernel
theorem dX12_itemValue_63 : decode cX12_itemValue 63 = .ok (.iadd, 1) := by decide +kernel
theorem dX12_itemValue_64 : decode cX12_itemValue 64 = .ok (.invokevirtual 821, 3) := by decide +kernel
theorem dX12_itemValue_67 : decode cX12_itemValue 67 = .ok (.invokevirtual 539, 3) := by decide +kernel
theorem dX12_itemValue_70 : decode cX12_itemValue 70 = .ok (.istore 5, 2) := by decide +kernel
theorem dX12_itemValue_72 : decode cX12_itemValue 72 = .ok (.aload_n 0, 1) := by decide +kernel
theorem dX12_itemValue_73 : decode cX12_itemValue 73 = .ok (.getfield 115, 3) := by decide +kernel
theorem dX12_itemValue_76 : decode cX12_itemValue 76 = .ok (.iload 5, 2) := by decide +kernel
theorem dX12_itemValue_78 : decode cX12_itemValue 78 = .ok (.iaload, 1) := by decide +kernel
theorem dX12_itemValue_79 : decode cX12_itemValue 79 = .ok (.bipush 40, 2) := by decide +kernel
theorem dX12_itemValue_81 : decode cX12_itemValue 81 = .ok (.if_icmp .le 8, 3) := by decide +kernel
theorem dX12_itemValue_84 : decode cX12_itemValue 84 = .ok (.aload_n 0, 1) := by decide +kernel
theorem dX12_itemValue_85 : decode cX12_itemValue 85 = .ok (.iconst 2, 1) := by decide +kernel
theorem dX12_itemValue_86 : decode cX12_itemValue 86 = .ok (.putfield 557, 3) := by decide +kernel
theorem dX12_itemValue_89 : decode cX12_itemValue 89 = .ok (.iload 5, 2) := by decide +kernel
theorem dX12_itemValue_91 : decode cX12_itemValue 91 = .ok (.ireturn, 1) := by decide +kernel
theorem dX12_itemValue_92 : decode cX12_itemValue 92 = .ok (.iload_n 3, 1) := by decide +kernel
theorem dX12_itemValue_93 : decode cX12_itemValue 93 = .ok (.iconst 4, 1) := by decide +kernel
theorem dX12_itemValue_94 : decode cX12_itemValue 94 = .ok (.if_icmp .ne 27, 3) := by decide +kernel
theorem dX12_itemValue_97 : decode cX12_itemValue 97 = .ok (.aload_n 0, 1) := by decide +kernel
theorem dX12_itemValue_98 : decode cX12_itemValue 98 = .ok (.getfield 106, 3) := by decide +kernel
theorem dX12_itemValue_101 : decode cX12_itemValue 101 = .ok (.iload 4, 2) := by decide +kernel
theorem dX12_itemValue_103 : decode cX12_itemValue 103 = .ok (.iaload, 1) := by decide +kernel
theorem dX12_itemValue_104 : decode cX12_itemValue 104 = .ok (.iconst 2, 1) := by decide +kernel
theorem dX12_itemValue_105 : decode cX12_itemValue 105 = .ok (.if_icmp .ne 13, 3) := by decide +kernel
theorem dX12_itemValue_108 : decode cX12_itemValue 108 = .ok (.aload_n 0, 1) := by decide +kernel
theorem dX12_itemValue_109 : decode cX12_itemValue 109 = .ok (.getfield 109, 3) := by decide +kernel
theorem dX12_itemValue_112 : decode cX12_itemValue 112 = .ok (.iload 4, 2) := by decide +kernel
theorem dX12_itemValue_114 : decode cX12_itemValue 114 = .ok (.iaload, 1) := by decide +kernel
theorem dX12_itemValue_115 : decode cX12_itemValue 115 = .ok (.goto 5, 3) := by decide +kernel
theorem dX12_itemValue_118 : decode cX12_itemValue 118 = .ok (.iload 4, 2) := by decide +kernel
theorem dX12_itemValue_120 : decode cX12_itemValue 120 = .ok (.ireturn, 1) := by decide +kernel
theorem dX12_itemValue_121 : decode cX12_itemValue 121 = .ok (.iload_n 3, 1) := by decide +kernel
theorem dX12_itemValue_122 : decode cX12_itemValue 122 = .ok (.iconst 5, 1) := by decide +kernel
theorem dX12_itemValue_123 : decode cX12_itemValue 123 = .ok (.if_icmp .ne 31, 3) := by decide +kernel
theorem dX12_itemValue_126 : decode cX12_itemValue 126 = .ok (.aload_n 0, 1) := by decide +kernel
theorem dX12_itemValue_127 : decode cX12_itemValue 127 = .ok (.getfield 106, 3) := by decide +kernel
theorem dX12_itemValue_130 : decode cX12_itemValue 130 = .ok (.iload 4, 2) := by decide +kernel
theorem dX12_itemValue_132 : decode cX12_itemValue 132 = .ok (.iaload, 1) := by decide +kernel
theorem dX12_itemValue_133 : decode cX12_itemValue 133 = .ok (.iconst 2, 1) := by decide +kernel
theorem dX12_itemValue_134 : decode cX12_itemValue 134 = .ok (.if_icmp .ne 13, 3) := by decide +kernel
theorem dX12_itemValue_137 : decode cX12_itemValue 137 = .ok (.aload_n 0, 1) := by decide +kernel
theorem dX12_itemValue_138 : decode cX12_itemValue 138 = .ok (.getfield 112, 3) := by decide +kernel
theorem dX12_itemValue_141 : decode cX12_itemValue 141 = .ok (.iload 4, 2) := by decide +kernel
theorem dX12_itemValue_143 : decode cX12_itemValue 143 = .ok (.iaload, 1) := by decide +kernel
theorem dX12_itemValue_144 : decode cX12_itemValue 144 = .ok (.goto 9, 3) := by decide +kernel
theorem dX12_itemValue_147 : decode cX12_itemValue 147 = .ok (.aload_n 0, 1) := by decide +kernel
theorem dX12_itemValue_148 : decode cX12_itemValue 148 = .ok (.iconst 0, 1) := by decide +kernel
theorem dX12_itemValue_149 : decode cX12_itemValue 149 = .ok (.iconst 0, 1) := by decide +kernel
theorem dX12_itemValue_150 : decode cX12_itemValue 150 = .ok (.invokevirtual 527, 3) := by decide +kernel
theorem dX12_itemValue_153 : decode cX12_itemValue 153 = .ok (.ireturn, 1) := by decide +kernel
theorem dX12_itemValue_154 : decode cX12_itemValue 154 = .ok (.aload_n 0, 1) := by decide +kernel
theorem dX12_itemValue_155 : decode cX12_itemValue 155 = .ok (.iload 4, 2) := by decide +kernel
theorem dX12_itemValue_157 : decode cX12_itemValue 157 = .ok (.invokevirtual 597, 3) := by decide +kernel
theorem dX12_itemValue_160 : decode cX12_itemValue 160 = .ok (.istore 5, 2) := by decide +kernel
theorem dX12_itemValue_162 : decode cX12_itemValue 162 = .ok (.iload_n 3, 1) := by decide +kernel
theorem dX12_itemValue_163 : decode cX12_itemValue 163 = .ok (.ifCond .ne 57, 3) := by decide +kernel
theorem dX12_itemValue_166 : decode cX12_itemValue 166 = .ok (.aload_n 0, 1) := by decide +kernel
theorem dX12_itemValue_167 : decode cX12_itemValue 167 = .ok (.aload_n 0, 1) := by decide +kernel
theorem dX12_itemValue_168 : decode cX12_itemValue 168 = .ok (.iload_n 2, 1) := by decide +kernel
theorem dX12_itemValue_169 : decode cX12_itemValue 169 = .ok (.iconst 1, 1) := by decide +kernel
theorem dX12_itemValue_170 : decode cX12_itemValue 170 = .ok (.iadd, 1) := by decide +kernel
theorem dX12_itemValue_171 : decode cX12_itemValue 171 = .ok (.invokevirtual 821, 3) := by decide +kernel
theorem dX12_itemValue_174 : decode cX12_itemValue 174 = .ok (.invokevirtual 597, 3) := by decide +kernel
theorem dX12_itemValue_177 : decode cX12_itemValue 177 = .ok (.istore 6, 2) := by decide +kernel
theorem dX12_itemValue_179 : decode cX12_itemValue 179 = .ok (.aload_n 0, 1) := by decide +kernel
theorem dX12_itemValue_180 : decode cX12_itemValue 180 = .ok (.aload_n 0, 1) := by decide +kernel
theorem dX12_itemValue_181 : decode cX12_itemValue 181 = .ok (.getfield 160, 3) := by decide +kernel
theorem dX12_itemValue_184 : decode cX12_itemValue 184 = .ok (.iload_n 1, 1) := by decide +kernel
theorem dX12_itemValue_185 : decode cX12_itemValue 185 = .ok (.iaload, 1) := by decide +kernel
theorem dX12_itemValue_186 : decode cX12_itemValue 186 = .ok (.aload_n 0, 1) := by decide +kernel
theorem dX12_itemValue_187 : decode cX12_itemValue 187 = .ok (.getfield 106, 3) := by decide +kernel
theorem dX12_itemValue_190 : decode cX12_itemValue 190 = .ok (.iload 5, 2) := by decide +kernel
theorem dX12_itemValue_192 : decode cX12_itemValue 192 = .ok (.iaload, 1) := by decide +kernel
theorem dX12_itemValue_193 : decode cX12_itemValue 193 = .ok (.aload_n 0, 1) := by decide +kernel
theorem dX12_itemValue_194 : decode cX12_itemValue 194 = .ok (.getfield 109, 3) := by decide +kernel
theorem dX12_itemValue_197 : decode cX12_itemValue 197 = .ok (.iload 5, 2) := by decide +kernel
theorem dX12_itemValue_199 : decode cX12_itemValue 199 = .ok (.iaload, 1) := by decide +kernel
theorem dX12_itemValue_200 : decode cX12_itemValue 200 = .ok (.aload_n 0, 1) := by decide +kernel
theorem dX12_itemValue_201 : decode cX12_itemValue 201 = .ok (.getfield 106, 3) := by decide +kernel
theorem dX12_itemValue_204 : decode cX12_itemValue 204 = .ok (.iload 6, 2) := by decide +kernel
theorem dX12_itemValue_206 : decode cX12_itemValue 206 = .ok (.iaload, 1) := by decide +kernel
theorem dX12_itemValue_207 : decode cX12_itemValue 207 = .ok (.aload_n 0, 1) := by decide +kernel
theorem dX12_itemValue_208 : decode cX12_itemValue 208 = .ok (.getfield 109, 3) := by decide +kernel
theorem dX12_itemValue_211 : decode cX12_itemValue 211 = .ok (.iload 6, 2) := by decide +kernel
theorem dX12_itemValue_213 : decode cX12_itemValue 213 = .ok (.iaload, 1) := by decide +kernel
theorem dX12_itemValue_214 : decode cX12_itemValue 214 = .ok (.invokevirtual 348, 3) := by decide +kernel
theorem dX12_itemValue_217 : decode cX12_itemValue 217 = .ok (.goto 60, 3) := by decide +kernel
theorem dX12_itemValue_220 : decode cX12_itemValue 220 = .ok (.iload_n 3, 1) := by decide +kernel
theorem dX12_itemValue_221 : decode cX12_itemValue 221 = .ok (.bipush 8, 2) := by decide +kernel
theorem dX12_itemValue_223 : decode cX12_itemValue 223 = .ok (.if_icmp .ne 33, 3) := by decide +kernel
theorem dX12_itemValue_226 : decode cX12_itemValue 226 = .ok (.aload_n 0, 1) := by decide +kernel
theorem dX12_itemValue_227 : decode cX12_itemValue 227 = .ok (.aload_n 0, 1) := by decide +kernel
theorem dX12_itemValue_228 : decode cX12_itemValue 228 = .ok (.getfield 160, 3) := by decide +kernel
theorem dX12_itemValue_231 : decode cX12_itemValue 231 = .ok (.iload_n 1, 1) := by decide +kernel
theorem dX12_itemValue_232 : decode cX12_itemValue 232 = .ok (.iaload, 1) := by decide +kernel
theorem dX12_itemValue_233 : decode cX12_itemValue 233 = .ok (.iload 5, 2) := by decide +kernel
theorem dX12_itemValue_235 : decode cX12_itemValue 235 = .ok (.invokevirtual 655, 3) := by decide +kernel
theorem dX12_itemValue_238 : decode cX12_itemValue 238 = .ok (.aload_n 0, 1) := by decide +kernel
theorem dX12_itemValue_239 : decode cX12_itemValue 239 = .ok (.getfield 142, 3) := by decide +kernel
theorem dX12_itemValue_242 : decode cX12_itemValue 242 = .ok (.aload_n 0, 1) := by decide +kernel
theorem dX12_itemValue_243 : decode cX12_itemValue 243 = .ok (.getfield 160, 3) := by decide +kernel
theorem dX12_itemValue_246 : decode cX12_itemValue 246 = .ok (.iload_n 1, 1) := by decide +kernel
theorem dX12_itemValue_247 : decode cX12_itemValue 247 = .ok (.iaload, 1) := by decide +kernel
theorem dX12_itemValue_248 : decode cX12_itemValue 248 = .ok (.aload_n 0, 1) := by decide +kernel
theorem dX12_itemValue_249 : decode cX12_itemValue 249 = .ok (.getfield 308, 3) := by decide +kernel
theorem dX12_itemValue_252 : decode cX12_itemValue 252 = .ok (.iastore, 1) := by decide +kernel
theorem dX12_itemValue_253 : decode cX12_itemValue 253 = .ok (.goto 24, 3) := by decide +kernel
theorem dX12_itemValue_256 : decode cX12_itemValue 256 = .ok (.aload_n 0, 1) := by decide +kernel
theorem dX12_itemValue_257 : decode cX12_itemValue 257 = .ok (.iload_n 3, 1) := by decide +kernel
theorem dX12_itemValue_258 : decode cX12_itemValue 258 = .ok (.iconst 1, 1) := by decide +kernel
theorem dX12_itemValue_259 : decode cX12_itemValue 259 = .ok (.isub, 1) := by decide +kernel
theorem dX12_itemValue_260 : decode cX12_itemValue 260 = .ok (.aload_n 0, 1) := by decide +kernel
theorem dX12_itemValue_261 : decode cX12_itemValue 261 = .ok (.getfield 106, 3) := by decide +kernel
theorem dX12_itemValue_264 : decode cX12_itemValue 264 = .ok (.iload 5, 2) := by decide +kernel
theorem dX12_itemValue_266 : decode cX12_itemValue 266 = .ok (.iaload, 1) := by decide +kernel
theorem dX12_itemValue_267 : decode cX12_itemValue 267 = .ok (.aload_n 0, 1) := by decide +kernel
theorem dX12_itemValue_268 : decode cX12_itemValue 268 = .ok (.getfield 109, 3) := by decide +kernel
theorem dX12_itemValue_271 : decode cX12_itemValue 271 = .ok (.iload 5, 2) := by decide +kernel
theorem dX12_itemValue_273 : decode cX12_itemValue 273 = .ok (.iaload, 1) := by decide +kernel
theorem dX12_itemValue_274 : decode cX12_itemValue 274 = .ok (.invokevirtual 646, 3) := by decide +kernel
theorem dX12_itemValue_277 : decode cX12_itemValue 277 = .ok (.aload_n 0, 1) := by decide +kernel
theorem dX12_itemValue_278 : decode cX12_itemValue 278 = .ok (.invokevirtual 636, 3) := by decide +kernel
theorem dX12_itemValue_281 : decode cX12_itemValue 281 = .ok (.ireturn, 1) := by decide +kernel
theorem dX12_runCall_0 : decode cX12_runCall 0 = .ok (.aload_n 0, 1) := by decide +kernel
theorem dX12_runCall_1 : decode cX12_runCall 1 = .ok (.invokevirtual 673, 3) := by decide +kernel
theorem dX12_runCall_4 : decode cX12_runCall 4 = .ok (.ifCond .ne 5, 3) := by decide +kernel
theorem dX12_runCall_7 : decode cX12_runCall 7 = .ok (.iload_n 1, 1) := by decide +kernel
theorem dX12_runCall_8 : decode cX12_runCall 8 = .ok (.ireturn, 1) := by decide +kernel
theorem dX12_runCall_9 : decode cX12_runCall 9 = .ok (.iconst 0, 1) := by decide +kernel
theorem dX12_runCall_10 : decode cX12_runCall 10 = .ok (.istore_n 2, 1) := by decide +kernel
theorem dX12_runCall_11 : decode cX12_runCall 11 = .ok (.iload_n 2, 1) := by decide +kernel
theorem dX12_runCall_12 : decode cX12_runCall 12 = .ok (.aload_n 0, 1) := by decide +kernel
theorem dX12_runCall_13 : decode cX12_runCall 13 = .ok (.getfield 172, 3) := by decide +kernel
theorem dX12_runCall_16 : decode cX12_runCall 16 = .ok (.iload_n 1, 1) := by decide +kernel
theorem dX12_runCall_17 : decode cX12_runCall 17 = .ok (.iaload, 1) := by decide +kernel
theorem dX12_runCall_18 : decode cX12_runCall 18 = .ok (.if_icmp .ge 36, 3) := by decide +kernel
theorem dX12_runCall_21 : decode cX12_runCall 21 = .ok (.aload_n 0, 1) := by decide +kernel
theorem dX12_runCall_22 : decode cX12_runCall 22 = .ok (.getfield 244, 3) := by decide +kernel
theorem dX12_runCall_25 : decode cX12_runCall 25 = .ok (.aload_n 0, 1) := by decide +kernel
theorem dX12_runCall_26 : decode cX12_runCall 26 = .ok (.getfield 812, 3) := by decide +kernel
theorem dX12_runCall_29 : decode cX12_runCall 29 = .ok (.sipush 320, 3) := by decide +kernel
theorem dX12_runCall_32 : decode cX12_runCall 32 = .ok (.iadd, 1) := by decide +kernel
theorem dX12_runCall_33 : decode cX12_runCall 33 = .ok (.iload_n 2, 1) := by decide +kernel
theorem dX12_runCall_34 : decode cX12_runCall 34 = .ok (.iadd, 1) := by decide +kernel
theorem dX12_runCall_35 : decode cX12_runCall 35 = .ok (.aload_n 0, 1) := by decide +kernel
theorem dX12_runCall_36 : decode cX12_runCall 36 = .ok (.aload_n 0, 1) := by decide +kernel
theorem dX12_runCall_37 : decode cX12_runCall 37 = .ok (.getfield 169, 3) := by decide +kernel
theorem dX12_runCall_40 : decode cX12_runCall 40 = .ok (.iload_n 1, 1) := by decide +kernel
theorem dX12_runCall_41 : decode cX12_runCall 41 = .ok (.iaload, 1) := by decide +kernel
theorem dX12_runCall_42 : decode cX12_runCall 42 = .ok (.iload_n 2, 1) := by decide +kernel
theorem dX12_runCall_43 : decode cX12_runCall 43 = .ok (.iadd, 1) := by decide +kernel
theorem dX12_runCall_44 : decode cX12_runCall 44 = .ok (.invokevirtual 821, 3) := by decide +kernel
theorem dX12_runCall_47 : decode cX12_runCall 47 = .ok (.iastore, 1) := by decide +kernel
theorem dX12_runCall_48 : decode cX12_runCall 48 = .ok (.iinc 2 1, 3) := by decide +kernel
theorem dX12_runCall_51 : decode cX12_runCall 51 = .ok (.goto (-40), 3) := by decide +kernel
theorem dX12_runCall_54 : decode cX12_runCall 54 = .ok (.aload_n 0, 1) := by decide +kernel
theorem dX12_runCall_55 : decode cX12_runCall 55 = .ok (.dup, 1) := by decide +kernel
theorem dX12_runCall_56 : decode cX12_runCall 56 = .ok (.getfield 812, 3) := by decide +kernel
theorem dX12_runCall_59 : decode cX12_runCall 59 = .ok (.sipush 320, 3) := by decide +kernel
theorem dX12_runCall_62 : decode cX12_runCall 62 = .ok (.iadd, 1) := by decide +kernel
theorem dX12_runCall_63 : decode cX12_runCall 63 = .ok (.putfield 812, 3) := by decide +kernel
theorem dX12_runCall_66 : decode cX12_runCall 66 = .ok (.aload_n 0, 1) := by decide +kernel
theorem dX12_runCall_67 : decode cX12_runCall 67 = .ok (.aload_n 0, 1) := by decide +kernel
theorem dX12_runCall_68 : decode cX12_runCall 68 = .ok (.getfield 160, 3) := by decide +kernel
theorem dX12_runCall_71 : decode cX12_runCall 71 = .ok (.iload_n 1, 1) := by decide +kernel
theorem dX12_runCall_72 : decode cX12_runCall 72 = .ok (.iaload, 1) := by decide +kernel
theorem dX12_runCall_73 : decode cX12_runCall 73 = .ok (.iload_n 1, 1) := by decide +kernel
theorem dX12_runCall_74 : decode cX12_runCall 74 = .ok (.invokevirtual 815, 3) := by decide +kernel
theorem dX12_runCall_77 : decode cX12_runCall 77 = .ok (.aload_n 0, 1) := by decide +kernel
theorem dX12_runCall_78 : decode cX12_runCall 78 = .ok (.getfield 202, 3) := by decide +kernel
theorem dX12_runCall_81 : decode cX12_runCall 81 = .ok (.aload_n 0, 1) := by decide +kernel
theorem dX12_runCall_82 : decode cX12_runCall 82 = .ok (.getfield 160, 3) := by decide +kernel
theorem dX12_runCall_85 : decode cX12_runCall 85 = .ok (.iload_n 1, 1) := by decide +kernel
theorem dX12_runCall_86 : decode cX12_runCall 86 = .ok (.iaload, 1) := by decide +kernel
theorem dX12_runCall_87 : decode cX12_runCall 87 = .ok (.iaload, 1) := by decide +kernel
theorem dX12_runCall_88 : decode cX12_runCall 88 = .ok (.ireturn, 1) := by decide +kernel
theorem dX12_canRun_0 : decode cX12_canRun 0 = .ok (.iload_n 1, 1) := by decide +kernel
theorem dX12_canRun_1 : decode cX12_canRun 1 = .ok (.ifCond .eq 15, 3) := by decide +kernel
theorem dX12_canRun_4 : decode cX12_canRun 4 = .ok (.iload_n 1, 1) := by decide +kernel
theorem dX12_canRun_5 : decode cX12_canRun 5 = .ok (.iconst 1, 1) := by decide +kernel
theorem dX12_canRun_6 : decode cX12_canRun 6 = .ok (.if_icmp .ne 25, 3) := by decide +kernel
theorem dX12_canRun_9 : decode cX12_canRun 9 = .ok (.aload_n 0, 1) := by decide +kernel
theorem dX12_canRun_10 : decode cX12_canRun 10 = .ok (.getfield 464, 3) := by decide +kernel
theorem dX12_canRun_13 : decode cX12_canRun 13 = .ok (.ifCond .eq 18, 3) := by decide +kernel
theorem dX12_canRun_16 : decode cX12_canRun 16 = .ok (.aload_n 0, 1) := by decide +kernel
theorem dX12_canRun_17 : decode cX12_canRun 17 = .ok (.getfield 512, 3) := by decide +kernel
theorem dX12_canRun_20 : decode cX12_canRun 20 = .ok (.aload_n 0, 1) := by decide +kernel
theorem dX12_canRun_21 : decode cX12_canRun 21 = .ok (.getfield 509, 3) := by decide +kernel
theorem dX12_canRun_24 : decode cX12_canRun 24 = .ok (.if_icmp .ne 7, 3) := by decide +kernel
theorem dX12_canRun_27 : decode cX12_canRun 27 = .ok (.iconst 1, 1) := by decide +kernel
theorem dX12_canRun_28 : decode cX12_canRun 28 = .ok (.goto 4, 3) := by decide +kernel
theorem dX12_canRun_31 : decode cX12_canRun 31 = .ok (.iconst 0, 1) := by decide +kernel
theorem dX12_canRun_32 : decode cX12_canRun 32 = .ok (.ireturn, 1) := by decide +kernel
theorem dX12_runNow_0 : decode cX12_runNow 0 = .ok (.iload_n 1, 1) := by decide +kernel
theorem dX12_runNow_1 : decode cX12_runNow 1 = .ok (.ifCond .ne 10, 3) := by decide +kernel
theorem dX12_runNow_4 : decode cX12_runNow 4 = .ok (.aload_n 0, 1) := by decide +kernel
theorem dX12_runNow_5 : decode cX12_runNow 5 = .ok (.invokevirtual 833, 3) := by decide +kernel
theorem dX12_runNow_8 : decode cX12_runNow 8 = .ok (.goto 7, 3) := by decide +kernel
theorem dX12_runNow_11 : decode cX12_runNow 11 = .ok (.aload_n 0, 1) := by decide +kernel
theorem dX12_runNow_12 : decode cX12_runNow 12 = .ok (.invokevirtual 836, 3) := by decide +kernel
theorem dX12_runNow_15 : decode cX12_runNow 15 = .ok (.return_, 1) := by decide +kernel
theorem dX12_run_0 : decode cX12_run 0 = .ok (.aload_n 0, 1) := by decide +kernel
theorem dX12_run_1 : decode cX12_run 1 = .ok (.iload_n 1, 1) := by decide +kernel
theorem dX12_run_2 : decode cX12_run 2 = .ok (.invokevirtual 839, 3) := by decide +kernel
theorem dX12_run_5 : decode cX12_run 5 = .ok (.ifCond .eq 12, 3) := by decide +kernel
theorem dX12_run_8 : decode cX12_run 8 = .ok (.iload_n 2, 1) := by decide +kernel
theorem dX12_run_9 : decode cX12_run 9 = .ok (.iconst 0, 1) := by decide +kernel
theorem dX12_run_10 : decode cX12_run 10 = .ok (.iconst 5, 1) := by decide +kernel
theorem dX12_run_11 : decode cX12_run 11 = .ok (.invokestatic 359, 3) := by decide +kernel
theorem dX12_run_14 : decode cX12_run 14 = .ok (.ifCond .ne 5, 3) := by decide +kernel
theorem dX12_run_17 : decode cX12_run 17 = .ok (.iconst (-1), 1) := by decide +kernel
theorem dX12_run_18 : decode cX12_run 18 = .ok (.ireturn, 1) := by decide +kernel
theorem dX12_run_19 : decode cX12_run 19 = .ok (.aload_n 0, 1) := by decide +kernel
theorem dX12_run_20 : decode cX12_run 20 = .ok (.iload_n 1, 1) := by decide +kernel
theorem dX12_run_21 : decode cX12_run 21 = .ok (.invokevirtual 842, 3) := by decide +kernel
theorem dX12_run_24 : decode cX12_run 24 = .ok (.aload_n 0, 1) := by decide +kernel
theorem dX12_run_25 : decode cX12_run 25 = .ok (.aload_n 0, 1) := by decide +kernel
theorem dX12_run_26 : decode cX12_run 26 = .ok (.getfield 649, 3) := by decide +kernel
theorem dX12_run_29 : decode cX12_run 29 = .ok (.bipush 60, 2) := by decide +kernel
theorem dX12_run_31 : decode cX12_run 31 = .ok (.if_icmp .ge 10, 3) := by decide +kernel
theorem dX12_run_34 : decode cX12_run 34 = .ok (.aload_n 0, 1) := by decide +kernel
theorem dX12_run_35 : decode cX12_run 35 = .ok (.getfield 649, 3) := by decide +kernel
theorem dX12_run_38 : decode cX12_run 38 = .ok (.goto 5, 3) := by decide +kernel
theorem dX12_run_41 : decode cX12_run 41 = .ok (.bipush 60, 2) := by decide +kernel
theorem dX12_run_43 : decode cX12_run 43 = .ok (.putfield 845, 3) := by decide +kernel
theorem dX12_run_46 : decode cX12_run 46 = .ok (.aload_n 0, 1) := by decide +kernel
theorem dX12_run_47 : decode cX12_run 47 = .ok (.getfield 145, 3) := by decide +kernel
theorem dX12_run_50 : decode cX12_run 50 = .ok (.iconst 0, 1) := by decide +kernel
theorem dX12_run_51 : decode cX12_run 51 = .ok (.aload_n 0, 1) := by decide +kernel
theorem dX12_run_52 : decode cX12_run 52 = .ok (.getfield 845, 3) := by decide +kernel
theorem dX12_run_55 : decode cX12_run 55 = .ok (.aload_n 0, 1) := by decide +kernel
theorem dX12_run_56 : decode cX12_run 56 = .ok (.getfield 253, 3) := by decide +kernel
theorem dX12_run_59 : decode cX12_run 59 = .ok (.iconst 0, 1) := by decide +kernel
theorem dX12_run_60 : decode cX12_run 60 = .ok (.invokestatic 471, 3) := by decide +kernel
theorem dX12_run_63 : decode cX12_run 63 = .ok (.aload_n 0, 1) := by decide +kernel
theorem dX12_run_64 : decode cX12_run 64 = .ok (.getfield 148, 3) := by decide +kernel
theorem dX12_run_67 : decode cX12_run 67 = .ok (.iconst 0, 1) := by decide +kernel
theorem dX12_run_68 : decode cX12_run 68 = .ok (.aload_n 0, 1) := by decide +kernel
theorem dX12_run_69 : decode cX12_run 69 = .ok (.getfield 845, 3) := by decide +kernel
theorem dX12_run_72 : decode cX12_run 72 = .ok (.aload_n 0, 1) := by decide +kernel
theorem dX12_run_73 : decode cX12_run 73 = .ok (.getfield 256, 3) := by decide +kernel
theorem dX12_run_76 : decode cX12_run 76 = .ok (.iconst 0, 1) := by decide +kernel
theorem dX12_run_77 : decode cX12_run 77 = .ok (.invokestatic 471, 3) := by decide +kernel
theorem dX12_run_80 : decode cX12_run 80 = .ok (.aload_n 0, 1) := by decide +kernel
theorem dX12_run_81 : decode cX12_run 81 = .ok (.getfield 142, 3) := by decide +kernel
theorem dX12_run_84 : decode cX12_run 84 = .ok (.iconst 0, 1) := by decide +kernel
theorem dX12_run_85 : decode cX12_run 85 = .ok (.bipush 8, 2) := by decide +kernel
theorem dX12_run_87 : decode cX12_run 87 = .ok (.aload_n 0, 1) := by decide +kernel
theorem dX12_run_88 : decode cX12_run 88 = .ok (.getfield 259, 3) := by decide +kernel
theorem dX12_run_91 : decode cX12_run 91 = .ok (.iconst 0, 1) := by decide +kernel
theorem dX12_run_92 : decode cX12_run 92 = .ok (.invokestatic 471, 3) := by decide +kernel
theorem dX12_run_95 : decode cX12_run 95 = .ok (.aload_n 0, 1) := by decide +kernel
theorem dX12_run_96 : decode cX12_run 96 = .ok (.getfield 557, 3) := by decide +kernel
theorem dX12_run_99 : decode cX12_run 99 = .ok (.ifCond .ne 45, 3) := by decide +kernel
theorem dX12_run_102 : decode cX12_run 102 = .ok (.aload_n 0, 1) := by decide +kernel
theorem dX12_run_103 : decode cX12_run 103 = .ok (.aload_n 0, 1) := by decide +kernel
theorem dX12_run_104 : decode cX12_run 104 = .ok (.getfield 797, 3) := by decide +kernel
theorem dX12_run_107 : decode cX12_run 107 = .ok (.putfield 848, 3) := by decide +kernel
theorem dX12_run_110 : decode cX12_run 110 = .ok (.aload_n 0, 1) := by decide +kernel
theorem dX12_run_111 : decode cX12_run 111 = .ok (.getfield 238, 3) := by decide +kernel
theorem dX12_run_114 : decode cX12_run 114 = .ok (.iconst 0, 1) := by decide +kernel
theorem dX12_run_115 : decode cX12_run 115 = .ok (.aload_n 0, 1) := by decide +kernel
theorem dX12_run_116 : decode cX12_run 116 = .ok (.getfield 797, 3) := by decide +kernel
theorem dX12_run_119 : decode cX12_run 119 = .ok (.aload_n 0, 1) := by decide +kernel
theorem dX12_run_120 : decode cX12_run 120 = .ok (.getfield 262, 3) := by decide +kernel
theorem dX12_run_123 : decode cX12_run 123 = .ok (.iconst 0, 1) := by decide +kernel
theorem dX12_run_124 : decode cX12_run 124 = .ok (.invokestatic 471, 3) := by decide +kernel
theorem dX12_run_127 : decode cX12_run 127 = .ok (.aload_n 0, 1) := by decide +kernel
theorem dX12_run_128 : decode cX12_run 128 = .ok (.getfield 241, 3) := by decide +kernel
theorem dX12_run_131 : decode cX12_run 131 = .ok (.iconst 0, 1) := by decide +kernel
theorem dX12_run_132 : decode cX12_run 132 = .ok (.aload_n 0, 1) := by decide +kernel
theorem dX12_run_133 : decode cX12_run 133 = .ok (.getfield 797, 3) := by decide +kernel
theorem dX12_run_136 : decode cX12_run 136 = .ok (.aload_n 0, 1) := by decide +kernel
theorem dX12_run_137 : decode cX12_run 137 = .ok (.getfield 265, 3) := by decide +kernel
theorem dX12_run_140 : decode cX12_run 140 = .ok (.iconst 0, 1) := by decide +kernel
theorem dX12_run_141 : decode cX12_run 141 = .ok (.invokestatic 471, 3) := by decide +kernel
theorem dX12_run_144 : decode cX12_run 144 = .ok (.aload_n 0, 1) := by decide +kernel
theorem dX12_run_145 : decode cX12_run 145 = .ok (.getfield 235, 3) := by decide +kernel
theorem dX12_run_148 : decode cX12_run 148 = .ok (.iload_n 2, 1) := by decide +kernel
theorem dX12_run_149 : decode cX12_run 149 = .ok (.iaload, 1) := by decide +kernel
theorem dX12_run_150 : decode cX12_run 150 = .ok (.ireturn, 1) := by decide +kernel
theorem dX12_output_0 : decode cX12_output 0 = .ok (.iload_n 1, 1) := by decide +kernel
theorem dX12_output_1 : decode cX12_output 1 = .ok (.iconst 0, 1) := by decide +kernel
theorem dX12_output_2 : decode cX12_output 2 = .ok (.aload_n 0, 1) := by decide +kernel
theorem dX12_output_3 : decode cX12_output 3 = .ok (.getfield 845, 3) := by decide +kernel
theorem dX12_output_6 : decode cX12_output 6 = .ok (.iconst 1, 1) := by decide +kernel
theorem dX12_output_7 : decode cX12_output 7 = .ok (.isub, 1) := by decide +kernel
theorem dX12_output_8 : decode cX12_output 8 = .ok (.invokestatic 359, 3) := by decide +kernel
theorem dX12_output_11 : decode cX12_output 11 = .ok (.ifCond .eq 34, 3) := by decide +kernel
theorem dX12_output_14 : decode cX12_output 14 = .ok (.iload_n 2, 1) := by decide +kernel
theorem dX12_output_15 : decode cX12_output 15 = .ok (.iconst 0, 1) := by decide +kernel
theorem dX12_output_16 : decode cX12_output 16 = .ok (.iconst 1, 1) := by decide +kernel
theorem dX12_output_17 : decode cX12_output 17 = .ok (.invokestatic 359, 3) := by decide +kernel
theorem dX12_output_20 : decode cX12_output 20 = .ok (.ifCond .eq 25, 3) := by decide +kernel
theorem dX12_output_23 : decode cX12_output 23 = .ok (.iload_n 2, 1) := by decide +kernel
theorem dX12_output_24 : decode cX12_output 24 = .ok (.ifCond .ne 12, 3) := by decide +kernel
theorem dX12_output_27 : decode cX12_output 27 = .ok (.aload_n 0, 1) := by decide +kernel
theorem dX12_output_28 : decode cX12_output 28 = .ok (.getfield 253, 3) := by decide +kernel
theorem dX12_output_31 : decode cX12_output 31 = .ok (.iload_n 1, 1) := by decide +kernel
theorem dX12_output_32 : decode cX12_output 32 = .ok (.iaload, 1) := by decide +kernel
theorem dX12_output_33 : decode cX12_output 33 = .ok (.goto 13, 3) := by decide +kernel
theorem dX12_output_36 : decode cX12_output 36 = .ok (.aload_n 0, 1) := by decide +kernel
theorem dX12_output_37 : decode cX12_output 37 = .ok (.getfield 256, 3) := by decide +kernel
theorem dX12_output_40 : decode cX12_output 40 = .ok (.iload_n 1, 1) := by decide +kernel
theorem dX12_output_41 : decode cX12_output 41 = .ok (.iaload, 1) := by decide +kernel
theorem dX12_output_42 : decode cX12_output 42 = .ok (.goto 4, 3) := by decide +kernel
theorem dX12_output_45 : decode cX12_output 45 = .ok (.iconst (-1), 1) := by decide +kernel
theorem dX12_output_46 : decode cX12_output 46 = .ok (.ireturn, 1) := by decide +kernel
theorem dX12_place_0 : decode cX12_place 0 = .ok (.iload_n 1, 1) := by decide +kernel
theorem dX12_place_1 : decode cX12_place 1 = .ok (.iconst 0, 1) := by decide +kernel
theorem dX12_place_2 : decode cX12_place 2 = .ok (.bipush 7, 2) := by decide +kernel
theorem dX12_place_4 : decode cX12_place 4 = .ok (.invokestatic 359, 3) := by decide +kernel
theorem dX12_place_7 : decode cX12_place 7 = .ok (.ifCond .eq 12, 3) := by decide +kernel
theorem dX12_place_10 : decode cX12_place 10 = .ok (.aload_n 0, 1) := by decide +kernel
theorem dX12_place_11 : decode cX12_place 11 = .ok (.getfield 259, 3) := by decide +kernel
theorem dX12_place_14 : decode cX12_place 14 = .ok (.iload_n 1, 1) := by decide +kernel
theorem dX12_place_15 : decode cX12_place 15 = .ok (.iaload, 1) := by decide +kernel
theorem dX12_place_16 : decode cX12_place 16 = .ok (.goto 4, 3) := by decide +kernel
theorem dX12_place_19 : decode cX12_place 19 = .ok (.iconst 0, 1) := by decide +kernel
theorem dX12_place_20 : decode cX12_place 20 = .ok (.ireturn, 1) := by decide +kernel
theorem dX12_areLike_0 : decode cX12_areLike 0 = .ok (.iconst 0, 1) := by decide +kernel
theorem dX12_areLike_1 : decode cX12_areLike 1 = .ok (.istore_n 3, 1) := by decide +kernel
theorem dX12_areLike_2 : decode cX12_areLike 2 = .ok (.iload_n 3, 1) := by decide +kernel
theorem dX12_areLike_3 : decode cX12_areLike 3 = .ok (.iload_n 2, 1) := by decide +kernel
theorem dX12_areLike_4 : decode cX12_areLike 4 = .ok (.if_icmp .ge 20, 3) := by decide +kernel
theorem dX12_areLike_7 : decode cX12_areLike 7 = .ok (.aload_n 0, 1) := by decide +kernel
theorem dX12_areLike_8 : decode cX12_areLike 8 = .ok (.iload_n 3, 1) := by decide +kernel
theorem dX12_areLike_9 : decode cX12_areLike 9 = .ok (.iaload, 1) := by decide +kernel
theorem dX12_areLike_10 : decode cX12_areLike 10 = .ok (.aload_n 1, 1) := by decide +kernel
theorem dX12_areLike_11 : decode cX12_areLike 11 = .ok (.iload_n 3, 1) := by decide +kernel
theorem dX12_areLike_12 : decode cX12_areLike 12 = .ok (.iaload, 1) := by decide +kernel
theorem dX12_areLike_13 : decode cX12_areLike 13 = .ok (.if_icmp .eq 5, 3) := by decide +kernel
theorem dX12_areLike_16 : decode cX12_areLike 16 = .ok (.iconst 0, 1) := by decide +kernel
theorem dX12_areLike_17 : decode cX12_areLike 17 = .ok (.ireturn, 1) := by decide +kernel
theorem dX12_areLike_18 : decode cX12_areLike 18 = .ok (.iinc 3 1, 3) := by decide +kernel
theorem dX12_areLike_21 : decode cX12_areLike 21 = .ok (.goto (-19), 3) := by decide +kernel
theorem dX12_areLike_24 : decode cX12_areLike 24 = .ok (.iconst 1, 1) := by decide +kernel
theorem dX12_areLike_25 : decode cX12_areLike 25 = .ok (.ireturn, 1) := by decide +kernel
theorem dX12_areLikeFrom_0 : decode cX12_areLikeFrom 0 = .ok (.iconst 0, 1) := by decide +kernel
theorem dX12_areLikeFrom_1 : decode cX12_areLikeFrom 1 = .ok (.istore 5, 2) := by decide +kernel
theorem dX12_areLikeFrom_3 : decode cX12_areLikeFrom 3 = .ok (.iload 5, 2) := by decide +kernel
theorem dX12_areLikeFrom_5 : decode cX12_areLikeFrom 5 = .ok (.iload_n 2, 1) := by decide +kernel
theorem dX12_areLikeFrom_6 : decode cX12_areLikeFrom 6 = .ok (.if_icmp .ge 25, 3) := by decide +kernel
theorem dX12_areLikeFrom_9 : decode cX12_areLikeFrom 9 = .ok (.aload_n 1, 1) := by decide +kernel
theorem dX12_areLikeFrom_10 : decode cX12_areLikeFrom 10 = .ok (.iload 5, 2) := by decide +kernel
theorem dX12_areLikeFrom_12 : decode cX12_areLikeFrom 12 = .ok (.iaload, 1) := by decide +kernel
theorem dX12_areLikeFrom_13 : decode cX12_areLikeFrom 13 = .ok (.aload_n 3, 1) := by decide +kernel
theorem dX12_areLikeFrom_14 : decode cX12_areLikeFrom 14 = .ok (.iload 4, 2) := by decide +kernel
theorem dX12_areLikeFrom_16 : decode cX12_areLikeFrom 16 = .ok (.iload 5, 2) := by decide +kernel
theorem dX12_areLikeFrom_18 : decode cX12_areLikeFrom 18 = .ok (.iadd, 1) := by decide +kernel
theorem dX12_areLikeFrom_19 : decode cX12_areLikeFrom 19 = .ok (.iaload, 1) := by decide +kernel
theorem dX12_areLikeFrom_20 : decode cX12_areLikeFrom 20 = .ok (.if_icmp .eq 5, 3) := by decide +kernel
theorem dX12_areLikeFrom_23 : decode cX12_areLikeFrom 23 = .ok (.iconst 0, 1) := by decide +kernel
theorem dX12_areLikeFrom_24 : decode cX12_areLikeFrom 24 = .ok (.ireturn, 1) := by decide +kernel
theorem dX12_areLikeFrom_25 : decode cX12_areLikeFrom 25 = .ok (.iinc 5 1, 3) := by decide +kernel
theorem dX12_areLikeFrom_28 : decode cX12_areLikeFrom 28 = .ok (.goto (-25), 3) := by decide +kernel
theorem dX12_areLikeFrom_31 : decode cX12_areLikeFrom 31 = .ok (.iconst 1, 1) := by decide +kernel
theorem dX12_areLikeFrom_32 : decode cX12_areLikeFrom 32 = .ok (.ireturn, 1) := by decide +kernel
theorem dX12_agree_0 : decode cX12_agree 0 = .ok (.aload_n 0, 1) := by decide +kernel
theorem dX12_agree_1 : decode cX12_agree 1 = .ok (.iconst 0, 1) := by decide +kernel
theorem dX12_agree_2 : decode cX12_agree 2 = .ok (.invokevirtual 839, 3) := by decide +kernel
theorem dX12_agree_5 : decode cX12_agree 5 = .ok (.ifCond .eq 11, 3) := by decide +kernel
theorem dX12_agree_8 : decode cX12_agree 8 = .ok (.aload_n 0, 1) := by decide +kernel
theorem dX12_agree_9 : decode cX12_agree 9 = .ok (.iconst 1, 1) := by decide +kernel
theorem dX12_agree_10 : decode cX12_agree 10 = .ok (.invokevirtual 839, 3) := by decide +kernel
theorem dX12_agree_13 : decode cX12_agree 13 = .ok (.ifCond .ne 5, 3) := by decide +kernel
theorem dX12_agree_16 : decode cX12_agree 16 = .ok (.iconst (-1), 1) := by decide +kernel
theorem dX12_agree_17 : decode cX12_agree 17 = .ok (.ireturn, 1) := by decide +kernel
theorem dX12_agree_18 : decode cX12_agree 18 = .ok (.aload_n 0, 1) := by decide +kernel
theorem dX12_agree_19 : decode cX12_agree 19 = .ok (.invokevirtual 833, 3) := by decide +kernel
theorem dX12_agree_22 : decode cX12_agree 22 = .ok (.aload_n 0, 1) := by decide +kernel
theorem dX12_agree_23 : decode cX12_agree 23 = .ok (.getfield 649, 3) := by decide +kernel
theorem dX12_agree_26 : decode cX12_agree 26 = .ok (.bipush 60, 2) := by decide +kernel
theorem dX12_agree_28 : decode cX12_agree 28 = .ok (.if_icmp .ge 10, 3) := by decide +kernel
theorem dX12_agree_31 : decode cX12_agree 31 = .ok (.aload_n 0, 1) := by decide +kernel
theorem dX12_agree_32 : decode cX12_agree 32 = .ok (.getfield 649, 3) := by decide +kernel
theorem dX12_agree_35 : decode cX12_agree 35 = .ok (.goto 5, 3) := by decide +kernel
theorem dX12_agree_38 : decode cX12_agree 38 = .ok (.bipush 60, 2) := by decide +kernel
theorem dX12_agree_40 : decode cX12_agree 40 = .ok (.istore_n 1, 1) := by decide +kernel
theorem dX12_agree_41 : decode cX12_agree 41 = .ok (.aload_n 0, 1) := by decide +kernel
theorem dX12_agree_42 : decode cX12_agree 42 = .ok (.getfield 145, 3) := by decide +kernel
theorem dX12_agree_45 : decode cX12_agree 45 = .ok (.iconst 0, 1) := by decide +kernel
theorem dX12_agree_46 : decode cX12_agree 46 = .ok (.iload_n 1, 1) := by decide +kernel
theorem dX12_agree_47 : decode cX12_agree 47 = .ok (.aload_n 0, 1) := by decide +kernel
theorem dX12_agree_48 : decode cX12_agree 48 = .ok (.getfield 268, 3) := by decide +kernel
theorem dX12_agree_51 : decode cX12_agree 51 = .ok (.iconst 0, 1) := by decide +kernel
theorem dX12_agree_52 : decode cX12_agree 52 = .ok (.invokestatic 471, 3) := by decide +kernel
theorem dX12_agree_55 : decode cX12_agree 55 = .ok (.aload_n 0, 1) := by decide +kernel
theorem dX12_agree_56 : decode cX12_agree 56 = .ok (.getfield 148, 3) := by decide +kernel
theorem dX12_agree_59 : decode cX12_agree 59 = .ok (.iconst 0, 1) := by decide +kernel
theorem dX12_agree_60 : decode cX12_agree 60 = .ok (.iload_n 1, 1) := by decide +kernel
theorem dX12_agree_61 : decode cX12_agree 61 = .ok (.aload_n 0, 1) := by decide +kernel
theorem dX12_agree_62 : decode cX12_agree 62 = .ok (.getfield 271, 3) := by decide +kernel
theorem dX12_agree_65 : decode cX12_agree 65 = .ok (.iconst 0, 1) := by decide +kernel
theorem dX12_agree_66 : decode cX12_agree 66 = .ok (.invokestatic 471, 3) := by decide +kernel
theorem dX12_agree_69 : decode cX12_agree 69 = .ok (.aload_n 0, 1) := by decide +kernel
theorem dX12_agree_70 : decode cX12_agree 70 = .ok (.getfield 238, 3) := by decide +kernel
theorem dX12_agree_73 : decode cX12_agree 73 = .ok (.iconst 0, 1) := by decide +kernel
theorem dX12_agree_74 : decode cX12_agree 74 = .ok (.aload_n 0, 1) := by decide +kernel
theorem dX12_agree_75 : decode cX12_agree 75 = .ok (.getfield 797, 3) := by decide +kernel
theorem dX12_agree_78 : decode cX12_agree 78 = .ok (.aload_n 0, 1) := by decide +kernel
theorem dX12_agree_79 : decode cX12_agree 79 = .ok (.getfield 268, 3) := by decide +kernel
theorem dX12_agree_82 : decode cX12_agree 82 = .ok (.bipush 60, 2) := by decide +kernel
theorem dX12_agree_84 : decode cX12_agree 84 = .ok (.invokestatic 471, 3) := by decide +kernel
theorem dX12_agree_87 : decode cX12_agree 87 = .ok (.aload_n 0, 1) := by decide +kernel
theorem dX12_agree_88 : decode cX12_agree 88 = .ok (.getfield 241, 3) := by decide +kernel
theorem dX12_agree_91 : decode cX12_agree 91 = .ok (.iconst 0, 1) := by decide +kernel
theorem dX12_agree_92 : decode cX12_agree 92 = .ok (.aload_n 0, 1) := by decide +kernel
theorem dX12_agree_93 : decode cX12_agree 93 = .ok (.getfield 797, 3) := by decide +kernel
theorem dX12_agree_96 : decode cX12_agree 96 = .ok (.aload_n 0, 1) := by decide +kernel
theorem dX12_agree_97 : decode cX12_agree 97 = .ok (.getfield 271, 3) := by decide +kernel
theorem dX12_agree_100 : decode cX12_agree 100 = .ok (.bipush 60, 2) := by decide +kernel
theorem dX12_agree_102 : decode cX12_agree 102 = .ok (.invokestatic 471, 3) := by decide +kernel
theorem dX12_agree_105 : decode cX12_agree 105 = .ok (.aload_n 0, 1) := by decide +kernel
theorem dX12_agree_106 : decode cX12_agree 106 = .ok (.getfield 142, 3) := by decide +kernel
theorem dX12_agree_109 : decode cX12_agree 109 = .ok (.iconst 0, 1) := by decide +kernel
theorem dX12_agree_110 : decode cX12_agree 110 = .ok (.bipush 8, 2) := by decide +kernel
theorem dX12_agree_112 : decode cX12_agree 112 = .ok (.aload_n 0, 1) := by decide +kernel
theorem dX12_agree_113 : decode cX12_agree 113 = .ok (.getfield 274, 3) := by decide +kernel
theorem dX12_agree_116 : decode cX12_agree 116 = .ok (.iconst 0, 1) := by decide +kernel
theorem dX12_agree_117 : decode cX12_agree 117 = .ok (.invokestatic 471, 3) := by decide +kernel
theorem dX12_agree_120 : decode cX12_agree 120 = .ok (.aload_n 0, 1) := by decide +kernel
theorem dX12_agree_121 : decode cX12_agree 121 = .ok (.getfield 557, 3) := by decide +kernel
theorem dX12_agree_124 : decode cX12_agree 124 = .ok (.istore_n 2, 1) := by decide +kernel
theorem dX12_agree_125 : decode cX12_agree 125 = .ok (.aload_n 0, 1) := by decide +kernel
theorem dX12_agree_126 : decode cX12_agree 126 = .ok (.getfield 649, 3) := by decide +kernel
theorem dX12_agree_129 : decode cX12_agree 129 = .ok (.istore_n 3, 1) := by decide +kernel
theorem dX12_agree_130 : decode cX12_agree 130 = .ok (.aload_n 0, 1) := by decide +kernel
theorem dX12_agree_131 : decode cX12_agree 131 = .ok (.getfield 797, 3) := by decide +kernel
theorem dX12_agree_134 : decode cX12_agree 134 = .ok (.istore 4, 2) := by decide +kernel
theorem dX12_agree_136 : decode cX12_agree 136 = .ok (.aload_n 0, 1) := by decide +kernel
theorem dX12_agree_137 : decode cX12_agree 137 = .ok (.invokevirtual 836, 3) := by decide +kernel
theorem dX12_agree_140 : decode cX12_agree 140 = .ok (.aload_n 0, 1) := by decide +kernel
theorem dX12_agree_141 : decode cX12_agree 141 = .ok (.getfield 557, 3) := by decide +kernel
theorem dX12_agree_144 : decode cX12_agree 144 = .ok (.iload_n 2, 1) := by decide +kernel
theorem dX12_agree_145 : decode cX12_agree 145 = .ok (.if_icmp .ne 70, 3) := by decide +kernel
theorem dX12_agree_148 : decode cX12_agree 148 = .ok (.aload_n 0, 1) := by decide +kernel
theorem dX12_agree_149 : decode cX12_agree 149 = .ok (.getfield 649, 3) := by decide +kernel
theorem dX12_agree_152 : decode cX12_agree 152 = .ok (.iload_n 3, 1) := by decide +kernel
theorem dX12_agree_153 : decode cX12_agree 153 = .ok (.if_icmp .ne 62, 3) := by decide +kernel
theorem dX12_agree_156 : decode cX12_agree 156 = .ok (.aload_n 0, 1) := by decide +kernel
theorem dX12_agree_157 : decode cX12_agree 157 = .ok (.getfield 797, 3) := by decide +kernel
theorem dX12_agree_160 : decode cX12_agree 160 = .ok (.iload 4, 2) := by decide +kernel
theorem dX12_agree_162 : decode cX12_agree 162 = .ok (.if_icmp .ne 53, 3) := by decide +kernel
theorem dX12_agree_165 : decode cX12_agree 165 = .ok (.aload_n 0, 1) := by decide +kernel
theorem dX12_agree_166 : decode cX12_agree 166 = .ok (.getfield 145, 3) := by decide +kernel
theorem dX12_agree_169 : decode cX12_agree 169 = .ok (.aload_n 0, 1) := by decide +kernel
theorem dX12_agree_170 : decode cX12_agree 170 = .ok (.getfield 268, 3) := by decide +kernel
theorem dX12_agree_173 : decode cX12_agree 173 = .ok (.iload_n 1, 1) := by decide +kernel
theorem dX12_agree_174 : decode cX12_agree 174 = .ok (.invokestatic 851, 3) := by decide +kernel
theorem dX12_agree_177 : decode cX12_agree 177 = .ok (.ifCond .eq 38, 3) := by decide +kernel
theorem dX12_agree_180 : decode cX12_agree 180 = .ok (.aload_n 0, 1) := by decide +kernel
theorem dX12_agree_181 : decode cX12_agree 181 = .ok (.getfield 148, 3) := by decide +kernel
theorem dX12_agree_184 : decode cX12_agree 184 = .ok (.aload_n 0, 1) := by decide +kernel
theorem dX12_agree_185 : decode cX12_agree 185 = .ok (.getfield 271, 3) := by decide +kernel
theorem dX12_agree_188 : decode cX12_agree 188 = .ok (.iload_n 1, 1) := by decide +kernel
theorem dX12_agree_189 : decode cX12_agree 189 = .ok (.invokestatic 851, 3) := by decide +kernel
theorem dX12_agree_192 : decode cX12_agree 192 = .ok (.ifCond .eq 23, 3) := by decide +kernel
theorem dX12_agree_195 : decode cX12_agree 195 = .ok (.aload_n 0, 1) := by decide +kernel
theorem dX12_agree_196 : decode cX12_agree 196 = .ok (.getfield 142, 3) := by decide +kernel
theorem dX12_agree_199 : decode cX12_agree 199 = .ok (.aload_n 0, 1) := by decide +kernel
theorem dX12_agree_200 : decode cX12_agree 200 = .ok (.getfield 274, 3) := by decide +kernel
theorem dX12_agree_203 : decode cX12_agree 203 = .ok (.bipush 8, 2) := by decide +kernel
theorem dX12_agree_205 : decode cX12_agree 205 = .ok (.invokestatic 851, 3) := by decide +kernel
theorem dX12_agree_208 : decode cX12_agree 208 = .ok (.ifCond .eq 7, 3) := by decide +kernel
theorem dX12_agree_211 : decode cX12_agree 211 = .ok (.iconst 1, 1) := by decide +kernel
theorem dX12_agree_212 : decode cX12_agree 212 = .ok (.goto 4, 3) := by decide +kernel
theorem dX12_agree_215 : decode cX12_agree 215 = .ok (.iconst 0, 1) := by decide +kernel
theorem dX12_agree_216 : decode cX12_agree 216 = .ok (.istore 5, 2) := by decide +kernel
theorem dX12_agree_218 : decode cX12_agree 218 = .ok (.iload 5, 2) := by decide +kernel
theorem dX12_agree_220 : decode cX12_agree 220 = .ok (.ifCond .eq 45, 3) := by decide +kernel
theorem dX12_agree_223 : decode cX12_agree 223 = .ok (.aload_n 0, 1) := by decide +kernel
theorem dX12_agree_224 : decode cX12_agree 224 = .ok (.aload_n 0, 1) := by decide +kernel
theorem dX12_agree_225 : decode cX12_agree 225 = .ok (.getfield 238, 3) := by decide +kernel
theorem dX12_agree_228 : decode cX12_agree 228 = .ok (.iload 4, 2) := by decide +kernel
theorem dX12_agree_230 : decode cX12_agree 230 = .ok (.aload_n 0, 1) := by decide +kernel
theorem dX12_agree_231 : decode cX12_agree 231 = .ok (.getfield 268, 3) := by decide +kernel
theorem dX12_agree_234 : decode cX12_agree 234 = .ok (.bipush 60, 2) := by decide +kernel
theorem dX12_agree_236 : decode cX12_agree 236 = .ok (.invokevirtual 855, 3) := by decide +kernel
theorem dX12_agree_239 : decode cX12_agree 239 = .ok (.ifCond .eq 26, 3) := by decide +kernel
theorem dX12_agree_242 : decode cX12_agree 242 = .ok (.aload_n 0, 1) := by decide +kernel
theorem dX12_agree_243 : decode cX12_agree 243 = .ok (.aload_n 0, 1) := by decide +kernel
theorem dX12_agree_244 : decode cX12_agree 244 = .ok (.getfield 241, 3) := by decide +kernel
theorem dX12_agree_247 : decode cX12_agree 247 = .ok (.iload 4, 2) := by decide +kernel
theorem dX12_agree_249 : decode cX12_agree 249 = .ok (.aload_n 0, 1) := by decide +kernel
theorem dX12_agree_250 : decode cX12_agree 250 = .ok (.getfield 271, 3) := by decide +kernel
theorem dX12_agree_253 : decode cX12_agree 253 = .ok (.bipush 60, 2) := by decide +kernel
theorem dX12_agree_255 : decode cX12_agree 255 = .ok (.invokevirtual 855, 3) := by decide +kernel
theorem dX12_agree_258 : decode cX12_agree 258 = .ok (.ifCond .eq 7, 3) := by decide +kernel
theorem dX12_agree_261 : decode cX12_agree 261 = .ok (.iconst 1, 1) := by decide +kernel
theorem dX12_agree_262 : decode cX12_agree 262 = .ok (.goto 4, 3) := by decide +kernel
theorem dX12_agree_265 : decode cX12_agree 265 = .ok (.iconst 0, 1) := by decide +kernel
theorem dX12_agree_266 : decode cX12_agree 266 = .ok (.ireturn, 1) := by decide +kernel
theorem dX12_saved_0 : decode cX12_saved 0 = .ok (.aload_n 0, 1) := by decide +kernel
theorem dX12_saved_1 : decode cX12_saved 1 = .ok (.iconst 0, 1) := by decide +kernel
theorem dX12_saved_2 : decode cX12_saved 2 = .ok (.invokevirtual 839, 3) := by decide +kernel
theorem dX12_saved_5 : decode cX12_saved 5 = .ok (.ifCond .eq 11, 3) := by decide +kernel
theorem dX12_saved_8 : decode cX12_saved 8 = .ok (.aload_n 0, 1) := by decide +kernel
theorem dX12_saved_9 : decode cX12_saved 9 = .ok (.iconst 1, 1) := by decide +kernel
theorem dX12_saved_10 : decode cX12_saved 10 = .ok (.invokevirtual 839, 3) := by decide +kernel
theorem dX12_saved_13 : decode cX12_saved 13 = .ok (.ifCond .ne 7, 3) := by decide +kernel
theorem dX12_saved_16 : decode cX12_saved 16 = .ok (.sipush (-1000), 3) := by decide +kernel
theorem dX12_saved_19 : decode cX12_saved 19 = .ok (.ireturn, 1) := by decide +kernel
theorem dX12_saved_20 : decode cX12_saved 20 = .ok (.aload_n 0, 1) := by decide +kernel
theorem dX12_saved_21 : decode cX12_saved 21 = .ok (.invokevirtual 833, 3) := by decide +kernel
theorem dX12_saved_24 : decode cX12_saved 24 = .ok (.aload_n 0, 1) := by decide +kernel
theorem dX12_saved_25 : decode cX12_saved 25 = .ok (.getfield 658, 3) := by decide +kernel
theorem dX12_saved_28 : decode cX12_saved 28 = .ok (.istore_n 1, 1) := by decide +kernel
theorem dX12_saved_29 : decode cX12_saved 29 = .ok (.aload_n 0, 1) := by decide +kernel
theorem dX12_saved_30 : decode cX12_saved 30 = .ok (.getfield 557, 3) := by decide +kernel
theorem dX12_saved_33 : decode cX12_saved 33 = .ok (.ifCond .eq 7, 3) := by decide +kernel
theorem dX12_saved_36 : decode cX12_saved 36 = .ok (.sipush (-1000), 3) := by decide +kernel
theorem dX12_saved_39 : decode cX12_saved 39 = .ok (.ireturn, 1) := by decide +kernel
theorem dX12_saved_40 : decode cX12_saved 40 = .ok (.aload_n 0, 1) := by decide +kernel
theorem dX12_saved_41 : decode cX12_saved 41 = .ok (.invokevirtual 836, 3) := by decide +kernel
theorem dX12_saved_44 : decode cX12_saved 44 = .ok (.aload_n 0, 1) := by decide +kernel
theorem dX12_saved_45 : decode cX12_saved 45 = .ok (.getfield 557, 3) := by decide +kernel
theorem dX12_saved_48 : decode cX12_saved 48 = .ok (.ifCond .ne 12, 3) := by decide +kernel
theorem dX12_saved_51 : decode cX12_saved 51 = .ok (.iload_n 1, 1) := by decide +kernel
theorem dX12_saved_52 : decode cX12_saved 52 = .ok (.aload_n 0, 1) := by decide +kernel
theorem dX12_saved_53 : decode cX12_saved 53 = .ok (.getfield 658, 3) := by decide +kernel
theorem dX12_saved_56 : decode cX12_saved 56 = .ok (.isub, 1) := by decide +kernel
theorem dX12_saved_57 : decode cX12_saved 57 = .ok (.goto 6, 3) := by decide +kernel
theorem dX12_saved_60 : decode cX12_saved 60 = .ok (.sipush (-1000), 3) := by decide +kernel
theorem dX12_saved_63 : decode cX12_saved 63 = .ok (.ireturn, 1) := by decide +kernel
theorem dX12_put_0 : decode cX12_put 0 = .ok (.aload_n 0, 1) := by decide +kernel
theorem dX12_put_1 : decode cX12_put 1 = .ok (.getfield 281, 3) := by decide +kernel
theorem dX12_put_4 : decode cX12_put 4 = .ok (.aload_n 0, 1) := by decide +kernel
theorem dX12_put_5 : decode cX12_put 5 = .ok (.getfield 859, 3) := by decide +kernel
theorem dX12_put_8 : decode cX12_put 8 = .ok (.iload_n 1, 1) := by decide +kernel
theorem dX12_put_9 : decode cX12_put 9 = .ok (.i2b, 1) := by decide +kernel
theorem dX12_put_10 : decode cX12_put 10 = .ok (.bastore, 1) := by decide +kernel
theorem dX12_put_11 : decode cX12_put 11 = .ok (.aload_n 0, 1) := by decide +kernel
theorem dX12_put_12 : decode cX12_put 12 = .ok (.dup, 1) := by decide +kernel
theorem dX12_put_13 : decode cX12_put 13 = .ok (.getfield 859, 3) := by decide +kernel
theorem dX12_put_16 : decode cX12_put 16 = .ok (.iconst 1, 1) := by decide +kernel
theorem dX12_put_17 : decode cX12_put 17 = .ok (.iadd, 1) := by decide +kernel
theorem dX12_put_18 : decode cX12_put 18 = .ok (.putfield 859, 3) := by decide +kernel
theorem dX12_put_21 : decode cX12_put 21 = .ok (.return_, 1) := by decide +kernel
theorem dX12_putNumber_0 : decode cX12_putNumber 0 = .ok (.iload_n 1, 1) := by decide +kernel
theorem dX12_putNumber_1 : decode cX12_putNumber 1 = .ok (.i2l, 1) := by decide +kernel
theorem dX12_putNumber_2 : decode cX12_putNumber 2 = .ok (.lstore_n 2, 1) := by decide +kernel
theorem dX12_putNumber_3 : decode cX12_putNumber 3 = .ok (.lload_n 2, 1) := by decide +kernel
theorem dX12_putNumber_4 : decode cX12_putNumber 4 = .ok (.lconst 0, 1) := by decide +kernel
theorem dX12_putNumber_5 : decode cX12_putNumber 5 = .ok (.lcmp, 1) := by decide +kernel
theorem dX12_putNumber_6 : decode cX12_putNumber 6 = .ok (.ifCond .ge 12, 3) := by decide +kernel
theorem dX12_putNumber_9 : decode cX12_putNumber 9 = .ok (.aload_n 0, 1) := by decide +kernel
theorem dX12_putNumber_10 : decode cX12_putNumber 10 = .ok (.bipush 45, 2) := by decide +kernel
theorem dX12_putNumber_12 : decode cX12_putNumber 12 = .ok (.invokevirtual 862, 3) := by decide +kernel
theorem dX12_putNumber_15 : decode cX12_putNumber 15 = .ok (.lload_n 2, 1) := by decide +kernel
theorem dX12_putNumber_16 : decode cX12_putNumber 16 = .ok (.lneg, 1) := by decide +kernel
theorem dX12_putNumber_17 : decode cX12_putNumber 17 = .ok (.lstore_n 2, 1) := by decide +kernel
theorem dX12_putNumber_18 : decode cX12_putNumber 18 = .ok (.lconst 1, 1) := by decide +kernel
theorem dX12_putNumber_19 : decode cX12_putNumber 19 = .ok (.lstore 4, 2) := by decide +kernel
theorem dX12_putNumber_21 : decode cX12_putNumber 21 = .ok (.lload_n 2, 1) := by decide +kernel
theorem dX12_putNumber_22 : decode cX12_putNumber 22 = .ok (.lload 4, 2) := by decide +kernel
theorem dX12_putNumber_24 : decode cX12_putNumber 24 = .ok (.ldiv, 1) := by decide +kernel
theorem dX12_putNumber_25 : decode cX12_putNumber 25 = .ok (.ldc2_w 865, 3) := by decide +kernel
theorem dX12_putNumber_28 : decode cX12_putNumber 28 = .ok (.lcmp, 1) := by decide +kernel
theorem dX12_putNumber_29 : decode cX12_putNumber 29 = .ok (.ifCond .le 14, 3) := by decide +kernel
theorem dX12_putNumber_32 : decode cX12_putNumber 32 = .ok (.lload 4, 2) := by decide +kernel
theorem dX12_putNumber_34 : decode cX12_putNumber 34 = .ok (.ldc2_w 867, 3) := by decide +kernel
theorem dX12_putNumber_37 : decode cX12_putNumber 37 = .ok (.lmul, 1) := by decide +kernel
theorem dX12_putNumber_38 : decode cX12_putNumber 38 = .ok (.lstore 4, 2) := by decide +kernel
theorem dX12_putNumber_40 : decode cX12_putNumber 40 = .ok (.goto (-19), 3) := by decide +kernel
theorem dX12_putNumber_43 : decode cX12_putNumber 43 = .ok (.lload 4, 2) := by decide +kernel
theorem dX12_putNumber_45 : decode cX12_putNumber 45 = .ok (.lstore 6, 2) := by decide +kernel
theorem dX12_putNumber_47 : decode cX12_putNumber 47 = .ok (.lload 6, 2) := by decide +kernel
theorem dX12_putNumber_49 : decode cX12_putNumber 49 = .ok (.lconst 0, 1) := by decide +kernel
theorem dX12_putNumber_50 : decode cX12_putNumber 50 = .ok (.lcmp, 1) := by decide +kernel
theorem dX12_putNumber_51 : decode cX12_putNumber 51 = .ok (.ifCond .le 31, 3) := by decide +kernel
theorem dX12_putNumber_54 : decode cX12_putNumber 54 = .ok (.aload_n 0, 1) := by decide +kernel
theorem dX12_putNumber_55 : decode cX12_putNumber 55 = .ok (.ldc2_w 869, 3) := by decide +kernel
theorem dX12_putNumber_58 : decode cX12_putNumber 58 = .ok (.lload_n 2, 1) := by decide +kernel
theorem dX12_putNumber_59 : decode cX12_putNumber 59 = .ok (.lload 6, 2) := by decide +kernel
theorem dX12_putNumber_61 : decode cX12_putNumber 61 = .ok (.ldiv, 1) := by decide +kernel
theorem dX12_putNumber_62 : decode cX12_putNumber 62 = .ok (.ldc2_w 867, 3) := by decide +kernel
theorem dX12_putNumber_65 : decode cX12_putNumber 65 = .ok (.lrem, 1) := by decide +kernel
theorem dX12_putNumber_66 : decode cX12_putNumber 66 = .ok (.ladd, 1) := by decide +kernel
theorem dX12_putNumber_67 : decode cX12_putNumber 67 = .ok (.l2i, 1) := by decide +kernel
theorem dX12_putNumber_68 : decode cX12_putNumber 68 = .ok (.invokevirtual 862, 3) := by decide +kernel
theorem dX12_putNumber_71 : decode cX12_putNumber 71 = .ok (.lload 6, 2) := by decide +kernel
theorem dX12_putNumber_73 : decode cX12_putNumber 73 = .ok (.ldc2_w 867, 3) := by decide +kernel
theorem dX12_putNumber_76 : decode cX12_putNumber 76 = .ok (.ldiv, 1) := by decide +kernel
theorem dX12_putNumber_77 : decode cX12_putNumber 77 = .ok (.lstore 6, 2) := by decide +kernel
theorem dX12_putNumber_79 : decode cX12_putNumber 79 = .ok (.goto (-32), 3) := by decide +kernel
theorem dX12_putNumber_82 : decode cX12_putNumber 82 = .ok (.return_, 1) := by decide +kernel
theorem dX12_putOne_0 : decode cX12_putOne 0 = .ok (.iload_n 1, 1) := by decide +kernel
theorem dX12_putOne_1 : decode cX12_putOne 1 = .ok (.ifCond .eq 19, 3) := by decide +kernel
theorem dX12_putOne_4 : decode cX12_putOne 4 = .ok (.aload_n 0, 1) := by decide +kernel
theorem dX12_putOne_5 : decode cX12_putOne 5 = .ok (.iload_n 1, 1) := by decide +kernel
theorem dX12_putOne_6 : decode cX12_putOne 6 = .ok (.iconst 1, 1) := by decide +kernel
theorem dX12_putOne_7 : decode cX12_putOne 7 = .ok (.if_icmp .ne 8, 3) := by decide +kernel
theorem dX12_putOne_10 : decode cX12_putOne 10 = .ok (.bipush 102, 2) := by decide +kernel
theorem dX12_putOne_12 : decode cX12_putOne 12 = .ok (.goto 5, 3) := by decide +kernel
theorem dX12_putOne_15 : decode cX12_putOne 15 = .ok (.bipush 114, 2) := by decide +kernel
theorem dX12_putOne_17 : decode cX12_putOne 17 = .ok (.invokevirtual 862, 3) := by decide +kernel
theorem dX12_putOne_20 : decode cX12_putOne 20 = .ok (.aload_n 0, 1) := by decide +kernel
theorem dX12_putOne_21 : decode cX12_putOne 21 = .ok (.iload_n 2, 1) := by decide +kernel
theorem dX12_putOne_22 : decode cX12_putOne 22 = .ok (.invokevirtual 871, 3) := by decide +kernel
theorem dX12_putOne_25 : decode cX12_putOne 25 = .ok (.return_, 1) := by decide +kernel
theorem dX12_putParts_0 : decode cX12_putParts 0 = .ok (.iconst 0, 1) := by decide +kernel
theorem dX12_putParts_1 : decode cX12_putParts 1 = .ok (.istore 5, 2) := by decide +kernel
theorem dX12_putParts_3 : decode cX12_putParts 3 = .ok (.iload_n 3, 1) := by decide +kernel
theorem dX12_putParts_4 : decode cX12_putParts 4 = .ok (.istore 6, 2) := by decide +kernel
theorem dX12_putParts_6 : decode cX12_putParts 6 = .ok (.iload 6, 2) := by decide +kernel
theorem dX12_putParts_8 : decode cX12_putParts 8 = .ok (.iload_n 3, 1) := by decide +kernel
theorem dX12_putParts_9 : decode cX12_putParts 9 = .ok (.iload 4, 2) := by decide +kernel
theorem dX12_putParts_11 : decode cX12_putParts 11 = .ok (.iadd, 1) := by decide +kernel
theorem dX12_putParts_12 : decode cX12_putParts 12 = .ok (.if_icmp .ge 143, 3) := by decide +kernel
theorem dX12_putParts_15 : decode cX12_putParts 15 = .ok (.aload_n 1, 1) := by decide +kernel
theorem dX12_putParts_16 : decode cX12_putParts 16 = .ok (.iload 6, 2) := by decide +kernel
theorem dX12_putParts_18 : decode cX12_putParts 18 = .ok (.iaload, 1) := by decide +kernel
theorem dX12_putParts_19 : decode cX12_putParts 19 = .ok (.iconst 2, 1) := by decide +kernel
theorem dX12_putParts_20 : decode cX12_putParts 20 = .ok (.if_icmp .ne 23, 3) := by decide +kernel
theorem dX12_putParts_23 : decode cX12_putParts 23 = .ok (.aload_n 0, 1) := by decide +kernel
theorem dX12_putParts_24 : decode cX12_putParts 24 = .ok (.bipush 91, 2) := by decide +kernel
theorem dX12_putParts_26 : decode cX12_putParts 26 = .ok (.invokevirtual 862, 3) := by decide +kernel
theorem dX12_putParts_29 : decode cX12_putParts 29 = .ok (.aload_n 0, 1) := by decide +kernel
theorem dX12_putParts_30 : decode cX12_putParts 30 = .ok (.getfield 284, 3) := by decide +kernel
theorem dX12_putParts_33 : decode cX12_putParts 33 = .ok (.iload 5, 2) := by decide +kernel
theorem dX12_putParts_35 : decode cX12_putParts 35 = .ok (.iconst 2, 1) := by decide +kernel
theorem dX12_putParts_36 : decode cX12_putParts 36 = .ok (.iastore, 1) := by decide +kernel
theorem dX12_putParts_37 : decode cX12_putParts 37 = .ok (.iinc 5 1, 3) := by decide +kernel
theorem dX12_putParts_40 : decode cX12_putParts 40 = .ok (.goto 109, 3) := by decide +kernel
theorem dX12_putParts_43 : decode cX12_putParts 43 = .ok (.aload_n 1, 1) := by decide +kernel
theorem dX12_putParts_44 : decode cX12_putParts 44 = .ok (.iload 6, 2) := by decide +kernel
theorem dX12_putParts_46 : decode cX12_putParts 46 = .ok (.iaload, 1) := by decide +kernel
theorem dX12_putParts_47 : decode cX12_putParts 47 = .ok (.iconst 3, 1) := by decide +kernel
theorem dX12_putParts_48 : decode cX12_putParts 48 = .ok (.if_icmp .ne 12, 3) := by decide +kernel
theorem dX12_putParts_51 : decode cX12_putParts 51 = .ok (.aload_n 0, 1) := by decide +kernel
theorem dX12_putParts_52 : decode cX12_putParts 52 = .ok (.bipush 42, 2) := by decide +kernel
theorem dX12_putParts_54 : decode cX12_putParts 54 = .ok (.invokevirtual 862, 3) := by decide +kernel
theorem dX12_putParts_57 : decode cX12_putParts 57 = .ok (.goto 15, 3) := by decide +kernel
theorem dX12_putParts_60 : decode cX12_putParts 60 = .ok (.aload_n 0, 1) := by decide +kernel
theorem dX12_putParts_61 : decode cX12_putParts 61 = .ok (.aload_n 1, 1) := by decide +kernel
theorem dX12_putParts_62 : decode cX12_putParts 62 = .ok (.iload 6, 2) := by decide +kernel
theorem dX12_putParts_64 : decode cX12_putParts 64 = .ok (.iaload, 1) := by decide +kernel
theorem dX12_putParts_65 : decode cX12_putParts 65 = .ok (.aload_n 2, 1) := by decide +kernel
theorem dX12_putParts_66 : decode cX12_putParts 66 = .ok (.iload 6, 2) := by decide +kernel
theorem dX12_putParts_68 : decode cX12_putParts 68 = .ok (.iaload, 1) := by decide +kernel
theorem dX12_putParts_69 : decode cX12_putParts 69 = .ok (.invokevirtual 874, 3) := by decide +kernel
theorem dX12_putParts_72 : decode cX12_putParts 72 = .ok (.iload 6, 2) := by decide +kernel
theorem dX12_putParts_74 : decode cX12_putParts 74 = .ok (.iconst 1, 1) := by decide +kernel
theorem dX12_putParts_75 : decode cX12_putParts 75 = .ok (.iadd, 1) := by decide +kernel
theorem dX12_putParts_76 : decode cX12_putParts 76 = .ok (.iload_n 3, 1) := by decide +kernel
theorem dX12_putParts_77 : decode cX12_putParts 77 = .ok (.iload 4, 2) := by decide +kernel
theorem dX12_putParts_79 : decode cX12_putParts 79 = .ok (.iadd, 1) := by decide +kernel
theorem dX12_putParts_80 : decode cX12_putParts 80 = .ok (.if_icmp .ge 7, 3) := by decide +kernel
theorem dX12_putParts_83 : decode cX12_putParts 83 = .ok (.iconst 1, 1) := by decide +kernel
theorem dX12_putParts_84 : decode cX12_putParts 84 = .ok (.goto 4, 3) := by decide +kernel
theorem dX12_putParts_87 : decode cX12_putParts 87 = .ok (.iconst 0, 1) := by decide +kernel
theorem dX12_putParts_88 : decode cX12_putParts 88 = .ok (.istore 7, 2) := by decide +kernel
theorem dX12_putParts_90 : decode cX12_putParts 90 = .ok (.iload 5, 2) := by decide +kernel
theorem dX12_putParts_92 : decode cX12_putParts 92 = .ok (.ifCond .le 28, 3) := by decide +kernel
theorem dX12_putParts_95 : decode cX12_putParts 95 = .ok (.aload_n 0, 1) := by decide +kernel
theorem dX12_putParts_96 : decode cX12_putParts 96 = .ok (.getfield 284, 3) := by decide +kernel
theorem dX12_putParts_99 : decode cX12_putParts 99 = .ok (.iload 5, 2) := by decide +kernel
theorem dX12_putParts_101 : decode cX12_putParts 101 = .ok (.iconst 1, 1) := by decide +kernel
theorem dX12_putParts_102 : decode cX12_putParts 102 = .ok (.isub, 1) := by decide +kernel
theorem dX12_putParts_103 : decode cX12_putParts 103 = .ok (.iaload, 1) := by decide +kernel
theorem dX12_putParts_104 : decode cX12_putParts 104 = .ok (.iconst 1, 1) := by decide +kernel
theorem dX12_putParts_105 : decode cX12_putParts 105 = .ok (.if_icmp .ne 15, 3) := by decide +kernel
theorem dX12_putParts_108 : decode cX12_putParts 108 = .ok (.aload_n 0, 1) := by decide +kernel
theorem dX12_putParts_109 : decode cX12_putParts 109 = .ok (.bipush 93, 2) := by decide +kernel
theorem dX12_putParts_111 : decode cX12_putParts 111 = .ok (.invokevirtual 862, 3) := by decide +kernel
theorem dX12_putParts_114 : decode cX12_putParts 114 = .ok (.iinc 5 (-1), 3) := by decide +kernel
theorem dX12_putParts_117 : decode cX12_putParts 117 = .ok (.goto (-27), 3) := by decide +kernel
theorem dX12_putParts_120 : decode cX12_putParts 120 = .ok (.iload 5, 2) := by decide +kernel
theorem dX12_putParts_122 : decode cX12_putParts 122 = .ok (.ifCond .le 16, 3) := by decide +kernel
theorem dX12_putParts_125 : decode cX12_putParts 125 = .ok (.aload_n 0, 1) := by decide +kernel
theorem dX12_putParts_126 : decode cX12_putParts 126 = .ok (.getfield 284, 3) := by decide +kernel
theorem dX12_putParts_129 : decode cX12_putParts 129 = .ok (.iload 5, 2) := by decide +kernel
theorem dX12_putParts_131 : decode cX12_putParts 131 = .ok (.iconst 1, 1) := by decide +kernel
theorem dX12_putParts_132 : decode cX12_putParts 132 = .ok (.isub, 1) := by decide +kernel
theorem dX12_putParts_133 : decode cX12_putParts 133 = .ok (.dup2, 1) := by decide +kernel
theorem dX12_putParts_134 : decode cX12_putParts 134 = .ok (.iaload, 1) := by decide +kernel
theorem dX12_putParts_135 : decode cX12_putParts 135 = .ok (.iconst 1, 1) := by decide +kernel
theorem dX12_putParts_136 : decode cX12_putParts 136 = .ok (.isub, 1) := by decide +kernel
theorem dX12_putParts_137 : decode cX12_putParts 137 = .ok (.iastore, 1) := by decide +kernel
theorem dX12_putParts_138 : decode cX12_putParts 138 = .ok (.iload 7, 2) := by decide +kernel
theorem dX12_putParts_140 : decode cX12_putParts 140 = .ok (.ifCond .eq 9, 3) := by decide +kernel
theorem dX12_putParts_143 : decode cX12_putParts 143 = .ok (.aload_n 0, 1) := by decide +kernel
theorem dX12_putParts_144 : decode cX12_putParts 144 = .ok (.bipush 44, 2) := by decide +kernel
theorem dX12_putParts_146 : decode cX12_putParts 146 = .ok (.invokevirtual 862, 3) := by decide +kernel
theorem dX12_putParts_149 : decode cX12_putParts 149 = .ok (.iinc 6 1, 3) := by decide +kernel
theorem dX12_putParts_152 : decode cX12_putParts 152 = .ok (.goto (-146), 3) := by decide +kernel
theorem dX12_putParts_155 : decode cX12_putParts 155 = .ok (.return_, 1) := by decide +kernel
theorem dX12_value_0 : decode cX12_value 0 = .ok (.aload_n 0, 1) := by decide +kernel
theorem dX12_value_1 : decode cX12_value 1 = .ok (.getfield 848, 3) := by decide +kernel
theorem dX12_value_4 : decode cX12_value 4 = .ok (.ifCond .ne 5, 3) := by decide +kernel
theorem dX12_value_7 : decode cX12_value 7 = .ok (.iconst (-1), 1) := by decide +kernel
theorem dX12_value_8 : decode cX12_value 8 = .ok (.ireturn, 1) := by decide +kernel
theorem dX12_value_9 : decode cX12_value 9 = .ok (.aload_n 0, 1) := by decide +kernel
theorem dX12_value_10 : decode cX12_value 10 = .ok (.iconst 0, 1) := by decide +kernel
theorem dX12_value_11 : decode cX12_value 11 = .ok (.putfield 859, 3) := by decide +kernel
theorem dX12_value_14 : decode cX12_value 14 = .ok (.aload_n 0, 1) := by decide +kernel
theorem dX12_value_15 : decode cX12_value 15 = .ok (.aload_n 0, 1) := by decide +kernel
theorem dX12_value_16 : decode cX12_value 16 = .ok (.getfield 262, 3) := by decide +kernel
theorem dX12_value_19 : decode cX12_value 19 = .ok (.aload_n 0, 1) := by decide +kernel
theorem dX12_value_20 : decode cX12_value 20 = .ok (.getfield 265, 3) := by decide +kernel
theorem dX12_value_23 : decode cX12_value 23 = .ok (.iconst 0, 1) := by decide +kernel
theorem dX12_value_24 : decode cX12_value 24 = .ok (.aload_n 0, 1) := by decide +kernel
theorem dX12_value_25 : decode cX12_value 25 = .ok (.getfield 848, 3) := by decide +kernel
theorem dX12_value_28 : decode cX12_value 28 = .ok (.invokevirtual 877, 3) := by decide +kernel
theorem dX12_value_31 : decode cX12_value 31 = .ok (.aload_n 0, 1) := by decide +kernel
theorem dX12_value_32 : decode cX12_value 32 = .ok (.getfield 859, 3) := by decide +kernel
theorem dX12_value_35 : decode cX12_value 35 = .ok (.ireturn, 1) := by decide +kernel
theorem dX12_putOperand_0 : decode cX12_putOperand 0 = .ok (.aload_n 0, 1) := by decide +kernel
theorem dX12_putOperand_1 : decode cX12_putOperand 1 = .ok (.aload_n 0, 1) := by decide +kernel
theorem dX12_putOperand_2 : decode cX12_putOperand 2 = .ok (.getfield 175, 3) := by decide +kernel
theorem dX12_putOperand_5 : decode cX12_putOperand 5 = .ok (.iload_n 1, 1) := by decide +kernel
theorem dX12_putOperand_6 : decode cX12_putOperand 6 = .ok (.iaload, 1) := by decide +kernel
theorem dX12_putOperand_7 : decode cX12_putOperand 7 = .ok (.aload_n 0, 1) := by decide +kernel
theorem dX12_putOperand_8 : decode cX12_putOperand 8 = .ok (.getfield 178, 3) := by decide +kernel
theorem dX12_putOperand_11 : decode cX12_putOperand 11 = .ok (.iload_n 1, 1) := by decide +kernel
theorem dX12_putOperand_12 : decode cX12_putOperand 12 = .ok (.iaload, 1) := by decide +kernel
theorem dX12_putOperand_13 : decode cX12_putOperand 13 = .ok (.invokevirtual 874, 3) := by decide +kernel
theorem dX12_putOperand_16 : decode cX12_putOperand 16 = .ok (.return_, 1) := by decide +kernel
theorem dX12_signOfOne_0 : decode cX12_signOfOne 0 = .ok (.iload_n 0, 1) := by decide +kernel
theorem dX12_signOfOne_1 : decode cX12_signOfOne 1 = .ok (.ifCond .ne 8, 3) := by decide +kernel
theorem dX12_signOfOne_4 : decode cX12_signOfOne 4 = .ok (.bipush 36, 2) := by decide +kernel
theorem dX12_signOfOne_6 : decode cX12_signOfOne 6 = .ok (.goto 35, 3) := by decide +kernel
theorem dX12_signOfOne_9 : decode cX12_signOfOne 9 = .ok (.iload_n 0, 1) := by decide +kernel
theorem dX12_signOfOne_10 : decode cX12_signOfOne 10 = .ok (.iconst 1, 1) := by decide +kernel
theorem dX12_signOfOne_11 : decode cX12_signOfOne 11 = .ok (.if_icmp .ne 8, 3) := by decide +kernel
theorem dX12_signOfOne_14 : decode cX12_signOfOne 14 = .ok (.bipush 94, 2) := by decide +kernel
theorem dX12_signOfOne_16 : decode cX12_signOfOne 16 = .ok (.goto 25, 3) := by decide +kernel
theorem dX12_signOfOne_19 : decode cX12_signOfOne 19 = .ok (.iload_n 0, 1) := by decide +kernel
theorem dX12_signOfOne_20 : decode cX12_signOfOne 20 = .ok (.iconst 2, 1) := by decide +kernel
theorem dX12_signOfOne_21 : decode cX12_signOfOne 21 = .ok (.if_icmp .ne 8, 3) := by decide +kernel
theorem dX12_signOfOne_24 : decode cX12_signOfOne 24 = .ok (.bipush 35, 2) := by decide +kernel
theorem dX12_signOfOne_26 : decode cX12_signOfOne 26 = .ok (.goto 15, 3) := by decide +kernel
theorem dX12_signOfOne_29 : decode cX12_signOfOne 29 = .ok (.iload_n 0, 1) := by decide +kernel
theorem dX12_signOfOne_30 : decode cX12_signOfOne 30 = .ok (.iconst 3, 1) := by decide +kernel
theorem dX12_signOfOne_31 : decode cX12_signOfOne 31 = .ok (.if_icmp .ne 8, 3) := by decide +kernel
theorem dX12_signOfOne_34 : decode cX12_signOfOne 34 = .ok (.bipush 64, 2) := by decide +kernel
theorem dX12_signOfOne_36 : decode cX12_signOfOne 36 = .ok (.goto 5, 3) := by decide +kernel
theorem dX12_signOfOne_39 : decode cX12_signOfOne 39 = .ok (.bipush 126, 2) := by decide +kernel
theorem dX12_signOfOne_41 : decode cX12_signOfOne 41 = .ok (.ireturn, 1) := by decide +kernel
theorem dX12_putItem_0 : decode cX12_putItem 0 = .ok (.aload_n 0, 1) := by decide +kernel
theorem dX12_putItem_1 : decode cX12_putItem 1 = .ok (.getfield 154, 3) := by decide +kernel
theorem dX12_putItem_4 : decode cX12_putItem 4 = .ok (.iload_n 1, 1) := by decide +kernel
theorem dX12_putItem_5 : decode cX12_putItem 5 = .ok (.iaload, 1) := by decide +kernel
theorem dX12_putItem_6 : decode cX12_putItem 6 = .ok (.istore_n 2, 1) := by decide +kernel
theorem dX12_putItem_7 : decode cX12_putItem 7 = .ok (.aload_n 0, 1) := by decide +kernel
theorem dX12_putItem_8 : decode cX12_putItem 8 = .ok (.getfield 169, 3) := by decide +kernel
theorem dX12_putItem_11 : decode cX12_putItem 11 = .ok (.iload_n 1, 1) := by decide +kernel
theorem dX12_putItem_12 : decode cX12_putItem 12 = .ok (.iaload, 1) := by decide +kernel
theorem dX12_putItem_13 : decode cX12_putItem 13 = .ok (.istore_n 3, 1) := by decide +kernel
theorem dX12_putItem_14 : decode cX12_putItem 14 = .ok (.iload_n 2, 1) := by decide +kernel
theorem dX12_putItem_15 : decode cX12_putItem 15 = .ok (.bipush 13, 2) := by decide +kernel
theorem dX12_putItem_17 : decode cX12_putItem 17 = .ok (.if_icmp .eq 9, 3) := by decide +kernel
theorem dX12_putItem_20 : decode cX12_putItem 20 = .ok (.iload_n 2, 1) := by decide +kernel
theorem dX12_putItem_21 : decode cX12_putItem 21 = .ok (.bipush 14, 2) := by decide +kernel
theorem dX12_putItem_23 : decode cX12_putItem 23 = .ok (.if_icmp .ne 32, 3) := by decide +kernel
theorem dX12_putItem_26 : decode cX12_putItem 26 = .ok (.aload_n 0, 1) := by decide +kernel
theorem dX12_putItem_27 : decode cX12_putItem 27 = .ok (.iload_n 3, 1) := by decide +kernel
theorem dX12_putItem_28 : decode cX12_putItem 28 = .ok (.invokevirtual 881, 3) := by decide +kernel
theorem dX12_putItem_31 : decode cX12_putItem 31 = .ok (.aload_n 0, 1) := by decide +kernel
theorem dX12_putItem_32 : decode cX12_putItem 32 = .ok (.bipush 125, 2) := by decide +kernel
theorem dX12_putItem_34 : decode cX12_putItem 34 = .ok (.invokevirtual 862, 3) := by decide +kernel
theorem dX12_putItem_37 : decode cX12_putItem 37 = .ok (.aload_n 0, 1) := by decide +kernel
theorem dX12_putItem_38 : decode cX12_putItem 38 = .ok (.iload_n 2, 1) := by decide +kernel
theorem dX12_putItem_39 : decode cX12_putItem 39 = .ok (.bipush 13, 2) := by decide +kernel
theorem dX12_putItem_41 : decode cX12_putItem 41 = .ok (.if_icmp .ne 8, 3) := by decide +kernel
theorem dX12_putItem_44 : decode cX12_putItem 44 = .ok (.bipush 123, 2) := by decide +kernel
theorem dX12_putItem_46 : decode cX12_putItem 46 = .ok (.goto 5, 3) := by decide +kernel
theorem dX12_putItem_49 : decode cX12_putItem 49 = .ok (.bipush 59, 2) := by decide +kernel
theorem dX12_putItem_51 : decode cX12_putItem 51 = .ok (.invokevirtual 862, 3) := by decide +kernel
theorem dX12_putItem_54 : decode cX12_putItem 54 = .ok (.return_, 1) := by decide +kernel
theorem dX12_putItem_55 : decode cX12_putItem 55 = .ok (.iload_n 2, 1) := by decide +kernel
theorem dX12_putItem_56 : decode cX12_putItem 56 = .ok (.bipush 7, 2) := by decide +kernel
theorem dX12_putItem_58 : decode cX12_putItem 58 = .ok (.if_icmp .eq 20, 3) := by decide +kernel
theorem dX12_putItem_61 : decode cX12_putItem 61 = .ok (.aload_n 0, 1) := by decide +kernel
theorem dX12_putItem_62 : decode cX12_putItem 62 = .ok (.iconst 3, 1) := by decide +kernel
theorem dX12_putItem_63 : decode cX12_putItem 63 = .ok (.aload_n 0, 1) := by decide +kernel
theorem dX12_putItem_64 : decode cX12_putItem 64 = .ok (.getfield 157, 3) := by decide +kernel
theorem dX12_putItem_67 : decode cX12_putItem 67 = .ok (.iload_n 1, 1) := by decide +kernel
theorem dX12_putItem_68 : decode cX12_putItem 68 = .ok (.iaload, 1) := by decide +kernel
theorem dX12_putItem_69 : decode cX12_putItem 69 = .ok (.invokevirtual 874, 3) := by decide +kernel
theorem dX12_putItem_72 : decode cX12_putItem 72 = .ok (.aload_n 0, 1) := by decide +kernel
theorem dX12_putItem_73 : decode cX12_putItem 73 = .ok (.bipush 61, 2) := by decide +kernel
theorem dX12_putItem_75 : decode cX12_putItem 75 = .ok (.invokevirtual 862, 3) := by decide +kernel
theorem dX12_putItem_78 : decode cX12_putItem 78 = .ok (.iload_n 2, 1) := by decide +kernel
theorem dX12_putItem_79 : decode cX12_putItem 79 = .ok (.bipush 6, 2) := by decide +kernel
theorem dX12_putItem_81 : decode cX12_putItem 81 = .ok (.if_icmp .ne 21, 3) := by decide +kernel
theorem dX12_putItem_84 : decode cX12_putItem 84 = .ok (.aload_n 0, 1) := by decide +kernel
theorem dX12_putItem_85 : decode cX12_putItem 85 = .ok (.bipush 63, 2) := by decide +kernel
theorem dX12_putItem_87 : decode cX12_putItem 87 = .ok (.invokevirtual 862, 3) := by decide +kernel
theorem dX12_putItem_90 : decode cX12_putItem 90 = .ok (.aload_n 0, 1) := by decide +kernel
theorem dX12_putItem_91 : decode cX12_putItem 91 = .ok (.iload_n 3, 1) := by decide +kernel
theorem dX12_putItem_92 : decode cX12_putItem 92 = .ok (.invokevirtual 881, 3) := by decide +kernel
theorem dX12_putItem_95 : decode cX12_putItem 95 = .ok (.aload_n 0, 1) := by decide +kernel
theorem dX12_putItem_96 : decode cX12_putItem 96 = .ok (.bipush 123, 2) := by decide +kernel
theorem dX12_putItem_98 : decode cX12_putItem 98 = .ok (.invokevirtual 862, 3) := by decide +kernel
theorem dX12_putItem_101 : decode cX12_putItem 101 = .ok (.return_, 1) := by decide +kernel
theorem dX12_putItem_102 : decode cX12_putItem 102 = .ok (.aload_n 0, 1) := by decide +kernel
theorem dX12_putItem_103 : decode cX12_putItem 103 = .ok (.iload_n 1, 1) := by decide +kernel
theorem dX12_putItem_104 : decode cX12_putItem 104 = .ok (.iload_n 2, 1) := by decide +kernel
theorem dX12_putItem_105 : decode cX12_putItem 105 = .ok (.iload_n 3, 1) := by decide +kernel
theorem dX12_putItem_106 : decode cX12_putItem 106 = .ok (.invokevirtual 884, 3) := by decide +kernel
theorem dX12_putItem_109 : decode cX12_putItem 109 = .ok (.aload_n 0, 1) := by decide +kernel
theorem dX12_putItem_110 : decode cX12_putItem 110 = .ok (.bipush 59, 2) := by decide +kernel
theorem dX12_putItem_112 : decode cX12_putItem 112 = .ok (.invokevirtual 862, 3) := by decide +kernel
theorem dX12_putItem_115 : decode cX12_putItem 115 = .ok (.return_, 1) := by decide +kernel
theorem dX12_putRest_0 : decode cX12_putRest 0 = .ok (.iload_n 2, 1) := by decide +kernel
theorem dX12_putRest_1 : decode cX12_putRest 1 = .ok (.ifCond .ne 40, 3) := by decide +kernel
theorem dX12_putRest_4 : decode cX12_putRest 4 = .ok (.aload_n 0, 1) := by decide +kernel
theorem dX12_putRest_5 : decode cX12_putRest 5 = .ok (.bipush 40, 2) := by decide +kernel
theorem dX12_putRest_7 : decode cX12_putRest 7 = .ok (.invokevirtual 862, 3) := by decide +kernel
theorem dX12_putRest_10 : decode cX12_putRest 10 = .ok (.aload_n 0, 1) := by decide +kernel
theorem dX12_putRest_11 : decode cX12_putRest 11 = .ok (.iload_n 3, 1) := by decide +kernel
theorem dX12_putRest_12 : decode cX12_putRest 12 = .ok (.invokevirtual 881, 3) := by decide +kernel
theorem dX12_putRest_15 : decode cX12_putRest 15 = .ok (.aload_n 0, 1) := by decide +kernel
theorem dX12_putRest_16 : decode cX12_putRest 16 = .ok (.aload_n 0, 1) := by decide +kernel
theorem dX12_putRest_17 : decode cX12_putRest 17 = .ok (.getfield 160, 3) := by decide +kernel
theorem dX12_putRest_20 : decode cX12_putRest 20 = .ok (.iload_n 1, 1) := by decide +kernel
theorem dX12_putRest_21 : decode cX12_putRest 21 = .ok (.iaload, 1) := by decide +kernel
theorem dX12_putRest_22 : decode cX12_putRest 22 = .ok (.invokevirtual 862, 3) := by decide +kernel
theorem dX12_putRest_25 : decode cX12_putRest 25 = .ok (.aload_n 0, 1) := by decide +kernel
theorem dX12_putRest_26 : decode cX12_putRest 26 = .ok (.iload_n 3, 1) := by decide +kernel
theorem dX12_putRest_27 : decode cX12_putRest 27 = .ok (.iconst 1, 1) := by decide +kernel
theorem dX12_putRest_28 : decode cX12_putRest 28 = .ok (.iadd, 1) := by decide +kernel
theorem dX12_putRest_29 : decode cX12_putRest 29 = .ok (.invokevirtual 881, 3) := by decide +kernel
theorem dX12_putRest_32 : decode cX12_putRest 32 = .ok (.aload_n 0, 1) := by decide +kernel
theorem dX12_putRest_33 : decode cX12_putRest 33 = .ok (.bipush 41, 2) := by decide +kernel
theorem dX12_putRest_35 : decode cX12_putRest 35 = .ok (.invokevirtual 862, 3) := by decide +kernel
theorem dX12_putRest_38 : decode cX12_putRest 38 = .ok (.goto 119, 3) := by decide +kernel
theorem dX12_putRest_41 : decode cX12_putRest 41 = .ok (.iload_n 2, 1) := by decide +kernel
theorem dX12_putRest_42 : decode cX12_putRest 42 = .ok (.bipush 6, 2) := by decide +kernel
theorem dX12_putRest_44 : decode cX12_putRest 44 = .ok (.if_icmp .ge 21, 3) := by decide +kernel
theorem dX12_putRest_47 : decode cX12_putRest 47 = .ok (.aload_n 0, 1) := by decide +kernel
theorem dX12_putRest_48 : decode cX12_putRest 48 = .ok (.iload_n 2, 1) := by decide +kernel
theorem dX12_putRest_49 : decode cX12_putRest 49 = .ok (.iconst 1, 1) := by decide +kernel
theorem dX12_putRest_50 : decode cX12_putRest 50 = .ok (.isub, 1) := by decide +kernel
theorem dX12_putRest_51 : decode cX12_putRest 51 = .ok (.invokestatic 887, 3) := by decide +kernel
theorem dX12_putRest_54 : decode cX12_putRest 54 = .ok (.invokevirtual 862, 3) := by decide +kernel
theorem dX12_putRest_57 : decode cX12_putRest 57 = .ok (.aload_n 0, 1) := by decide +kernel
theorem dX12_putRest_58 : decode cX12_putRest 58 = .ok (.iload_n 3, 1) := by decide +kernel
theorem dX12_putRest_59 : decode cX12_putRest 59 = .ok (.invokevirtual 881, 3) := by decide +kernel
theorem dX12_putRest_62 : decode cX12_putRest 62 = .ok (.goto 95, 3) := by decide +kernel
theorem dX12_putRest_65 : decode cX12_putRest 65 = .ok (.iload_n 2, 1) := by decide +kernel
theorem dX12_putRest_66 : decode cX12_putRest 66 = .ok (.bipush 7, 2) := by decide +kernel
theorem dX12_putRest_68 : decode cX12_putRest 68 = .ok (.if_icmp .ne 17, 3) := by decide +kernel
theorem dX12_putRest_71 : decode cX12_putRest 71 = .ok (.aload_n 0, 1) := by decide +kernel
theorem dX12_putRest_72 : decode cX12_putRest 72 = .ok (.bipush 33, 2) := by decide +kernel
theorem dX12_putRest_74 : decode cX12_putRest 74 = .ok (.invokevirtual 862, 3) := by decide +kernel
theorem dX12_putRest_77 : decode cX12_putRest 77 = .ok (.aload_n 0, 1) := by decide +kernel
theorem dX12_putRest_78 : decode cX12_putRest 78 = .ok (.iload_n 3, 1) := by decide +kernel
theorem dX12_putRest_79 : decode cX12_putRest 79 = .ok (.invokevirtual 881, 3) := by decide +kernel
theorem dX12_putRest_82 : decode cX12_putRest 82 = .ok (.goto 75, 3) := by decide +kernel
theorem dX12_putRest_85 : decode cX12_putRest 85 = .ok (.iload_n 2, 1) := by decide +kernel
theorem dX12_putRest_86 : decode cX12_putRest 86 = .ok (.bipush 10, 2) := by decide +kernel
theorem dX12_putRest_88 : decode cX12_putRest 88 = .ok (.if_icmp .ge 47, 3) := by decide +kernel
theorem dX12_putRest_91 : decode cX12_putRest 91 = .ok (.aload_n 0, 1) := by decide +kernel
theorem dX12_putRest_92 : decode cX12_putRest 92 = .ok (.iload_n 2, 1) := by decide +kernel
theorem dX12_putRest_93 : decode cX12_putRest 93 = .ok (.bipush 8, 2) := by decide +kernel
theorem dX12_putRest_95 : decode cX12_putRest 95 = .ok (.if_icmp .ne 8, 3) := by decide +kernel
theorem dX12_putRest_98 : decode cX12_putRest 98 = .ok (.bipush 38, 2) := by decide +kernel
theorem dX12_putRest_100 : decode cX12_putRest 100 = .ok (.goto 5, 3) := by decide +kernel
theorem dX12_putRest_103 : decode cX12_putRest 103 = .ok (.bipush 95, 2) := by decide +kernel
theorem dX12_putRest_105 : decode cX12_putRest 105 = .ok (.invokevirtual 862, 3) := by decide +kernel
theorem dX12_putRest_108 : decode cX12_putRest 108 = .ok (.aload_n 0, 1) := by decide +kernel
theorem dX12_putRest_109 : decode cX12_putRest 109 = .ok (.bipush 48, 2) := by decide +kernel
theorem dX12_putRest_111 : decode cX12_putRest 111 = .ok (.aload_n 0, 1) := by decide +kernel
theorem dX12_putRest_112 : decode cX12_putRest 112 = .ok (.getfield 160, 3) := by decide +kernel
theorem dX12_putRest_115 : decode cX12_putRest 115 = .ok (.iload_n 1, 1) := by decide +kernel
theorem dX12_putRest_116 : decode cX12_putRest 116 = .ok (.iaload, 1) := by decide +kernel
theorem dX12_putRest_117 : decode cX12_putRest 117 = .ok (.iadd, 1) := by decide +kernel
theorem dX12_putRest_118 : decode cX12_putRest 118 = .ok (.invokevirtual 862, 3) := by decide +kernel
theorem dX12_putRest_121 : decode cX12_putRest 121 = .ok (.iload_n 2, 1) := by decide +kernel
theorem dX12_putRest_122 : decode cX12_putRest 122 = .ok (.bipush 8, 2) := by decide +kernel
theorem dX12_putRest_124 : decode cX12_putRest 124 = .ok (.if_icmp .ne 33, 3) := by decide +kernel
theorem dX12_putRest_127 : decode cX12_putRest 127 = .ok (.aload_n 0, 1) := by decide +kernel
theorem dX12_putRest_128 : decode cX12_putRest 128 = .ok (.iload_n 3, 1) := by decide +kernel
theorem dX12_putRest_129 : decode cX12_putRest 129 = .ok (.invokevirtual 881, 3) := by decide +kernel
theorem dX12_putRest_132 : decode cX12_putRest 132 = .ok (.goto 25, 3) := by decide +kernel
theorem dX12_putRest_135 : decode cX12_putRest 135 = .ok (.iload_n 2, 1) := by decide +kernel
theorem dX12_putRest_136 : decode cX12_putRest 136 = .ok (.bipush 12, 2) := by decide +kernel
theorem dX12_putRest_138 : decode cX12_putRest 138 = .ok (.if_icmp .ne 12, 3) := by decide +kernel
theorem dX12_putRest_141 : decode cX12_putRest 141 = .ok (.aload_n 0, 1) := by decide +kernel
theorem dX12_putRest_142 : decode cX12_putRest 142 = .ok (.bipush 45, 2) := by decide +kernel
theorem dX12_putRest_144 : decode cX12_putRest 144 = .ok (.invokevirtual 862, 3) := by decide +kernel
theorem dX12_putRest_147 : decode cX12_putRest 147 = .ok (.goto 10, 3) := by decide +kernel
theorem dX12_putRest_150 : decode cX12_putRest 150 = .ok (.aload_n 0, 1) := by decide +kernel
theorem dX12_putRest_151 : decode cX12_putRest 151 = .ok (.iload_n 1, 1) := by decide +kernel
theorem dX12_putRest_152 : decode cX12_putRest 152 = .ok (.iload_n 2, 1) := by decide +kernel
theorem dX12_putRest_153 : decode cX12_putRest 153 = .ok (.iload_n 3, 1) := by decide +kernel
theorem dX12_putRest_154 : decode cX12_putRest 154 = .ok (.invokevirtual 890, 3) := by decide +kernel
theorem dX12_putRest_157 : decode cX12_putRest 157 = .ok (.return_, 1) := by decide +kernel
theorem dX12_putList_0 : decode cX12_putList 0 = .ok (.iload_n 2, 1) := by decide +kernel
theorem dX12_putList_1 : decode cX12_putList 1 = .ok (.bipush 11, 2) := by decide +kernel
theorem dX12_putList_3 : decode cX12_putList 3 = .ok (.if_icmp .ne 19, 3) := by decide +kernel
theorem dX12_putList_6 : decode cX12_putList 6 = .ok (.aload_n 0, 1) := by decide +kernel
theorem dX12_putList_7 : decode cX12_putList 7 = .ok (.bipush 99, 2) := by decide +kernel
theorem dX12_putList_9 : decode cX12_putList 9 = .ok (.invokevirtual 862, 3) := by decide +kernel
theorem dX12_putList_12 : decode cX12_putList 12 = .ok (.aload_n 0, 1) := by decide +kernel
theorem dX12_putList_13 : decode cX12_putList 13 = .ok (.aload_n 0, 1) := by decide +kernel
theorem dX12_putList_14 : decode cX12_putList 14 = .ok (.getfield 160, 3) := by decide +kernel
theorem dX12_putList_17 : decode cX12_putList 17 = .ok (.iload_n 1, 1) := by decide +kernel
theorem dX12_putList_18 : decode cX12_putList 18 = .ok (.iaload, 1) := by decide +kernel
theorem dX12_putList_19 : decode cX12_putList 19 = .ok (.invokevirtual 871, 3) := by decide +kernel
theorem dX12_putList_22 : decode cX12_putList 22 = .ok (.aload_n 0, 1) := by decide +kernel
theorem dX12_putList_23 : decode cX12_putList 23 = .ok (.iload_n 2, 1) := by decide +kernel
theorem dX12_putList_24 : decode cX12_putList 24 = .ok (.bipush 10, 2) := by decide +kernel
theorem dX12_putList_26 : decode cX12_putList 26 = .ok (.if_icmp .ne 8, 3) := by decide +kernel
theorem dX12_putList_29 : decode cX12_putList 29 = .ok (.bipush 91, 2) := by decide +kernel
theorem dX12_putList_31 : decode cX12_putList 31 = .ok (.goto 5, 3) := by decide +kernel
theorem dX12_putList_34 : decode cX12_putList 34 = .ok (.bipush 40, 2) := by decide +kernel
theorem dX12_putList_36 : decode cX12_putList 36 = .ok (.invokevirtual 862, 3) := by decide +kernel
theorem dX12_putList_39 : decode cX12_putList 39 = .ok (.iconst 0, 1) := by decide +kernel
theorem dX12_putList_40 : decode cX12_putList 40 = .ok (.istore 4, 2) := by decide +kernel
theorem dX12_putList_42 : decode cX12_putList 42 = .ok (.iload 4, 2) := by decide +kernel
theorem dX12_putList_44 : decode cX12_putList 44 = .ok (.aload_n 0, 1) := by decide +kernel
theorem dX12_putList_45 : decode cX12_putList 45 = .ok (.getfield 172, 3) := by decide +kernel
theorem dX12_putList_48 : decode cX12_putList 48 = .ok (.iload_n 1, 1) := by decide +kernel
theorem dX12_putList_49 : decode cX12_putList 49 = .ok (.iaload, 1) := by decide +kernel
theorem dX12_putList_50 : decode cX12_putList 50 = .ok (.if_icmp .ge 28, 3) := by decide +kernel
theorem dX12_putList_53 : decode cX12_putList 53 = .ok (.iload 4, 2) := by decide +kernel
theorem dX12_putList_55 : decode cX12_putList 55 = .ok (.ifCond .le 9, 3) := by decide +kernel
theorem dX12_putList_58 : decode cX12_putList 58 = .ok (.aload_n 0, 1) := by decide +kernel
theorem dX12_putList_59 : decode cX12_putList 59 = .ok (.bipush 44, 2) := by decide +kernel
theorem dX12_putList_61 : decode cX12_putList 61 = .ok (.invokevirtual 862, 3) := by decide +kernel
theorem dX12_putList_64 : decode cX12_putList 64 = .ok (.aload_n 0, 1) := by decide +kernel
theorem dX12_putList_65 : decode cX12_putList 65 = .ok (.iload_n 3, 1) := by decide +kernel
theorem dX12_putList_66 : decode cX12_putList 66 = .ok (.iload 4, 2) := by decide +kernel
theorem dX12_putList_68 : decode cX12_putList 68 = .ok (.iadd, 1) := by decide +kernel
theorem dX12_putList_69 : decode cX12_putList 69 = .ok (.invokevirtual 881, 3) := by decide +kernel
theorem dX12_putList_72 : decode cX12_putList 72 = .ok (.iinc 4 1, 3) := by decide +kernel
theorem dX12_putList_75 : decode cX12_putList 75 = .ok (.goto (-33), 3) := by decide +kernel
theorem dX12_putList_78 : decode cX12_putList 78 = .ok (.aload_n 0, 1) := by decide +kernel
theorem dX12_putList_79 : decode cX12_putList 79 = .ok (.iload_n 2, 1) := by decide +kernel
theorem dX12_putList_80 : decode cX12_putList 80 = .ok (.bipush 10, 2) := by decide +kernel
theorem dX12_putList_82 : decode cX12_putList 82 = .ok (.if_icmp .ne 8, 3) := by decide +kernel
theorem dX12_putList_85 : decode cX12_putList 85 = .ok (.bipush 93, 2) := by decide +kernel
theorem dX12_putList_87 : decode cX12_putList 87 = .ok (.goto 5, 3) := by decide +kernel
theorem dX12_putList_90 : decode cX12_putList 90 = .ok (.bipush 41, 2) := by decide +kernel
theorem dX12_putList_92 : decode cX12_putList 92 = .ok (.invokevirtual 862, 3) := by decide +kernel
theorem dX12_putList_95 : decode cX12_putList 95 = .ok (.return_, 1) := by decide +kernel
theorem dX12_write_0 : decode cX12_write 0 = .ok (.aload_n 0, 1) := by decide +kernel
theorem dX12_write_1 : decode cX12_write 1 = .ok (.iload_n 1, 1) := by decide +kernel
theorem dX12_write_2 : decode cX12_write 2 = .ok (.invokevirtual 785, 3) := by decide +kernel
theorem dX12_write_5 : decode cX12_write 5 = .ok (.ifCond .ne 5, 3) := by decide +kernel
theorem dX12_write_8 : decode cX12_write 8 = .ok (.iconst (-1), 1) := by decide +kernel
theorem dX12_write_9 : decode cX12_write 9 = .ok (.ireturn, 1) := by decide +kernel
theorem dX12_write_10 : decode cX12_write 10 = .ok (.aload_n 0, 1) := by decide +kernel
theorem dX12_write_11 : decode cX12_write 11 = .ok (.iconst 0, 1) := by decide +kernel
theorem dX12_write_12 : decode cX12_write 12 = .ok (.putfield 859, 3) := by decide +kernel
theorem dX12_write_15 : decode cX12_write 15 = .ok (.aload_n 0, 1) := by decide +kernel
theorem dX12_write_16 : decode cX12_write 16 = .ok (.bipush 97, 2) := by decide +kernel
theorem dX12_write_18 : decode cX12_write 18 = .ok (.aload_n 0, 1) := by decide +kernel
theorem dX12_write_19 : decode cX12_write 19 = .ok (.getfield 17, 3) := by decide +kernel
theorem dX12_write_22 : decode cX12_write 22 = .ok (.aload_n 0, 1) := by decide +kernel
theorem dX12_write_23 : decode cX12_write 23 = .ok (.getfield 187, 3) := by decide +kernel
theorem dX12_write_26 : decode cX12_write 26 = .ok (.iload_n 1, 1) := by decide +kernel
theorem dX12_write_27 : decode cX12_write 27 = .ok (.iaload, 1) := by decide +kernel
theorem dX12_write_28 : decode cX12_write 28 = .ok (.iaload, 1) := by decide +kernel
theorem dX12_write_29 : decode cX12_write 29 = .ok (.iadd, 1) := by decide +kernel
theorem dX12_write_30 : decode cX12_write 30 = .ok (.iconst 1, 1) := by decide +kernel
theorem dX12_write_31 : decode cX12_write 31 = .ok (.isub, 1) := by decide +kernel
theorem dX12_write_32 : decode cX12_write 32 = .ok (.invokevirtual 862, 3) := by decide +kernel
theorem dX12_write_35 : decode cX12_write 35 = .ok (.aload_n 0, 1) := by decide +kernel
theorem dX12_write_36 : decode cX12_write 36 = .ok (.bipush 40, 2) := by decide +kernel
theorem dX12_write_38 : decode cX12_write 38 = .ok (.invokevirtual 862, 3) := by decide +kernel
theorem dX12_write_41 : decode cX12_write 41 = .ok (.aload_n 0, 1) := by decide +kernel
theorem dX12_write_42 : decode cX12_write 42 = .ok (.aload_n 0, 1) := by decide +kernel
theorem dX12_write_43 : decode cX12_write 43 = .ok (.getfield 196, 3) := by decide +kernel
theorem dX12_write_46 : decode cX12_write 46 = .ok (.aload_n 0, 1) := by decide +kernel
theorem dX12_write_47 : decode cX12_write 47 = .ok (.getfield 199, 3) := by decide +kernel
theorem dX12_write_50 : decode cX12_write 50 = .ok (.sipush 210, 3) := by decide +kernel
theorem dX12_write_53 : decode cX12_write 53 = .ok (.iload_n 1, 1) := by decide +kernel
theorem dX12_write_54 : decode cX12_write 54 = .ok (.imul, 1) := by decide +kernel
theorem dX12_write_55 : decode cX12_write 55 = .ok (.aload_n 0, 1) := by decide +kernel
theorem dX12_write_56 : decode cX12_write 56 = .ok (.getfield 190, 3) := by decide +kernel
theorem dX12_write_59 : decode cX12_write 59 = .ok (.iload_n 1, 1) := by decide +kernel
theorem dX12_write_60 : decode cX12_write 60 = .ok (.iaload, 1) := by decide +kernel
theorem dX12_write_61 : decode cX12_write 61 = .ok (.invokevirtual 877, 3) := by decide +kernel
theorem dX12_write_64 : decode cX12_write 64 = .ok (.aload_n 0, 1) := by decide +kernel
theorem dX12_write_65 : decode cX12_write 65 = .ok (.bipush 41, 2) := by decide +kernel
theorem dX12_write_67 : decode cX12_write 67 = .ok (.invokevirtual 862, 3) := by decide +kernel
theorem dX12_write_70 : decode cX12_write 70 = .ok (.aload_n 0, 1) := by decide +kernel
theorem dX12_write_71 : decode cX12_write 71 = .ok (.bipush 61, 2) := by decide +kernel
theorem dX12_write_73 : decode cX12_write 73 = .ok (.invokevirtual 862, 3) := by decide +kernel
theorem dX12_write_76 : decode cX12_write 76 = .ok (.aload_n 0, 1) := by decide +kernel
theorem dX12_write_77 : decode cX12_write 77 = .ok (.getfield 202, 3) := by decide +kernel
theorem dX12_write_80 : decode cX12_write 80 = .ok (.iload_n 1, 1) := by decide +kernel
theorem dX12_write_81 : decode cX12_write 81 = .ok (.iaload, 1) := by decide +kernel
theorem dX12_write_82 : decode cX12_write 82 = .ok (.istore_n 2, 1) := by decide +kernel
theorem dX12_write_83 : decode cX12_write 83 = .ok (.iload_n 2, 1) := by decide +kernel
theorem dX12_write_84 : decode cX12_write 84 = .ok (.aload_n 0, 1) := by decide +kernel
theorem dX12_write_85 : decode cX12_write 85 = .ok (.getfield 205, 3) := by decide +kernel
theorem dX12_write_88 : decode cX12_write 88 = .ok (.iload_n 1, 1) := by decide +kernel
theorem dX12_write_89 : decode cX12_write 89 = .ok (.iaload, 1) := by decide +kernel
theorem dX12_write_90 : decode cX12_write 90 = .ok (.if_icmp .ge 14, 3) := by decide +kernel
theorem dX12_write_93 : decode cX12_write 93 = .ok (.aload_n 0, 1) := by decide +kernel
theorem dX12_write_94 : decode cX12_write 94 = .ok (.iload_n 2, 1) := by decide +kernel
theorem dX12_write_95 : decode cX12_write 95 = .ok (.invokevirtual 893, 3) := by decide +kernel
theorem dX12_write_98 : decode cX12_write 98 = .ok (.iinc 2 1, 3) := by decide +kernel
theorem dX12_write_101 : decode cX12_write 101 = .ok (.goto (-18), 3) := by decide +kernel
theorem dX12_write_104 : decode cX12_write 104 = .ok (.aload_n 0, 1) := by decide +kernel
theorem dX12_write_105 : decode cX12_write 105 = .ok (.aload_n 0, 1) := by decide +kernel
theorem dX12_write_106 : decode cX12_write 106 = .ok (.getfield 208, 3) := by decide +kernel
theorem dX12_write_109 : decode cX12_write 109 = .ok (.iload_n 1, 1) := by decide +kernel
theorem dX12_write_110 : decode cX12_write 110 = .ok (.iaload, 1) := by decide +kernel
theorem dX12_write_111 : decode cX12_write 111 = .ok (.invokevirtual 881, 3) := by decide +kernel
theorem dX12_write_114 : decode cX12_write 114 = .ok (.aload_n 0, 1) := by decide +kernel
theorem dX12_write_115 : decode cX12_write 115 = .ok (.bipush 59, 2) := by decide +kernel
theorem dX12_write_117 : decode cX12_write 117 = .ok (.invokevirtual 862, 3) := by decide +kernel
theorem dX12_write_120 : decode cX12_write 120 = .ok (.aload_n 0, 1) := by decide +kernel
theorem dX12_write_121 : decode cX12_write 121 = .ok (.getfield 859, 3) := by decide +kernel
theorem dX12_write_124 : decode cX12_write 124 = .ok (.ireturn, 1) := by decide +kernel
theorem dX12_octet_0 : decode cX12_octet 0 = .ok (.iload_n 1, 1) := by decide +kernel
theorem dX12_octet_1 : decode cX12_octet 1 = .ok (.iconst 0, 1) := by decide +kernel
theorem dX12_octet_2 : decode cX12_octet 2 = .ok (.aload_n 0, 1) := by decide +kernel
theorem dX12_octet_3 : decode cX12_octet 3 = .ok (.getfield 859, 3) := by decide +kernel
theorem dX12_octet_6 : decode cX12_octet 6 = .ok (.iconst 1, 1) := by decide +kernel
theorem dX12_octet_7 : decode cX12_octet 7 = .ok (.isub, 1) := by decide +kernel
theorem dX12_octet_8 : decode cX12_octet 8 = .ok (.invokestatic 359, 3) := by decide +kernel
theorem dX12_octet_11 : decode cX12_octet 11 = .ok (.ifCond .eq 12, 3) := by decide +kernel
theorem dX12_octet_14 : decode cX12_octet 14 = .ok (.aload_n 0, 1) := by decide +kernel
theorem dX12_octet_15 : decode cX12_octet 15 = .ok (.getfield 281, 3) := by decide +kernel
theorem dX12_octet_18 : decode cX12_octet 18 = .ok (.iload_n 1, 1) := by decide +kernel
theorem dX12_octet_19 : decode cX12_octet 19 = .ok (.baload, 1) := by decide +kernel
theorem dX12_octet_20 : decode cX12_octet 20 = .ok (.goto 4, 3) := by decide +kernel
theorem dX12_octet_23 : decode cX12_octet 23 = .ok (.iconst (-1), 1) := by decide +kernel
theorem dX12_octet_24 : decode cX12_octet 24 = .ok (.ireturn, 1) := by decide +kernel
theorem dJxf58ca_isNaN_12338_0 : decode cJxf58ca_isNaN_12338 0 = .ok (.fload_n 0, 1) := by decide +kernel
theorem dJxf58ca_isNaN_12338_1 : decode cJxf58ca_isNaN_12338 1 = .ok (.fload_n 0, 1) := by decide +kernel
theorem dJxf58ca_isNaN_12338_2 : decode cJxf58ca_isNaN_12338 2 = .ok (.fcmp .l, 1) := by decide +kernel
theorem dJxf58ca_isNaN_12338_3 : decode cJxf58ca_isNaN_12338 3 = .ok (.ifCond .eq 7, 3) := by decide +kernel
theorem dJxf58ca_isNaN_12338_6 : decode cJxf58ca_isNaN_12338 6 = .ok (.iconst 1, 1) := by decide +kernel
theorem dJxf58ca_isNaN_12338_7 : decode cJxf58ca_isNaN_12338 7 = .ok (.goto 4, 3) := by decide +kernel
theorem dJxf58ca_isNaN_12338_10 : decode cJxf58ca_isNaN_12338 10 = .ok (.iconst 0, 1) := by decide +kernel
theorem dJxf58ca_isNaN_12338_11 : decode cJxf58ca_isNaN_12338 11 = .ok (.ireturn, 1) := by decide +kernel
theorem dJxf58ca_floatToIntBits_5c35a_0 : decode cJxf58ca_floatToIntBits_5c35a 0 = .ok (.fload_n 0, 1) := by decide +kernel
theorem dJxf58ca_floatToIntBits_5c35a_1 : decode cJxf58ca_floatToIntBits_5c35a 1 = .ok (.invokestatic 59, 3) := by decide +kernel
theorem dJxf58ca_floatToIntBits_5c35a_4 : decode cJxf58ca_floatToIntBits_5c35a 4 = .ok (.ifCond .ne 8, 3) := by decide +kernel
theorem dJxf58ca_floatToIntBits_5c35a_7 : decode cJxf58ca_floatToIntBits_5c35a 7 = .ok (.fload_n 0, 1) := by decide +kernel
theorem dJxf58ca_floatToIntBits_5c35a_8 : decode cJxf58ca_floatToIntBits_5c35a 8 = .ok (.invokestatic 74, 3) := by decide +kernel
theorem dJxf58ca_floatToIntBits_5c35a_11 : decode cJxf58ca_floatToIntBits_5c35a 11 = .ok (.ireturn, 1) := by decide +kernel
theorem dJxf58ca_floatToIntBits_5c35a_12 : decode cJxf58ca_floatToIntBits_5c35a 12 = .ok (.ldc 77, 2) := by decide +kernel
theorem dJxf58ca_floatToIntBits_5c35a_14 : decode cJxf58ca_floatToIntBits_5c35a 14 = .ok (.ireturn, 1) := by decide +kernel
theorem dJ6_numberOfLeadingZeros_0f7a4_0 : decode cJ6_numberOfLeadingZeros_0f7a4 0 = .ok (.iload_n 0, 1) := by decide +kernel
theorem dJ6_numberOfLeadingZeros_0f7a4_1 : decode cJ6_numberOfLeadingZeros_0f7a4 1 = .ok (.ifCond .gt 14, 3) := by decide +kernel
theorem dJ6_numberOfLeadingZeros_0f7a4_4 : decode cJ6_numberOfLeadingZeros_0f7a4 4 = .ok (.iload_n 0, 1) := by decide +kernel
theorem dJ6_numberOfLeadingZeros_0f7a4_5 : decode cJ6_numberOfLeadingZeros_0f7a4 5 = .ok (.ifCond .ne 8, 3) := by decide +kernel
theorem dJ6_numberOfLeadingZeros_0f7a4_8 : decode cJ6_numberOfLeadingZeros_0f7a4 8 = .ok (.bipush 32, 2) := by decide +kernel
theorem dJ6_numberOfLeadingZeros_0f7a4_10 : decode cJ6_numberOfLeadingZeros_0f7a4 10 = .ok (.goto 4, 3) := by decide +kernel
theorem dJ6_numberOfLeadingZeros_0f7a4_13 : decode cJ6_numberOfLeadingZeros_0f7a4 13 = .ok (.iconst 0, 1) := by decide +kernel
theorem dJ6_numberOfLeadingZeros_0f7a4_14 : decode cJ6_numberOfLeadingZeros_0f7a4 14 = .ok (.ireturn, 1) := by decide +kernel
theorem dJ6_numberOfLeadingZeros_0f7a4_15 : decode cJ6_numberOfLeadingZeros_0f7a4 15 = .ok (.bipush 31, 2) := by decide +kernel
theorem dJ6_numberOfLeadingZeros_0f7a4_17 : decode cJ6_numberOfLeadingZeros_0f7a4 17 = .ok (.istore_n 1, 1) := by decide +kernel
theorem dJ6_numberOfLeadingZeros_0f7a4_18 : decode cJ6_numberOfLeadingZeros_0f7a4 18 = .ok (.iload_n 0, 1) := by decide +kernel
theorem dJ6_numberOfLeadingZeros_0f7a4_19 : decode cJ6_numberOfLeadingZeros_0f7a4 19 = .ok (.ldc_w 264, 3) := by decide +kernel
theorem dJ6_numberOfLeadingZeros_0f7a4_22 : decode cJ6_numberOfLeadingZeros_0f7a4 22 = .ok (.if_icmp .lt 11, 3) := by decide +kernel
theorem dJ6_numberOfLeadingZeros_0f7a4_25 : decode cJ6_numberOfLeadingZeros_0f7a4 25 = .ok (.iinc 1 (-16), 3) := by decide +kernel
theorem dJ6_numberOfLeadingZeros_0f7a4_28 : decode cJ6_numberOfLeadingZeros_0f7a4 28 = .ok (.iload_n 0, 1) := by decide +kernel
theorem dJ6_numberOfLeadingZeros_0f7a4_29 : decode cJ6_numberOfLeadingZeros_0f7a4 29 = .ok (.bipush 16, 2) := by decide +kernel
