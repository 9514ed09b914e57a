theorem dX12_readTask_40 : decode cX12_readTask 40 = .ok (.invokevirtual 365, 3) := by decide +kernel
theorem dX12_readTask_43 : decode cX12_readTask 43 = .ok (.bipush 97, 2) := by decide +kernel
theorem dX12_readTask_45 : decode cX12_readTask 45 = .ok (.isub, 1) := by decide +kernel
theorem dX12_readTask_46 : decode cX12_readTask 46 = .ok (.iconst 1, 1) := by decide +kernel
theorem dX12_readTask_47 : decode cX12_readTask 47 = .ok (.iadd, 1) := by decide +kernel
theorem dX12_readTask_48 : decode cX12_readTask 48 = .ok (.putfield 493, 3) := by decide +kernel
theorem dX12_readTask_51 : decode cX12_readTask 51 = .ok (.aload_n 0, 1) := by decide +kernel
theorem dX12_readTask_52 : decode cX12_readTask 52 = .ok (.dup, 1) := by decide +kernel
theorem dX12_readTask_53 : decode cX12_readTask 53 = .ok (.getfield 362, 3) := by decide +kernel
theorem dX12_readTask_56 : decode cX12_readTask 56 = .ok (.iconst 1, 1) := by decide +kernel
theorem dX12_readTask_57 : decode cX12_readTask 57 = .ok (.iadd, 1) := by decide +kernel
theorem dX12_readTask_58 : decode cX12_readTask 58 = .ok (.putfield 362, 3) := by decide +kernel
theorem dX12_readTask_61 : decode cX12_readTask 61 = .ok (.aload_n 0, 1) := by decide +kernel
theorem dX12_readTask_62 : decode cX12_readTask 62 = .ok (.bipush 40, 2) := by decide +kernel
theorem dX12_readTask_64 : decode cX12_readTask 64 = .ok (.invokevirtual 422, 3) := by decide +kernel
theorem dX12_readTask_67 : decode cX12_readTask 67 = .ok (.ifCond .ne 5, 3) := by decide +kernel
theorem dX12_readTask_70 : decode cX12_readTask 70 = .ok (.iconst 0, 1) := by decide +kernel
theorem dX12_readTask_71 : decode cX12_readTask 71 = .ok (.ireturn, 1) := by decide +kernel
theorem dX12_readTask_72 : decode cX12_readTask 72 = .ok (.aload_n 0, 1) := by decide +kernel
theorem dX12_readTask_73 : decode cX12_readTask 73 = .ok (.invokevirtual 365, 3) := by decide +kernel
theorem dX12_readTask_76 : decode cX12_readTask 76 = .ok (.bipush 41, 2) := by decide +kernel
theorem dX12_readTask_78 : decode cX12_readTask 78 = .ok (.if_icmp .eq 7, 3) := by decide +kernel
theorem dX12_readTask_81 : decode cX12_readTask 81 = .ok (.iconst 1, 1) := by decide +kernel
theorem dX12_readTask_82 : decode cX12_readTask 82 = .ok (.goto 4, 3) := by decide +kernel
theorem dX12_readTask_85 : decode cX12_readTask 85 = .ok (.iconst 0, 1) := by decide +kernel
theorem dX12_readTask_86 : decode cX12_readTask 86 = .ok (.istore_n 1, 1) := by decide +kernel
theorem dX12_readTask_87 : decode cX12_readTask 87 = .ok (.iload_n 1, 1) := by decide +kernel
theorem dX12_readTask_88 : decode cX12_readTask 88 = .ok (.ifCond .eq 63, 3) := by decide +kernel
theorem dX12_readTask_91 : decode cX12_readTask 91 = .ok (.aload_n 0, 1) := by decide +kernel
theorem dX12_readTask_92 : decode cX12_readTask 92 = .ok (.iconst 1, 1) := by decide +kernel
theorem dX12_readTask_93 : decode cX12_readTask 93 = .ok (.invokevirtual 496, 3) := by decide +kernel
theorem dX12_readTask_96 : decode cX12_readTask 96 = .ok (.ifCond .ne 5, 3) := by decide +kernel
theorem dX12_readTask_99 : decode cX12_readTask 99 = .ok (.iconst 0, 1) := by decide +kernel
theorem dX12_readTask_100 : decode cX12_readTask 100 = .ok (.ireturn, 1) := by decide +kernel
theorem dX12_readTask_101 : decode cX12_readTask 101 = .ok (.aload_n 0, 1) := by decide +kernel
theorem dX12_readTask_102 : decode cX12_readTask 102 = .ok (.dup, 1) := by decide +kernel
theorem dX12_readTask_103 : decode cX12_readTask 103 = .ok (.getfield 490, 3) := by decide +kernel
theorem dX12_readTask_106 : decode cX12_readTask 106 = .ok (.iconst 1, 1) := by decide +kernel
theorem dX12_readTask_107 : decode cX12_readTask 107 = .ok (.iadd, 1) := by decide +kernel
theorem dX12_readTask_108 : decode cX12_readTask 108 = .ok (.putfield 490, 3) := by decide +kernel
theorem dX12_readTask_111 : decode cX12_readTask 111 = .ok (.aload_n 0, 1) := by decide +kernel
theorem dX12_readTask_112 : decode cX12_readTask 112 = .ok (.invokevirtual 365, 3) := by decide +kernel
theorem dX12_readTask_115 : decode cX12_readTask 115 = .ok (.bipush 44, 2) := by decide +kernel
theorem dX12_readTask_117 : decode cX12_readTask 117 = .ok (.if_icmp .ne 15, 3) := by decide +kernel
theorem dX12_readTask_120 : decode cX12_readTask 120 = .ok (.aload_n 0, 1) := by decide +kernel
theorem dX12_readTask_121 : decode cX12_readTask 121 = .ok (.getfield 490, 3) := by decide +kernel
theorem dX12_readTask_124 : decode cX12_readTask 124 = .ok (.iconst 5, 1) := by decide +kernel
theorem dX12_readTask_125 : decode cX12_readTask 125 = .ok (.if_icmp .ge 7, 3) := by decide +kernel
theorem dX12_readTask_128 : decode cX12_readTask 128 = .ok (.iconst 1, 1) := by decide +kernel
theorem dX12_readTask_129 : decode cX12_readTask 129 = .ok (.goto 4, 3) := by decide +kernel
theorem dX12_readTask_132 : decode cX12_readTask 132 = .ok (.iconst 0, 1) := by decide +kernel
theorem dX12_readTask_133 : decode cX12_readTask 133 = .ok (.istore_n 1, 1) := by decide +kernel
theorem dX12_readTask_134 : decode cX12_readTask 134 = .ok (.iload_n 1, 1) := by decide +kernel
theorem dX12_readTask_135 : decode cX12_readTask 135 = .ok (.ifCond .eq (-48), 3) := by decide +kernel
theorem dX12_readTask_138 : decode cX12_readTask 138 = .ok (.aload_n 0, 1) := by decide +kernel
theorem dX12_readTask_139 : decode cX12_readTask 139 = .ok (.dup, 1) := by decide +kernel
theorem dX12_readTask_140 : decode cX12_readTask 140 = .ok (.getfield 362, 3) := by decide +kernel
theorem dX12_readTask_143 : decode cX12_readTask 143 = .ok (.iconst 1, 1) := by decide +kernel
theorem dX12_readTask_144 : decode cX12_readTask 144 = .ok (.iadd, 1) := by decide +kernel
theorem dX12_readTask_145 : decode cX12_readTask 145 = .ok (.putfield 362, 3) := by decide +kernel
theorem dX12_readTask_148 : decode cX12_readTask 148 = .ok (.goto (-61), 3) := by decide +kernel
theorem dX12_readTask_151 : decode cX12_readTask 151 = .ok (.aload_n 0, 1) := by decide +kernel
theorem dX12_readTask_152 : decode cX12_readTask 152 = .ok (.bipush 41, 2) := by decide +kernel
theorem dX12_readTask_154 : decode cX12_readTask 154 = .ok (.invokevirtual 422, 3) := by decide +kernel
theorem dX12_readTask_157 : decode cX12_readTask 157 = .ok (.ifCond .eq 29, 3) := by decide +kernel
theorem dX12_readTask_160 : decode cX12_readTask 160 = .ok (.aload_n 0, 1) := by decide +kernel
theorem dX12_readTask_161 : decode cX12_readTask 161 = .ok (.getfield 362, 3) := by decide +kernel
theorem dX12_readTask_164 : decode cX12_readTask 164 = .ok (.aload_n 0, 1) := by decide +kernel
theorem dX12_readTask_165 : decode cX12_readTask 165 = .ok (.getfield 352, 3) := by decide +kernel
theorem dX12_readTask_168 : decode cX12_readTask 168 = .ok (.if_icmp .eq 14, 3) := by decide +kernel
theorem dX12_readTask_171 : decode cX12_readTask 171 = .ok (.aload_n 0, 1) := by decide +kernel
theorem dX12_readTask_172 : decode cX12_readTask 172 = .ok (.aload_n 0, 1) := by decide +kernel
theorem dX12_readTask_173 : decode cX12_readTask 173 = .ok (.getfield 362, 3) := by decide +kernel
theorem dX12_readTask_176 : decode cX12_readTask 176 = .ok (.invokevirtual 369, 3) := by decide +kernel
theorem dX12_readTask_179 : decode cX12_readTask 179 = .ok (.ifCond .eq 7, 3) := by decide +kernel
theorem dX12_readTask_182 : decode cX12_readTask 182 = .ok (.iconst 1, 1) := by decide +kernel
theorem dX12_readTask_183 : decode cX12_readTask 183 = .ok (.goto 4, 3) := by decide +kernel
theorem dX12_readTask_186 : decode cX12_readTask 186 = .ok (.iconst 0, 1) := by decide +kernel
theorem dX12_readTask_187 : decode cX12_readTask 187 = .ok (.ireturn, 1) := by decide +kernel
theorem dX12_task_0 : decode cX12_task 0 = .ok (.aload_n 0, 1) := by decide +kernel
theorem dX12_task_1 : decode cX12_task 1 = .ok (.invokevirtual 500, 3) := by decide +kernel
theorem dX12_task_4 : decode cX12_task 4 = .ok (.istore_n 1, 1) := by decide +kernel
theorem dX12_task_5 : decode cX12_task 5 = .ok (.aload_n 0, 1) := by decide +kernel
theorem dX12_task_6 : decode cX12_task 6 = .ok (.iconst 0, 1) := by decide +kernel
theorem dX12_task_7 : decode cX12_task 7 = .ok (.putfield 352, 3) := by decide +kernel
theorem dX12_task_10 : decode cX12_task 10 = .ok (.iload_n 1, 1) := by decide +kernel
theorem dX12_task_11 : decode cX12_task 11 = .ok (.ifCond .ne 5, 3) := by decide +kernel
theorem dX12_task_14 : decode cX12_task 14 = .ok (.iconst (-1), 1) := by decide +kernel
theorem dX12_task_15 : decode cX12_task 15 = .ok (.ireturn, 1) := by decide +kernel
theorem dX12_task_16 : decode cX12_task 16 = .ok (.aload_n 0, 1) := by decide +kernel
theorem dX12_task_17 : decode cX12_task 17 = .ok (.iconst 0, 1) := by decide +kernel
theorem dX12_task_18 : decode cX12_task 18 = .ok (.putfield 464, 3) := by decide +kernel
theorem dX12_task_21 : decode cX12_task 21 = .ok (.aload_n 0, 1) := by decide +kernel
theorem dX12_task_22 : decode cX12_task 22 = .ok (.aload_n 0, 1) := by decide +kernel
theorem dX12_task_23 : decode cX12_task 23 = .ok (.getfield 493, 3) := by decide +kernel
theorem dX12_task_26 : decode cX12_task 26 = .ok (.putfield 99, 3) := by decide +kernel
theorem dX12_task_29 : decode cX12_task 29 = .ok (.aload_n 0, 1) := by decide +kernel
theorem dX12_task_30 : decode cX12_task 30 = .ok (.aload_n 0, 1) := by decide +kernel
theorem dX12_task_31 : decode cX12_task 31 = .ok (.getfield 490, 3) := by decide +kernel
theorem dX12_task_34 : decode cX12_task 34 = .ok (.putfield 503, 3) := by decide +kernel
theorem dX12_task_37 : decode cX12_task 37 = .ok (.aload_n 0, 1) := by decide +kernel
theorem dX12_task_38 : decode cX12_task 38 = .ok (.aload_n 0, 1) := by decide +kernel
theorem dX12_task_39 : decode cX12_task 39 = .ok (.getfield 478, 3) := by decide +kernel
theorem dX12_task_42 : decode cX12_task 42 = .ok (.putfield 506, 3) := by decide +kernel
theorem dX12_task_45 : decode cX12_task 45 = .ok (.aload_n 0, 1) := by decide +kernel
theorem dX12_task_46 : decode cX12_task 46 = .ok (.getfield 78, 3) := by decide +kernel
theorem dX12_task_49 : decode cX12_task 49 = .ok (.iconst 0, 1) := by decide +kernel
theorem dX12_task_50 : decode cX12_task 50 = .ok (.aload_n 0, 1) := by decide +kernel
theorem dX12_task_51 : decode cX12_task 51 = .ok (.getfield 478, 3) := by decide +kernel
theorem dX12_task_54 : decode cX12_task 54 = .ok (.aload_n 0, 1) := by decide +kernel
theorem dX12_task_55 : decode cX12_task 55 = .ok (.getfield 87, 3) := by decide +kernel
theorem dX12_task_58 : decode cX12_task 58 = .ok (.iconst 0, 1) := by decide +kernel
theorem dX12_task_59 : decode cX12_task 59 = .ok (.invokestatic 471, 3) := by decide +kernel
theorem dX12_task_62 : decode cX12_task 62 = .ok (.aload_n 0, 1) := by decide +kernel
theorem dX12_task_63 : decode cX12_task 63 = .ok (.getfield 81, 3) := by decide +kernel
theorem dX12_task_66 : decode cX12_task 66 = .ok (.iconst 0, 1) := by decide +kernel
theorem dX12_task_67 : decode cX12_task 67 = .ok (.aload_n 0, 1) := by decide +kernel
theorem dX12_task_68 : decode cX12_task 68 = .ok (.getfield 478, 3) := by decide +kernel
theorem dX12_task_71 : decode cX12_task 71 = .ok (.aload_n 0, 1) := by decide +kernel
theorem dX12_task_72 : decode cX12_task 72 = .ok (.getfield 90, 3) := by decide +kernel
theorem dX12_task_75 : decode cX12_task 75 = .ok (.iconst 0, 1) := by decide +kernel
theorem dX12_task_76 : decode cX12_task 76 = .ok (.invokestatic 471, 3) := by decide +kernel
theorem dX12_task_79 : decode cX12_task 79 = .ok (.aload_n 0, 1) := by decide +kernel
theorem dX12_task_80 : decode cX12_task 80 = .ok (.aload_n 0, 1) := by decide +kernel
theorem dX12_task_81 : decode cX12_task 81 = .ok (.getfield 481, 3) := by decide +kernel
theorem dX12_task_84 : decode cX12_task 84 = .ok (.putfield 509, 3) := by decide +kernel
theorem dX12_task_87 : decode cX12_task 87 = .ok (.aload_n 0, 1) := by decide +kernel
theorem dX12_task_88 : decode cX12_task 88 = .ok (.iconst 0, 1) := by decide +kernel
theorem dX12_task_89 : decode cX12_task 89 = .ok (.putfield 512, 3) := by decide +kernel
theorem dX12_task_92 : decode cX12_task 92 = .ok (.aload_n 0, 1) := by decide +kernel
theorem dX12_task_93 : decode cX12_task 93 = .ok (.iconst 0, 1) := by decide +kernel
theorem dX12_task_94 : decode cX12_task 94 = .ok (.putfield 515, 3) := by decide +kernel
theorem dX12_task_97 : decode cX12_task 97 = .ok (.aload_n 0, 1) := by decide +kernel
theorem dX12_task_98 : decode cX12_task 98 = .ok (.getfield 509, 3) := by decide +kernel
theorem dX12_task_101 : decode cX12_task 101 = .ok (.ireturn, 1) := by decide +kernel
theorem dX12_readValues_0 : decode cX12_readValues 0 = .ok (.aload_n 0, 1) := by decide +kernel
theorem dX12_readValues_1 : decode cX12_readValues 1 = .ok (.invokevirtual 452, 3) := by decide +kernel
theorem dX12_readValues_4 : decode cX12_readValues 4 = .ok (.aload_n 0, 1) := by decide +kernel
theorem dX12_readValues_5 : decode cX12_readValues 5 = .ok (.iconst 0, 1) := by decide +kernel
theorem dX12_readValues_6 : decode cX12_readValues 6 = .ok (.putfield 478, 3) := by decide +kernel
theorem dX12_readValues_9 : decode cX12_readValues 9 = .ok (.aload_n 0, 1) := by decide +kernel
theorem dX12_readValues_10 : decode cX12_readValues 10 = .ok (.iconst 0, 1) := by decide +kernel
theorem dX12_readValues_11 : decode cX12_readValues 11 = .ok (.putfield 481, 3) := by decide +kernel
theorem dX12_readValues_14 : decode cX12_readValues 14 = .ok (.iconst 0, 1) := by decide +kernel
theorem dX12_readValues_15 : decode cX12_readValues 15 = .ok (.istore_n 1, 1) := by decide +kernel
theorem dX12_readValues_16 : decode cX12_readValues 16 = .ok (.iload_n 1, 1) := by decide +kernel
theorem dX12_readValues_17 : decode cX12_readValues 17 = .ok (.aload_n 0, 1) := by decide +kernel
theorem dX12_readValues_18 : decode cX12_readValues 18 = .ok (.getfield 509, 3) := by decide +kernel
theorem dX12_readValues_21 : decode cX12_readValues 21 = .ok (.if_icmp .ge 32, 3) := by decide +kernel
theorem dX12_readValues_24 : decode cX12_readValues 24 = .ok (.iload_n 1, 1) := by decide +kernel
theorem dX12_readValues_25 : decode cX12_readValues 25 = .ok (.ifCond .le 12, 3) := by decide +kernel
theorem dX12_readValues_28 : decode cX12_readValues 28 = .ok (.aload_n 0, 1) := by decide +kernel
theorem dX12_readValues_29 : decode cX12_readValues 29 = .ok (.bipush 44, 2) := by decide +kernel
theorem dX12_readValues_31 : decode cX12_readValues 31 = .ok (.invokevirtual 422, 3) := by decide +kernel
theorem dX12_readValues_34 : decode cX12_readValues 34 = .ok (.ifCond .eq 11, 3) := by decide +kernel
theorem dX12_readValues_37 : decode cX12_readValues 37 = .ok (.aload_n 0, 1) := by decide +kernel
theorem dX12_readValues_38 : decode cX12_readValues 38 = .ok (.iconst 0, 1) := by decide +kernel
theorem dX12_readValues_39 : decode cX12_readValues 39 = .ok (.invokevirtual 496, 3) := by decide +kernel
theorem dX12_readValues_42 : decode cX12_readValues 42 = .ok (.ifCond .ne 5, 3) := by decide +kernel
theorem dX12_readValues_45 : decode cX12_readValues 45 = .ok (.iconst 0, 1) := by decide +kernel
theorem dX12_readValues_46 : decode cX12_readValues 46 = .ok (.ireturn, 1) := by decide +kernel
theorem dX12_readValues_47 : decode cX12_readValues 47 = .ok (.iinc 1 1, 3) := by decide +kernel
theorem dX12_readValues_50 : decode cX12_readValues 50 = .ok (.goto (-34), 3) := by decide +kernel
theorem dX12_readValues_53 : decode cX12_readValues 53 = .ok (.aload_n 0, 1) := by decide +kernel
theorem dX12_readValues_54 : decode cX12_readValues 54 = .ok (.getfield 362, 3) := by decide +kernel
theorem dX12_readValues_57 : decode cX12_readValues 57 = .ok (.aload_n 0, 1) := by decide +kernel
theorem dX12_readValues_58 : decode cX12_readValues 58 = .ok (.getfield 352, 3) := by decide +kernel
theorem dX12_readValues_61 : decode cX12_readValues 61 = .ok (.if_icmp .eq 14, 3) := by decide +kernel
theorem dX12_readValues_64 : decode cX12_readValues 64 = .ok (.aload_n 0, 1) := by decide +kernel
theorem dX12_readValues_65 : decode cX12_readValues 65 = .ok (.aload_n 0, 1) := by decide +kernel
theorem dX12_readValues_66 : decode cX12_readValues 66 = .ok (.getfield 362, 3) := by decide +kernel
theorem dX12_readValues_69 : decode cX12_readValues 69 = .ok (.invokevirtual 369, 3) := by decide +kernel
theorem dX12_readValues_72 : decode cX12_readValues 72 = .ok (.ifCond .eq 7, 3) := by decide +kernel
theorem dX12_readValues_75 : decode cX12_readValues 75 = .ok (.iconst 1, 1) := by decide +kernel
theorem dX12_readValues_76 : decode cX12_readValues 76 = .ok (.goto 4, 3) := by decide +kernel
theorem dX12_readValues_79 : decode cX12_readValues 79 = .ok (.iconst 0, 1) := by decide +kernel
theorem dX12_readValues_80 : decode cX12_readValues 80 = .ok (.ireturn, 1) := by decide +kernel
theorem dX12_values_0 : decode cX12_values 0 = .ok (.aload_n 0, 1) := by decide +kernel
theorem dX12_values_1 : decode cX12_values 1 = .ok (.invokevirtual 518, 3) := by decide +kernel
theorem dX12_values_4 : decode cX12_values 4 = .ok (.istore_n 1, 1) := by decide +kernel
theorem dX12_values_5 : decode cX12_values 5 = .ok (.aload_n 0, 1) := by decide +kernel
theorem dX12_values_6 : decode cX12_values 6 = .ok (.iconst 0, 1) := by decide +kernel
theorem dX12_values_7 : decode cX12_values 7 = .ok (.putfield 352, 3) := by decide +kernel
theorem dX12_values_10 : decode cX12_values 10 = .ok (.iload_n 1, 1) := by decide +kernel
theorem dX12_values_11 : decode cX12_values 11 = .ok (.ifCond .ne 5, 3) := by decide +kernel
theorem dX12_values_14 : decode cX12_values 14 = .ok (.iconst (-1), 1) := by decide +kernel
theorem dX12_values_15 : decode cX12_values 15 = .ok (.ireturn, 1) := by decide +kernel
theorem dX12_values_16 : decode cX12_values 16 = .ok (.aload_n 0, 1) := by decide +kernel
theorem dX12_values_17 : decode cX12_values 17 = .ok (.aload_n 0, 1) := by decide +kernel
theorem dX12_values_18 : decode cX12_values 18 = .ok (.getfield 509, 3) := by decide +kernel
theorem dX12_values_21 : decode cX12_values 21 = .ok (.putfield 512, 3) := by decide +kernel
theorem dX12_values_24 : decode cX12_values 24 = .ok (.aload_n 0, 1) := by decide +kernel
theorem dX12_values_25 : decode cX12_values 25 = .ok (.aload_n 0, 1) := by decide +kernel
theorem dX12_values_26 : decode cX12_values 26 = .ok (.getfield 478, 3) := by decide +kernel
theorem dX12_values_29 : decode cX12_values 29 = .ok (.putfield 515, 3) := by decide +kernel
theorem dX12_values_32 : decode cX12_values 32 = .ok (.aload_n 0, 1) := by decide +kernel
theorem dX12_values_33 : decode cX12_values 33 = .ok (.getfield 78, 3) := by decide +kernel
theorem dX12_values_36 : decode cX12_values 36 = .ok (.iconst 0, 1) := by decide +kernel
theorem dX12_values_37 : decode cX12_values 37 = .ok (.aload_n 0, 1) := by decide +kernel
theorem dX12_values_38 : decode cX12_values 38 = .ok (.getfield 478, 3) := by decide +kernel
theorem dX12_values_41 : decode cX12_values 41 = .ok (.aload_n 0, 1) := by decide +kernel
theorem dX12_values_42 : decode cX12_values 42 = .ok (.getfield 93, 3) := by decide +kernel
theorem dX12_values_45 : decode cX12_values 45 = .ok (.iconst 0, 1) := by decide +kernel
theorem dX12_values_46 : decode cX12_values 46 = .ok (.invokestatic 471, 3) := by decide +kernel
theorem dX12_values_49 : decode cX12_values 49 = .ok (.aload_n 0, 1) := by decide +kernel
theorem dX12_values_50 : decode cX12_values 50 = .ok (.getfield 81, 3) := by decide +kernel
theorem dX12_values_53 : decode cX12_values 53 = .ok (.iconst 0, 1) := by decide +kernel
theorem dX12_values_54 : decode cX12_values 54 = .ok (.aload_n 0, 1) := by decide +kernel
theorem dX12_values_55 : decode cX12_values 55 = .ok (.getfield 478, 3) := by decide +kernel
theorem dX12_values_58 : decode cX12_values 58 = .ok (.aload_n 0, 1) := by decide +kernel
theorem dX12_values_59 : decode cX12_values 59 = .ok (.getfield 96, 3) := by decide +kernel
theorem dX12_values_62 : decode cX12_values 62 = .ok (.iconst 0, 1) := by decide +kernel
theorem dX12_values_63 : decode cX12_values 63 = .ok (.invokestatic 471, 3) := by decide +kernel
theorem dX12_values_66 : decode cX12_values 66 = .ok (.aload_n 0, 1) := by decide +kernel
theorem dX12_values_67 : decode cX12_values 67 = .ok (.getfield 509, 3) := by decide +kernel
theorem dX12_values_70 : decode cX12_values 70 = .ok (.ireturn, 1) := by decide +kernel
theorem dX12_fault_0 : decode cX12_fault 0 = .ok (.aload_n 0, 1) := by decide +kernel
theorem dX12_fault_1 : decode cX12_fault 1 = .ok (.getfield 13, 3) := by decide +kernel
theorem dX12_fault_4 : decode cX12_fault 4 = .ok (.ireturn, 1) := by decide +kernel
theorem dX12_set_0 : decode cX12_set 0 = .ok (.iload_n 1, 1) := by decide +kernel
theorem dX12_set_1 : decode cX12_set 1 = .ok (.ifCond .ne 13, 3) := by decide +kernel
theorem dX12_set_4 : decode cX12_set 4 = .ok (.iload_n 2, 1) := by decide +kernel
theorem dX12_set_5 : decode cX12_set 5 = .ok (.iconst 0, 1) := by decide +kernel
theorem dX12_set_6 : decode cX12_set 6 = .ok (.bipush 12, 2) := by decide +kernel
theorem dX12_set_8 : decode cX12_set 8 = .ok (.invokestatic 359, 3) := by decide +kernel
theorem dX12_set_11 : decode cX12_set 11 = .ok (.goto 40, 3) := by decide +kernel
theorem dX12_set_14 : decode cX12_set 14 = .ok (.iload_n 1, 1) := by decide +kernel
theorem dX12_set_15 : decode cX12_set 15 = .ok (.iconst 1, 1) := by decide +kernel
theorem dX12_set_16 : decode cX12_set 16 = .ok (.if_icmp .ne 13, 3) := by decide +kernel
theorem dX12_set_19 : decode cX12_set 19 = .ok (.iload_n 2, 1) := by decide +kernel
theorem dX12_set_20 : decode cX12_set 20 = .ok (.iconst 1, 1) := by decide +kernel
theorem dX12_set_21 : decode cX12_set 21 = .ok (.bipush 6, 2) := by decide +kernel
theorem dX12_set_23 : decode cX12_set 23 = .ok (.invokestatic 359, 3) := by decide +kernel
theorem dX12_set_26 : decode cX12_set 26 = .ok (.goto 25, 3) := by decide +kernel
theorem dX12_set_29 : decode cX12_set 29 = .ok (.iload_n 1, 1) := by decide +kernel
theorem dX12_set_30 : decode cX12_set 30 = .ok (.iconst 2, 1) := by decide +kernel
theorem dX12_set_31 : decode cX12_set 31 = .ok (.if_icmp .ne 19, 3) := by decide +kernel
theorem dX12_set_34 : decode cX12_set 34 = .ok (.iload_n 2, 1) := by decide +kernel
theorem dX12_set_35 : decode cX12_set 35 = .ok (.bipush 10, 2) := by decide +kernel
theorem dX12_set_37 : decode cX12_set 37 = .ok (.sipush 300, 3) := by decide +kernel
theorem dX12_set_40 : decode cX12_set 40 = .ok (.invokestatic 359, 3) := by decide +kernel
theorem dX12_set_43 : decode cX12_set 43 = .ok (.ifCond .eq 7, 3) := by decide +kernel
theorem dX12_set_46 : decode cX12_set 46 = .ok (.iconst 1, 1) := by decide +kernel
theorem dX12_set_47 : decode cX12_set 47 = .ok (.goto 4, 3) := by decide +kernel
theorem dX12_set_50 : decode cX12_set 50 = .ok (.iconst 0, 1) := by decide +kernel
theorem dX12_set_51 : decode cX12_set 51 = .ok (.istore_n 3, 1) := by decide +kernel
theorem dX12_set_52 : decode cX12_set 52 = .ok (.iload_n 3, 1) := by decide +kernel
theorem dX12_set_53 : decode cX12_set 53 = .ok (.ifCond .ne 5, 3) := by decide +kernel
theorem dX12_set_56 : decode cX12_set 56 = .ok (.iconst 0, 1) := by decide +kernel
theorem dX12_set_57 : decode cX12_set 57 = .ok (.ireturn, 1) := by decide +kernel
theorem dX12_set_58 : decode cX12_set 58 = .ok (.aload_n 0, 1) := by decide +kernel
theorem dX12_set_59 : decode cX12_set 59 = .ok (.getfield 102, 3) := by decide +kernel
theorem dX12_set_62 : decode cX12_set 62 = .ok (.iload_n 1, 1) := by decide +kernel
theorem dX12_set_63 : decode cX12_set 63 = .ok (.iload_n 2, 1) := by decide +kernel
theorem dX12_set_64 : decode cX12_set 64 = .ok (.iastore, 1) := by decide +kernel
theorem dX12_set_65 : decode cX12_set 65 = .ok (.aload_n 0, 1) := by decide +kernel
theorem dX12_set_66 : decode cX12_set 66 = .ok (.iconst 0, 1) := by decide +kernel
theorem dX12_set_67 : decode cX12_set 67 = .ok (.putfield 464, 3) := by decide +kernel
theorem dX12_set_70 : decode cX12_set 70 = .ok (.iconst 1, 1) := by decide +kernel
theorem dX12_set_71 : decode cX12_set 71 = .ok (.ireturn, 1) := by decide +kernel
theorem dX12_is_0 : decode cX12_is 0 = .ok (.iload_n 1, 1) := by decide +kernel
theorem dX12_is_1 : decode cX12_is 1 = .ok (.tableswitch 81 0 7 #[47, 52, 57, 62, 62, 62, 71, 76], 47) := by decide +kernel
theorem dX12_is_48 : decode cX12_is 48 = .ok (.aload_n 0, 1) := by decide +kernel
theorem dX12_is_49 : decode cX12_is 49 = .ok (.getfield 468, 3) := by decide +kernel
theorem dX12_is_52 : decode cX12_is 52 = .ok (.ireturn, 1) := by decide +kernel
theorem dX12_is_53 : decode cX12_is 53 = .ok (.aload_n 0, 1) := by decide +kernel
theorem dX12_is_54 : decode cX12_is 54 = .ok (.getfield 509, 3) := by decide +kernel
theorem dX12_is_57 : decode cX12_is 57 = .ok (.ireturn, 1) := by decide +kernel
theorem dX12_is_58 : decode cX12_is 58 = .ok (.aload_n 0, 1) := by decide +kernel
theorem dX12_is_59 : decode cX12_is 59 = .ok (.getfield 512, 3) := by decide +kernel
theorem dX12_is_62 : decode cX12_is 62 = .ok (.ireturn, 1) := by decide +kernel
theorem dX12_is_63 : decode cX12_is 63 = .ok (.aload_n 0, 1) := by decide +kernel
theorem dX12_is_64 : decode cX12_is 64 = .ok (.getfield 102, 3) := by decide +kernel
theorem dX12_is_67 : decode cX12_is 67 = .ok (.iload_n 1, 1) := by decide +kernel
theorem dX12_is_68 : decode cX12_is 68 = .ok (.iconst 3, 1) := by decide +kernel
theorem dX12_is_69 : decode cX12_is 69 = .ok (.isub, 1) := by decide +kernel
theorem dX12_is_70 : decode cX12_is 70 = .ok (.iaload, 1) := by decide +kernel
theorem dX12_is_71 : decode cX12_is 71 = .ok (.ireturn, 1) := by decide +kernel
theorem dX12_is_72 : decode cX12_is 72 = .ok (.aload_n 0, 1) := by decide +kernel
theorem dX12_is_73 : decode cX12_is 73 = .ok (.getfield 352, 3) := by decide +kernel
theorem dX12_is_76 : decode cX12_is 76 = .ok (.ireturn, 1) := by decide +kernel
theorem dX12_is_77 : decode cX12_is 77 = .ok (.aload_n 0, 1) := by decide +kernel
theorem dX12_is_78 : decode cX12_is 78 = .ok (.getfield 458, 3) := by decide +kernel
theorem dX12_is_81 : decode cX12_is 81 = .ok (.ireturn, 1) := by decide +kernel
theorem dX12_is_82 : decode cX12_is 82 = .ok (.iconst (-1), 1) := by decide +kernel
theorem dX12_is_83 : decode cX12_is 83 = .ok (.ireturn, 1) := by decide +kernel
theorem dX12_countThings_0 : decode cX12_countThings 0 = .ok (.iconst 0, 1) := by decide +kernel
theorem dX12_countThings_1 : decode cX12_countThings 1 = .ok (.istore 4, 2) := by decide +kernel
theorem dX12_countThings_3 : decode cX12_countThings 3 = .ok (.aload_n 0, 1) := by decide +kernel
theorem dX12_countThings_4 : decode cX12_countThings 4 = .ok (.getfield 27, 3) := by decide +kernel
theorem dX12_countThings_7 : decode cX12_countThings 7 = .ok (.iload_n 1, 1) := by decide +kernel
theorem dX12_countThings_8 : decode cX12_countThings 8 = .ok (.iaload, 1) := by decide +kernel
theorem dX12_countThings_9 : decode cX12_countThings 9 = .ok (.istore 5, 2) := by decide +kernel
theorem dX12_countThings_11 : decode cX12_countThings 11 = .ok (.iload 5, 2) := by decide +kernel
theorem dX12_countThings_13 : decode cX12_countThings 13 = .ok (.aload_n 0, 1) := by decide +kernel
theorem dX12_countThings_14 : decode cX12_countThings 14 = .ok (.getfield 27, 3) := by decide +kernel
theorem dX12_countThings_17 : decode cX12_countThings 17 = .ok (.iload_n 1, 1) := by decide +kernel
theorem dX12_countThings_18 : decode cX12_countThings 18 = .ok (.iaload, 1) := by decide +kernel
theorem dX12_countThings_19 : decode cX12_countThings 19 = .ok (.aload_n 0, 1) := by decide +kernel
theorem dX12_countThings_20 : decode cX12_countThings 20 = .ok (.getfield 30, 3) := by decide +kernel
theorem dX12_countThings_23 : decode cX12_countThings 23 = .ok (.iload_n 1, 1) := by decide +kernel
theorem dX12_countThings_24 : decode cX12_countThings 24 = .ok (.iaload, 1) := by decide +kernel
theorem dX12_countThings_25 : decode cX12_countThings 25 = .ok (.iadd, 1) := by decide +kernel
theorem dX12_countThings_26 : decode cX12_countThings 26 = .ok (.if_icmp .ge 41, 3) := by decide +kernel
theorem dX12_countThings_29 : decode cX12_countThings 29 = .ok (.iload 4, 2) := by decide +kernel
theorem dX12_countThings_31 : decode cX12_countThings 31 = .ok (.aload_n 0, 1) := by decide +kernel
theorem dX12_countThings_32 : decode cX12_countThings 32 = .ok (.getfield 33, 3) := by decide +kernel
theorem dX12_countThings_35 : decode cX12_countThings 35 = .ok (.iload 5, 2) := by decide +kernel
theorem dX12_countThings_37 : decode cX12_countThings 37 = .ok (.iaload, 1) := by decide +kernel
theorem dX12_countThings_38 : decode cX12_countThings 38 = .ok (.iload_n 2, 1) := by decide +kernel
theorem dX12_countThings_39 : decode cX12_countThings 39 = .ok (.if_icmp .eq 14, 3) := by decide +kernel
theorem dX12_countThings_42 : decode cX12_countThings 42 = .ok (.aload_n 0, 1) := by decide +kernel
theorem dX12_countThings_43 : decode cX12_countThings 43 = .ok (.getfield 33, 3) := by decide +kernel
theorem dX12_countThings_46 : decode cX12_countThings 46 = .ok (.iload 5, 2) := by decide +kernel
theorem dX12_countThings_48 : decode cX12_countThings 48 = .ok (.iaload, 1) := by decide +kernel
theorem dX12_countThings_49 : decode cX12_countThings 49 = .ok (.iload_n 3, 1) := by decide +kernel
theorem dX12_countThings_50 : decode cX12_countThings 50 = .ok (.if_icmp .ne 7, 3) := by decide +kernel
theorem dX12_countThings_53 : decode cX12_countThings 53 = .ok (.iconst 1, 1) := by decide +kernel
theorem dX12_countThings_54 : decode cX12_countThings 54 = .ok (.goto 4, 3) := by decide +kernel
theorem dX12_countThings_57 : decode cX12_countThings 57 = .ok (.iconst 0, 1) := by decide +kernel
theorem dX12_countThings_58 : decode cX12_countThings 58 = .ok (.iadd, 1) := by decide +kernel
theorem dX12_countThings_59 : decode cX12_countThings 59 = .ok (.istore 4, 2) := by decide +kernel
theorem dX12_countThings_61 : decode cX12_countThings 61 = .ok (.iinc 5 1, 3) := by decide +kernel
theorem dX12_countThings_64 : decode cX12_countThings 64 = .ok (.goto (-53), 3) := by decide +kernel
theorem dX12_countThings_67 : decode cX12_countThings 67 = .ok (.iload 4, 2) := by decide +kernel
theorem dX12_countThings_69 : decode cX12_countThings 69 = .ok (.ireturn, 1) := by decide +kernel
theorem dX12_function_0 : decode cX12_function 0 = .ok (.iload_n 1, 1) := by decide +kernel
theorem dX12_function_1 : decode cX12_function 1 = .ok (.iconst 0, 1) := by decide +kernel
theorem dX12_function_2 : decode cX12_function 2 = .ok (.aload_n 0, 1) := by decide +kernel
theorem dX12_function_3 : decode cX12_function 3 = .ok (.getfield 468, 3) := by decide +kernel
theorem dX12_function_6 : decode cX12_function 6 = .ok (.iconst 1, 1) := by decide +kernel
theorem dX12_function_7 : decode cX12_function 7 = .ok (.isub, 1) := by decide +kernel
theorem dX12_function_8 : decode cX12_function 8 = .ok (.invokestatic 359, 3) := by decide +kernel
theorem dX12_function_11 : decode cX12_function 11 = .ok (.ifCond .ne 5, 3) := by decide +kernel
theorem dX12_function_14 : decode cX12_function 14 = .ok (.iconst (-1), 1) := by decide +kernel
theorem dX12_function_15 : decode cX12_function 15 = .ok (.ireturn, 1) := by decide +kernel
theorem dX12_function_16 : decode cX12_function 16 = .ok (.iload_n 2, 1) := by decide +kernel
theorem dX12_function_17 : decode cX12_function 17 = .ok (.tableswitch 90 0 5 #[39, 46, 53, 60, 70, 80], 39) := by decide +kernel
theorem dX12_function_56 : decode cX12_function 56 = .ok (.aload_n 0, 1) := by decide +kernel
theorem dX12_function_57 : decode cX12_function 57 = .ok (.getfield 17, 3) := by decide +kernel
theorem dX12_function_60 : decode cX12_function 60 = .ok (.iload_n 1, 1) := by decide +kernel
theorem dX12_function_61 : decode cX12_function 61 = .ok (.iaload, 1) := by decide +kernel
theorem dX12_function_62 : decode cX12_function 62 = .ok (.ireturn, 1) := by decide +kernel
theorem dX12_function_63 : decode cX12_function 63 = .ok (.aload_n 0, 1) := by decide +kernel
theorem dX12_function_64 : decode cX12_function 64 = .ok (.getfield 21, 3) := by decide +kernel
theorem dX12_function_67 : decode cX12_function 67 = .ok (.iload_n 1, 1) := by decide +kernel
theorem dX12_function_68 : decode cX12_function 68 = .ok (.iaload, 1) := by decide +kernel
theorem dX12_function_69 : decode cX12_function 69 = .ok (.ireturn, 1) := by decide +kernel
theorem dX12_function_70 : decode cX12_function 70 = .ok (.aload_n 0, 1) := by decide +kernel
theorem dX12_function_71 : decode cX12_function 71 = .ok (.getfield 30, 3) := by decide +kernel
theorem dX12_function_74 : decode cX12_function 74 = .ok (.iload_n 1, 1) := by decide +kernel
theorem dX12_function_75 : decode cX12_function 75 = .ok (.iaload, 1) := by decide +kernel
theorem dX12_function_76 : decode cX12_function 76 = .ok (.ireturn, 1) := by decide +kernel
theorem dX12_function_77 : decode cX12_function 77 = .ok (.aload_n 0, 1) := by decide +kernel
theorem dX12_function_78 : decode cX12_function 78 = .ok (.iload_n 1, 1) := by decide +kernel
theorem dX12_function_79 : decode cX12_function 79 = .ok (.bipush 12, 2) := by decide +kernel
theorem dX12_function_81 : decode cX12_function 81 = .ok (.bipush 12, 2) := by decide +kernel
theorem dX12_function_83 : decode cX12_function 83 = .ok (.invokevirtual 521, 3) := by decide +kernel
theorem dX12_function_86 : decode cX12_function 86 = .ok (.ireturn, 1) := by decide +kernel
theorem dX12_function_87 : decode cX12_function 87 = .ok (.aload_n 0, 1) := by decide +kernel
theorem dX12_function_88 : decode cX12_function 88 = .ok (.iload_n 1, 1) := by decide +kernel
theorem dX12_function_89 : decode cX12_function 89 = .ok (.bipush 8, 2) := by decide +kernel
theorem dX12_function_91 : decode cX12_function 91 = .ok (.bipush 8, 2) := by decide +kernel
theorem dX12_function_93 : decode cX12_function 93 = .ok (.invokevirtual 521, 3) := by decide +kernel
theorem dX12_function_96 : decode cX12_function 96 = .ok (.ireturn, 1) := by decide +kernel
theorem dX12_function_97 : decode cX12_function 97 = .ok (.aload_n 0, 1) := by decide +kernel
theorem dX12_function_98 : decode cX12_function 98 = .ok (.iload_n 1, 1) := by decide +kernel
theorem dX12_function_99 : decode cX12_function 99 = .ok (.bipush 9, 2) := by decide +kernel
theorem dX12_function_101 : decode cX12_function 101 = .ok (.bipush 10, 2) := by decide +kernel
theorem dX12_function_103 : decode cX12_function 103 = .ok (.invokevirtual 521, 3) := by decide +kernel
theorem dX12_function_106 : decode cX12_function 106 = .ok (.ireturn, 1) := by decide +kernel
theorem dX12_function_107 : decode cX12_function 107 = .ok (.iconst (-1), 1) := by decide +kernel
theorem dX12_function_108 : decode cX12_function 108 = .ok (.ireturn, 1) := by decide +kernel
theorem dX12_node_0 : decode cX12_node 0 = .ok (.aload_n 0, 1) := by decide +kernel
theorem dX12_node_1 : decode cX12_node 1 = .ok (.getfield 106, 3) := by decide +kernel
theorem dX12_node_4 : decode cX12_node 4 = .ok (.aload_n 0, 1) := by decide +kernel
theorem dX12_node_5 : decode cX12_node 5 = .ok (.getfield 524, 3) := by decide +kernel
theorem dX12_node_8 : decode cX12_node 8 = .ok (.iload_n 1, 1) := by decide +kernel
theorem dX12_node_9 : decode cX12_node 9 = .ok (.iastore, 1) := by decide +kernel
theorem dX12_node_10 : decode cX12_node 10 = .ok (.aload_n 0, 1) := by decide +kernel
theorem dX12_node_11 : decode cX12_node 11 = .ok (.getfield 109, 3) := by decide +kernel
theorem dX12_node_14 : decode cX12_node 14 = .ok (.aload_n 0, 1) := by decide +kernel
theorem dX12_node_15 : decode cX12_node 15 = .ok (.getfield 524, 3) := by decide +kernel
theorem dX12_node_18 : decode cX12_node 18 = .ok (.iload_n 2, 1) := by decide +kernel
theorem dX12_node_19 : decode cX12_node 19 = .ok (.iastore, 1) := by decide +kernel
theorem dX12_node_20 : decode cX12_node 20 = .ok (.aload_n 0, 1) := by decide +kernel
theorem dX12_node_21 : decode cX12_node 21 = .ok (.getfield 112, 3) := by decide +kernel
theorem dX12_node_24 : decode cX12_node 24 = .ok (.aload_n 0, 1) := by decide +kernel
theorem dX12_node_25 : decode cX12_node 25 = .ok (.getfield 524, 3) := by decide +kernel
theorem dX12_node_28 : decode cX12_node 28 = .ok (.iconst (-1), 1) := by decide +kernel
theorem dX12_node_29 : decode cX12_node 29 = .ok (.iastore, 1) := by decide +kernel
theorem dX12_node_30 : decode cX12_node 30 = .ok (.aload_n 0, 1) := by decide +kernel
theorem dX12_node_31 : decode cX12_node 31 = .ok (.getfield 115, 3) := by decide +kernel
theorem dX12_node_34 : decode cX12_node 34 = .ok (.aload_n 0, 1) := by decide +kernel
theorem dX12_node_35 : decode cX12_node 35 = .ok (.getfield 524, 3) := by decide +kernel
theorem dX12_node_38 : decode cX12_node 38 = .ok (.iconst 1, 1) := by decide +kernel
theorem dX12_node_39 : decode cX12_node 39 = .ok (.iastore, 1) := by decide +kernel
theorem dX12_node_40 : decode cX12_node 40 = .ok (.aload_n 0, 1) := by decide +kernel
theorem dX12_node_41 : decode cX12_node 41 = .ok (.getfield 118, 3) := by decide +kernel
theorem dX12_node_44 : decode cX12_node 44 = .ok (.aload_n 0, 1) := by decide +kernel
theorem dX12_node_45 : decode cX12_node 45 = .ok (.getfield 524, 3) := by decide +kernel
theorem dX12_node_48 : decode cX12_node 48 = .ok (.iconst 0, 1) := by decide +kernel
theorem dX12_node_49 : decode cX12_node 49 = .ok (.iastore, 1) := by decide +kernel
theorem dX12_node_50 : decode cX12_node 50 = .ok (.aload_n 0, 1) := by decide +kernel
theorem dX12_node_51 : decode cX12_node 51 = .ok (.dup, 1) := by decide +kernel
theorem dX12_node_52 : decode cX12_node 52 = .ok (.getfield 524, 3) := by decide +kernel
theorem dX12_node_55 : decode cX12_node 55 = .ok (.iconst 1, 1) := by decide +kernel
theorem dX12_node_56 : decode cX12_node 56 = .ok (.iadd, 1) := by decide +kernel
theorem dX12_node_57 : decode cX12_node 57 = .ok (.putfield 524, 3) := by decide +kernel
theorem dX12_node_60 : decode cX12_node 60 = .ok (.aload_n 0, 1) := by decide +kernel
theorem dX12_node_61 : decode cX12_node 61 = .ok (.getfield 524, 3) := by decide +kernel
theorem dX12_node_64 : decode cX12_node 64 = .ok (.iconst 1, 1) := by decide +kernel
theorem dX12_node_65 : decode cX12_node 65 = .ok (.isub, 1) := by decide +kernel
theorem dX12_node_66 : decode cX12_node 66 = .ok (.ireturn, 1) := by decide +kernel
theorem dX12_given_0 : decode cX12_given 0 = .ok (.aload_n 0, 1) := by decide +kernel
theorem dX12_given_1 : decode cX12_given 1 = .ok (.aload_n 0, 1) := by decide +kernel
theorem dX12_given_2 : decode cX12_given 2 = .ok (.getfield 305, 3) := by decide +kernel
theorem dX12_given_5 : decode cX12_given 5 = .ok (.aload_n 0, 1) := by decide +kernel
theorem dX12_given_6 : decode cX12_given 6 = .ok (.getfield 308, 3) := by decide +kernel
theorem dX12_given_9 : decode cX12_given 9 = .ok (.invokevirtual 527, 3) := by decide +kernel
theorem dX12_given_12 : decode cX12_given 12 = .ok (.ireturn, 1) := by decide +kernel
theorem dX12_pair_0 : decode cX12_pair 0 = .ok (.aload_n 0, 1) := by decide +kernel
theorem dX12_pair_1 : decode cX12_pair 1 = .ok (.iconst 2, 1) := by decide +kernel
theorem dX12_pair_2 : decode cX12_pair 2 = .ok (.iload_n 1, 1) := by decide +kernel
theorem dX12_pair_3 : decode cX12_pair 3 = .ok (.invokevirtual 527, 3) := by decide +kernel
theorem dX12_pair_6 : decode cX12_pair 6 = .ok (.istore_n 3, 1) := by decide +kernel
theorem dX12_pair_7 : decode cX12_pair 7 = .ok (.aload_n 0, 1) := by decide +kernel
theorem dX12_pair_8 : decode cX12_pair 8 = .ok (.getfield 112, 3) := by decide +kernel
theorem dX12_pair_11 : decode cX12_pair 11 = .ok (.iload_n 3, 1) := by decide +kernel
theorem dX12_pair_12 : decode cX12_pair 12 = .ok (.iload_n 2, 1) := by decide +kernel
theorem dX12_pair_13 : decode cX12_pair 13 = .ok (.iastore, 1) := by decide +kernel
theorem dX12_pair_14 : decode cX12_pair 14 = .ok (.aload_n 0, 1) := by decide +kernel
theorem dX12_pair_15 : decode cX12_pair 15 = .ok (.getfield 115, 3) := by decide +kernel
theorem dX12_pair_18 : decode cX12_pair 18 = .ok (.iload_n 3, 1) := by decide +kernel
theorem dX12_pair_19 : decode cX12_pair 19 = .ok (.iconst 1, 1) := by decide +kernel
theorem dX12_pair_20 : decode cX12_pair 20 = .ok (.aload_n 0, 1) := by decide +kernel
theorem dX12_pair_21 : decode cX12_pair 21 = .ok (.getfield 115, 3) := by decide +kernel
theorem dX12_pair_24 : decode cX12_pair 24 = .ok (.iload_n 1, 1) := by decide +kernel
theorem dX12_pair_25 : decode cX12_pair 25 = .ok (.iaload, 1) := by decide +kernel
theorem dX12_pair_26 : decode cX12_pair 26 = .ok (.iadd, 1) := by decide +kernel
theorem dX12_pair_27 : decode cX12_pair 27 = .ok (.aload_n 0, 1) := by decide +kernel
theorem dX12_pair_28 : decode cX12_pair 28 = .ok (.getfield 115, 3) := by decide +kernel
theorem dX12_pair_31 : decode cX12_pair 31 = .ok (.iload_n 2, 1) := by decide +kernel
theorem dX12_pair_32 : decode cX12_pair 32 = .ok (.iaload, 1) := by decide +kernel
theorem dX12_pair_33 : decode cX12_pair 33 = .ok (.iadd, 1) := by decide +kernel
theorem dX12_pair_34 : decode cX12_pair 34 = .ok (.iastore, 1) := by decide +kernel
theorem dX12_pair_35 : decode cX12_pair 35 = .ok (.aload_n 0, 1) := by decide +kernel
theorem dX12_pair_36 : decode cX12_pair 36 = .ok (.getfield 118, 3) := by decide +kernel
theorem dX12_pair_39 : decode cX12_pair 39 = .ok (.iload_n 3, 1) := by decide +kernel
theorem dX12_pair_40 : decode cX12_pair 40 = .ok (.iconst 1, 1) := by decide +kernel
theorem dX12_pair_41 : decode cX12_pair 41 = .ok (.aload_n 0, 1) := by decide +kernel
theorem dX12_pair_42 : decode cX12_pair 42 = .ok (.getfield 118, 3) := by decide +kernel
theorem dX12_pair_45 : decode cX12_pair 45 = .ok (.iload_n 1, 1) := by decide +kernel
theorem dX12_pair_46 : decode cX12_pair 46 = .ok (.iaload, 1) := by decide +kernel
theorem dX12_pair_47 : decode cX12_pair 47 = .ok (.aload_n 0, 1) := by decide +kernel
theorem dX12_pair_48 : decode cX12_pair 48 = .ok (.getfield 118, 3) := by decide +kernel
theorem dX12_pair_51 : decode cX12_pair 51 = .ok (.iload_n 2, 1) := by decide +kernel
theorem dX12_pair_52 : decode cX12_pair 52 = .ok (.iaload, 1) := by decide +kernel
theorem dX12_pair_53 : decode cX12_pair 53 = .ok (.if_icmp .le 12, 3) := by decide +kernel
theorem dX12_pair_56 : decode cX12_pair 56 = .ok (.aload_n 0, 1) := by decide +kernel
theorem dX12_pair_57 : decode cX12_pair 57 = .ok (.getfield 118, 3) := by decide +kernel
theorem dX12_pair_60 : decode cX12_pair 60 = .ok (.iload_n 1, 1) := by decide +kernel
theorem dX12_pair_61 : decode cX12_pair 61 = .ok (.iaload, 1) := by decide +kernel
theorem dX12_pair_62 : decode cX12_pair 62 = .ok (.goto 9, 3) := by decide +kernel
theorem dX12_pair_65 : decode cX12_pair 65 = .ok (.aload_n 0, 1) := by decide +kernel
theorem dX12_pair_66 : decode cX12_pair 66 = .ok (.getfield 118, 3) := by decide +kernel
theorem dX12_pair_69 : decode cX12_pair 69 = .ok (.iload_n 2, 1) := by decide +kernel
theorem dX12_pair_70 : decode cX12_pair 70 = .ok (.iaload, 1) := by decide +kernel
theorem dX12_pair_71 : decode cX12_pair 71 = .ok (.iadd, 1) := by decide +kernel
theorem dX12_pair_72 : decode cX12_pair 72 = .ok (.iastore, 1) := by decide +kernel
theorem dX12_pair_73 : decode cX12_pair 73 = .ok (.iload_n 3, 1) := by decide +kernel
theorem dX12_pair_74 : decode cX12_pair 74 = .ok (.ireturn, 1) := by decide +kernel
theorem dX12_num_0 : decode cX12_num 0 = .ok (.iload_n 1, 1) := by decide +kernel
theorem dX12_num_1 : decode cX12_num 1 = .ok (.istore_n 2, 1) := by decide +kernel
theorem dX12_num_2 : decode cX12_num 2 = .ok (.aload_n 0, 1) := by decide +kernel
theorem dX12_num_3 : decode cX12_num 3 = .ok (.getfield 106, 3) := by decide +kernel
theorem dX12_num_6 : decode cX12_num 6 = .ok (.iload_n 2, 1) := by decide +kernel
theorem dX12_num_7 : decode cX12_num 7 = .ok (.iaload, 1) := by decide +kernel
theorem dX12_num_8 : decode cX12_num 8 = .ok (.iconst 2, 1) := by decide +kernel
theorem dX12_num_9 : decode cX12_num 9 = .ok (.if_icmp .ne 13, 3) := by decide +kernel
theorem dX12_num_12 : decode cX12_num 12 = .ok (.aload_n 0, 1) := by decide +kernel
theorem dX12_num_13 : decode cX12_num 13 = .ok (.getfield 109, 3) := by decide +kernel
theorem dX12_num_16 : decode cX12_num 16 = .ok (.iload_n 2, 1) := by decide +kernel
theorem dX12_num_17 : decode cX12_num 17 = .ok (.iaload, 1) := by decide +kernel
theorem dX12_num_18 : decode cX12_num 18 = .ok (.istore_n 2, 1) := by decide +kernel
theorem dX12_num_19 : decode cX12_num 19 = .ok (.goto (-17), 3) := by decide +kernel
theorem dX12_num_22 : decode cX12_num 22 = .ok (.iload_n 2, 1) := by decide +kernel
theorem dX12_num_23 : decode cX12_num 23 = .ok (.ireturn, 1) := by decide +kernel
theorem dX12_isKnown_0 : decode cX12_isKnown 0 = .ok (.aload_n 0, 1) := by decide +kernel
theorem dX12_isKnown_1 : decode cX12_isKnown 1 = .ok (.getfield 106, 3) := by decide +kernel
theorem dX12_isKnown_4 : decode cX12_isKnown 4 = .ok (.iload_n 1, 1) := by decide +kernel
theorem dX12_isKnown_5 : decode cX12_isKnown 5 = .ok (.iaload, 1) := by decide +kernel
theorem dX12_isKnown_6 : decode cX12_isKnown 6 = .ok (.iconst 3, 1) := by decide +kernel
theorem dX12_isKnown_7 : decode cX12_isKnown 7 = .ok (.if_icmp .eq 7, 3) := by decide +kernel
theorem dX12_isKnown_10 : decode cX12_isKnown 10 = .ok (.iconst 1, 1) := by decide +kernel
theorem dX12_isKnown_11 : decode cX12_isKnown 11 = .ok (.goto 4, 3) := by decide +kernel
theorem dX12_isKnown_14 : decode cX12_isKnown 14 = .ok (.iconst 0, 1) := by decide +kernel
theorem dX12_isKnown_15 : decode cX12_isKnown 15 = .ok (.ireturn, 1) := by decide +kernel
theorem dX12_build_0 : decode cX12_build 0 = .ok (.aload_n 0, 1) := by decide +kernel
theorem dX12_build_1 : decode cX12_build 1 = .ok (.getfield 121, 3) := by decide +kernel
theorem dX12_build_4 : decode cX12_build 4 = .ok (.aload_n 0, 1) := by decide +kernel
theorem dX12_build_5 : decode cX12_build 5 = .ok (.getfield 530, 3) := by decide +kernel
theorem dX12_build_8 : decode cX12_build 8 = .ok (.iload_n 1, 1) := by decide +kernel
theorem dX12_build_9 : decode cX12_build 9 = .ok (.iastore, 1) := by decide +kernel
theorem dX12_build_10 : decode cX12_build 10 = .ok (.aload_n 0, 1) := by decide +kernel
theorem dX12_build_11 : decode cX12_build 11 = .ok (.dup, 1) := by decide +kernel
theorem dX12_build_12 : decode cX12_build 12 = .ok (.getfield 530, 3) := by decide +kernel
theorem dX12_build_15 : decode cX12_build 15 = .ok (.iconst 1, 1) := by decide +kernel
theorem dX12_build_16 : decode cX12_build 16 = .ok (.iadd, 1) := by decide +kernel
theorem dX12_build_17 : decode cX12_build 17 = .ok (.putfield 530, 3) := by decide +kernel
theorem dX12_build_20 : decode cX12_build 20 = .ok (.return_, 1) := by decide +kernel
theorem dX12_unbuild_0 : decode cX12_unbuild 0 = .ok (.aload_n 0, 1) := by decide +kernel
theorem dX12_unbuild_1 : decode cX12_unbuild 1 = .ok (.dup, 1) := by decide +kernel
theorem dX12_unbuild_2 : decode cX12_unbuild 2 = .ok (.getfield 530, 3) := by decide +kernel
theorem dX12_unbuild_5 : decode cX12_unbuild 5 = .ok (.iconst 1, 1) := by decide +kernel
theorem dX12_unbuild_6 : decode cX12_unbuild 6 = .ok (.isub, 1) := by decide +kernel
theorem dX12_unbuild_7 : decode cX12_unbuild 7 = .ok (.putfield 530, 3) := by decide +kernel
theorem dX12_unbuild_10 : decode cX12_unbuild 10 = .ok (.aload_n 0, 1) := by decide +kernel
theorem dX12_unbuild_11 : decode cX12_unbuild 11 = .ok (.getfield 121, 3) := by decide +kernel
theorem dX12_unbuild_14 : decode cX12_unbuild 14 = .ok (.aload_n 0, 1) := by decide +kernel
theorem dX12_unbuild_15 : decode cX12_unbuild 15 = .ok (.getfield 530, 3) := by decide +kernel
theorem dX12_unbuild_18 : decode cX12_unbuild 18 = .ok (.iaload, 1) := by decide +kernel
theorem dX12_unbuild_19 : decode cX12_unbuild 19 = .ok (.ireturn, 1) := by decide +kernel
theorem dX12_buildOne_0 : decode cX12_buildOne 0 = .ok (.iload_n 1, 1) := by decide +kernel
theorem dX12_buildOne_1 : decode cX12_buildOne 1 = .ok (.iconst 2, 1) := by decide +kernel
theorem dX12_buildOne_2 : decode cX12_buildOne 2 = .ok (.if_icmp .eq 14, 3) := by decide +kernel
theorem dX12_buildOne_5 : decode cX12_buildOne 5 = .ok (.aload_n 0, 1) := by decide +kernel
theorem dX12_buildOne_6 : decode cX12_buildOne 6 = .ok (.aload_n 0, 1) := by decide +kernel
theorem dX12_buildOne_7 : decode cX12_buildOne 7 = .ok (.iload_n 1, 1) := by decide +kernel
theorem dX12_buildOne_8 : decode cX12_buildOne 8 = .ok (.iload_n 2, 1) := by decide +kernel
theorem dX12_buildOne_9 : decode cX12_buildOne 9 = .ok (.invokevirtual 527, 3) := by decide +kernel
theorem dX12_buildOne_12 : decode cX12_buildOne 12 = .ok (.invokevirtual 533, 3) := by decide +kernel
theorem dX12_buildOne_15 : decode cX12_buildOne 15 = .ok (.return_, 1) := by decide +kernel
theorem dX12_buildOne_16 : decode cX12_buildOne 16 = .ok (.aload_n 0, 1) := by decide +kernel
theorem dX12_buildOne_17 : decode cX12_buildOne 17 = .ok (.invokevirtual 536, 3) := by decide +kernel
theorem dX12_buildOne_20 : decode cX12_buildOne 20 = .ok (.istore_n 3, 1) := by decide +kernel
theorem dX12_buildOne_21 : decode cX12_buildOne 21 = .ok (.aload_n 0, 1) := by decide +kernel
theorem dX12_buildOne_22 : decode cX12_buildOne 22 = .ok (.aload_n 0, 1) := by decide +kernel
theorem dX12_buildOne_23 : decode cX12_buildOne 23 = .ok (.iload_n 3, 1) := by decide +kernel
theorem dX12_buildOne_24 : decode cX12_buildOne 24 = .ok (.aload_n 0, 1) := by decide +kernel
theorem dX12_buildOne_25 : decode cX12_buildOne 25 = .ok (.invokevirtual 536, 3) := by decide +kernel
theorem dX12_buildOne_28 : decode cX12_buildOne 28 = .ok (.invokevirtual 539, 3) := by decide +kernel
theorem dX12_buildOne_31 : decode cX12_buildOne 31 = .ok (.invokevirtual 533, 3) := by decide +kernel
theorem dX12_buildOne_34 : decode cX12_buildOne 34 = .ok (.return_, 1) := by decide +kernel
theorem dX12_buildLeaves_0 : decode cX12_buildLeaves 0 = .ok (.aload_n 0, 1) := by decide +kernel
theorem dX12_buildLeaves_1 : decode cX12_buildLeaves 1 = .ok (.iconst 0, 1) := by decide +kernel
theorem dX12_buildLeaves_2 : decode cX12_buildLeaves 2 = .ok (.putfield 530, 3) := by decide +kernel
theorem dX12_buildLeaves_5 : decode cX12_buildLeaves 5 = .ok (.aload_n 0, 1) := by decide +kernel
theorem dX12_buildLeaves_6 : decode cX12_buildLeaves 6 = .ok (.getfield 515, 3) := by decide +kernel
theorem dX12_buildLeaves_9 : decode cX12_buildLeaves 9 = .ok (.iconst 1, 1) := by decide +kernel
theorem dX12_buildLeaves_10 : decode cX12_buildLeaves 10 = .ok (.isub, 1) := by decide +kernel
theorem dX12_buildLeaves_11 : decode cX12_buildLeaves 11 = .ok (.istore_n 1, 1) := by decide +kernel
theorem dX12_buildLeaves_12 : decode cX12_buildLeaves 12 = .ok (.iload_n 1, 1) := by decide +kernel
theorem dX12_buildLeaves_13 : decode cX12_buildLeaves 13 = .ok (.ifCond .lt 25, 3) := by decide +kernel
theorem dX12_buildLeaves_16 : decode cX12_buildLeaves 16 = .ok (.aload_n 0, 1) := by decide +kernel
theorem dX12_buildLeaves_17 : decode cX12_buildLeaves 17 = .ok (.aload_n 0, 1) := by decide +kernel
theorem dX12_buildLeaves_18 : decode cX12_buildLeaves 18 = .ok (.getfield 93, 3) := by decide +kernel
theorem dX12_buildLeaves_21 : decode cX12_buildLeaves 21 = .ok (.iload_n 1, 1) := by decide +kernel
theorem dX12_buildLeaves_22 : decode cX12_buildLeaves 22 = .ok (.iaload, 1) := by decide +kernel
theorem dX12_buildLeaves_23 : decode cX12_buildLeaves 23 = .ok (.aload_n 0, 1) := by decide +kernel
theorem dX12_buildLeaves_24 : decode cX12_buildLeaves 24 = .ok (.getfield 96, 3) := by decide +kernel
theorem dX12_buildLeaves_27 : decode cX12_buildLeaves 27 = .ok (.iload_n 1, 1) := by decide +kernel
theorem dX12_buildLeaves_28 : decode cX12_buildLeaves 28 = .ok (.iaload, 1) := by decide +kernel
theorem dX12_buildLeaves_29 : decode cX12_buildLeaves 29 = .ok (.invokevirtual 542, 3) := by decide +kernel
theorem dX12_buildLeaves_32 : decode cX12_buildLeaves 32 = .ok (.iinc 1 (-1), 3) := by decide +kernel
theorem dX12_buildLeaves_35 : decode cX12_buildLeaves 35 = .ok (.goto (-23), 3) := by decide +kernel
theorem dX12_buildLeaves_38 : decode cX12_buildLeaves 38 = .ok (.iconst 0, 1) := by decide +kernel
theorem dX12_buildLeaves_39 : decode cX12_buildLeaves 39 = .ok (.istore_n 1, 1) := by decide +kernel
theorem dX12_buildLeaves_40 : decode cX12_buildLeaves 40 = .ok (.iload_n 1, 1) := by decide +kernel
theorem dX12_buildLeaves_41 : decode cX12_buildLeaves 41 = .ok (.aload_n 0, 1) := by decide +kernel
theorem dX12_buildLeaves_42 : decode cX12_buildLeaves 42 = .ok (.getfield 512, 3) := by decide +kernel
theorem dX12_buildLeaves_45 : decode cX12_buildLeaves 45 = .ok (.if_icmp .ge 19, 3) := by decide +kernel
theorem dX12_buildLeaves_48 : decode cX12_buildLeaves 48 = .ok (.aload_n 0, 1) := by decide +kernel
theorem dX12_buildLeaves_49 : decode cX12_buildLeaves 49 = .ok (.getfield 124, 3) := by decide +kernel
theorem dX12_buildLeaves_52 : decode cX12_buildLeaves 52 = .ok (.iload_n 1, 1) := by decide +kernel
theorem dX12_buildLeaves_53 : decode cX12_buildLeaves 53 = .ok (.aload_n 0, 1) := by decide +kernel
theorem dX12_buildLeaves_54 : decode cX12_buildLeaves 54 = .ok (.invokevirtual 536, 3) := by decide +kernel
theorem dX12_buildLeaves_57 : decode cX12_buildLeaves 57 = .ok (.iastore, 1) := by decide +kernel
theorem dX12_buildLeaves_58 : decode cX12_buildLeaves 58 = .ok (.iinc 1 1, 3) := by decide +kernel
theorem dX12_buildLeaves_61 : decode cX12_buildLeaves 61 = .ok (.goto (-21), 3) := by decide +kernel
theorem dX12_buildLeaves_64 : decode cX12_buildLeaves 64 = .ok (.return_, 1) := by decide +kernel
theorem dX12_push_0 : decode cX12_push 0 = .ok (.aload_n 0, 1) := by decide +kernel
theorem dX12_push_1 : decode cX12_push 1 = .ok (.getfield 127, 3) := by decide +kernel
theorem dX12_push_4 : decode cX12_push 4 = .ok (.aload_n 0, 1) := by decide +kernel
theorem dX12_push_5 : decode cX12_push 5 = .ok (.getfield 545, 3) := by decide +kernel
theorem dX12_push_8 : decode cX12_push 8 = .ok (.iload_n 1, 1) := by decide +kernel
theorem dX12_push_9 : decode cX12_push 9 = .ok (.iastore, 1) := by decide +kernel
theorem dX12_push_10 : decode cX12_push 10 = .ok (.aload_n 0, 1) := by decide +kernel
theorem dX12_push_11 : decode cX12_push 11 = .ok (.getfield 130, 3) := by decide +kernel
theorem dX12_push_14 : decode cX12_push 14 = .ok (.aload_n 0, 1) := by decide +kernel
theorem dX12_push_15 : decode cX12_push 15 = .ok (.getfield 545, 3) := by decide +kernel
theorem dX12_push_18 : decode cX12_push 18 = .ok (.iload_n 2, 1) := by decide +kernel
theorem dX12_push_19 : decode cX12_push 19 = .ok (.iastore, 1) := by decide +kernel
theorem dX12_push_20 : decode cX12_push 20 = .ok (.aload_n 0, 1) := by decide +kernel
theorem dX12_push_21 : decode cX12_push 21 = .ok (.getfield 133, 3) := by decide +kernel
theorem dX12_push_24 : decode cX12_push 24 = .ok (.aload_n 0, 1) := by decide +kernel
theorem dX12_push_25 : decode cX12_push 25 = .ok (.getfield 545, 3) := by decide +kernel
theorem dX12_push_28 : decode cX12_push 28 = .ok (.iload_n 3, 1) := by decide +kernel
theorem dX12_push_29 : decode cX12_push 29 = .ok (.iastore, 1) := by decide +kernel
theorem dX12_push_30 : decode cX12_push 30 = .ok (.aload_n 0, 1) := by decide +kernel
theorem dX12_push_31 : decode cX12_push 31 = .ok (.dup, 1) := by decide +kernel
theorem dX12_push_32 : decode cX12_push 32 = .ok (.getfield 545, 3) := by decide +kernel
theorem dX12_push_35 : decode cX12_push 35 = .ok (.iconst 1, 1) := by decide +kernel
theorem dX12_push_36 : decode cX12_push 36 = .ok (.iadd, 1) := by decide +kernel
theorem dX12_push_37 : decode cX12_push 37 = .ok (.putfield 545, 3) := by decide +kernel
theorem dX12_push_40 : decode cX12_push 40 = .ok (.return_, 1) := by decide +kernel
theorem dX12_come_0 : decode cX12_come 0 = .ok (.aload_n 0, 1) := by decide +kernel
theorem dX12_come_1 : decode cX12_come 1 = .ok (.getfield 136, 3) := by decide +kernel
theorem dX12_come_4 : decode cX12_come 4 = .ok (.aload_n 0, 1) := by decide +kernel
theorem dX12_come_5 : decode cX12_come 5 = .ok (.getfield 548, 3) := by decide +kernel
theorem dX12_come_8 : decode cX12_come 8 = .ok (.iload_n 1, 1) := by decide +kernel
theorem dX12_come_9 : decode cX12_come 9 = .ok (.iastore, 1) := by decide +kernel
theorem dX12_come_10 : decode cX12_come 10 = .ok (.aload_n 0, 1) := by decide +kernel
theorem dX12_come_11 : decode cX12_come 11 = .ok (.dup, 1) := by decide +kernel
theorem dX12_come_12 : decode cX12_come 12 = .ok (.getfield 548, 3) := by decide +kernel
theorem dX12_come_15 : decode cX12_come 15 = .ok (.iconst 1, 1) := by decide +kernel
theorem dX12_come_16 : decode cX12_come 16 = .ok (.iadd, 1) := by decide +kernel
theorem dX12_come_17 : decode cX12_come 17 = .ok (.putfield 548, 3) := by decide +kernel
theorem dX12_come_20 : decode cX12_come 20 = .ok (.return_, 1) := by decide +kernel
theorem dX12_gone_0 : decode cX12_gone 0 = .ok (.aload_n 0, 1) := by decide +kernel
theorem dX12_gone_1 : decode cX12_gone 1 = .ok (.dup, 1) := by decide +kernel
theorem dX12_gone_2 : decode cX12_gone 2 = .ok (.getfield 548, 3) := by decide +kernel
theorem dX12_gone_5 : decode cX12_gone 5 = .ok (.iconst 1, 1) := by decide +kernel
theorem dX12_gone_6 : decode cX12_gone 6 = .ok (.isub, 1) := by decide +kernel
theorem dX12_gone_7 : decode cX12_gone 7 = .ok (.putfield 548, 3) := by decide +kernel
theorem dX12_gone_10 : decode cX12_gone 10 = .ok (.aload_n 0, 1) := by decide +kernel
theorem dX12_gone_11 : decode cX12_gone 11 = .ok (.getfield 136, 3) := by decide +kernel
theorem dX12_gone_14 : decode cX12_gone 14 = .ok (.aload_n 0, 1) := by decide +kernel
theorem dX12_gone_15 : decode cX12_gone 15 = .ok (.getfield 548, 3) := by decide +kernel
theorem dX12_gone_18 : decode cX12_gone 18 = .ok (.iaload, 1) := by decide +kernel
theorem dX12_gone_19 : decode cX12_gone 19 = .ok (.ireturn, 1) := by decide +kernel
theorem dX12_begin_0 : decode cX12_begin 0 = .ok (.aload_n 0, 1) := by decide +kernel
theorem dX12_begin_1 : decode cX12_begin 1 = .ok (.iload_n 1, 1) := by decide +kernel
theorem dX12_begin_2 : decode cX12_begin 2 = .ok (.putfield 551, 3) := by decide +kernel
theorem dX12_begin_5 : decode cX12_begin 5 = .ok (.aload_n 0, 1) := by decide +kernel
theorem dX12_begin_6 : decode cX12_begin 6 = .ok (.iconst 0, 1) := by decide +kernel
theorem dX12_begin_7 : decode cX12_begin 7 = .ok (.putfield 545, 3) := by decide +kernel
theorem dX12_begin_10 : decode cX12_begin 10 = .ok (.aload_n 0, 1) := by decide +kernel
theorem dX12_begin_11 : decode cX12_begin 11 = .ok (.iconst 0, 1) := by decide +kernel
theorem dX12_begin_12 : decode cX12_begin 12 = .ok (.putfield 548, 3) := by decide +kernel
theorem dX12_begin_15 : decode cX12_begin 15 = .ok (.aload_n 0, 1) := by decide +kernel
theorem dX12_begin_16 : decode cX12_begin 16 = .ok (.iconst 0, 1) := by decide +kernel
theorem dX12_begin_17 : decode cX12_begin 17 = .ok (.putfield 554, 3) := by decide +kernel
theorem dX12_begin_20 : decode cX12_begin 20 = .ok (.aload_n 0, 1) := by decide +kernel
theorem dX12_begin_21 : decode cX12_begin 21 = .ok (.iconst 0, 1) := by decide +kernel
theorem dX12_begin_22 : decode cX12_begin 22 = .ok (.putfield 557, 3) := by decide +kernel
theorem dX12_begin_25 : decode cX12_begin 25 = .ok (.return_, 1) := by decide +kernel
theorem dX12_goAll_0 : decode cX12_goAll 0 = .ok (.aload_n 0, 1) := by decide +kernel
theorem dX12_goAll_1 : decode cX12_goAll 1 = .ok (.getfield 545, 3) := by decide +kernel
theorem dX12_goAll_4 : decode cX12_goAll 4 = .ok (.ifCond .le 54, 3) := by decide +kernel
theorem dX12_goAll_7 : decode cX12_goAll 7 = .ok (.aload_n 0, 1) := by decide +kernel
theorem dX12_goAll_8 : decode cX12_goAll 8 = .ok (.getfield 557, 3) := by decide +kernel
theorem dX12_goAll_11 : decode cX12_goAll 11 = .ok (.ifCond .ne 47, 3) := by decide +kernel
theorem dX12_goAll_14 : decode cX12_goAll 14 = .ok (.aload_n 0, 1) := by decide +kernel
theorem dX12_goAll_15 : decode cX12_goAll 15 = .ok (.dup, 1) := by decide +kernel
theorem dX12_goAll_16 : decode cX12_goAll 16 = .ok (.getfield 545, 3) := by decide +kernel
theorem dX12_goAll_19 : decode cX12_goAll 19 = .ok (.iconst 1, 1) := by decide +kernel
theorem dX12_goAll_20 : decode cX12_goAll 20 = .ok (.isub, 1) := by decide +kernel
theorem dX12_goAll_21 : decode cX12_goAll 21 = .ok (.putfield 545, 3) := by decide +kernel
theorem dX12_goAll_24 : decode cX12_goAll 24 = .ok (.aload_n 0, 1) := by decide +kernel
theorem dX12_goAll_25 : decode cX12_goAll 25 = .ok (.aload_n 0, 1) := by decide +kernel
theorem dX12_goAll_26 : decode cX12_goAll 26 = .ok (.getfield 127, 3) := by decide +kernel
theorem dX12_goAll_29 : decode cX12_goAll 29 = .ok (.aload_n 0, 1) := by decide +kernel
theorem dX12_goAll_30 : decode cX12_goAll 30 = .ok (.getfield 545, 3) := by decide +kernel
theorem dX12_goAll_33 : decode cX12_goAll 33 = .ok (.iaload, 1) := by decide +kernel
theorem dX12_goAll_34 : decode cX12_goAll 34 = .ok (.aload_n 0, 1) := by decide +kernel
theorem dX12_goAll_35 : decode cX12_goAll 35 = .ok (.getfield 130, 3) := by decide +kernel
theorem dX12_goAll_38 : decode cX12_goAll 38 = .ok (.aload_n 0, 1) := by decide +kernel
theorem dX12_goAll_39 : decode cX12_goAll 39 = .ok (.getfield 545, 3) := by decide +kernel
theorem dX12_goAll_42 : decode cX12_goAll 42 = .ok (.iaload, 1) := by decide +kernel
theorem dX12_goAll_43 : decode cX12_goAll 43 = .ok (.aload_n 0, 1) := by decide +kernel
theorem dX12_goAll_44 : decode cX12_goAll 44 = .ok (.getfield 133, 3) := by decide +kernel
theorem dX12_goAll_47 : decode cX12_goAll 47 = .ok (.aload_n 0, 1) := by decide +kernel
theorem dX12_goAll_48 : decode cX12_goAll 48 = .ok (.getfield 545, 3) := by decide +kernel
theorem dX12_goAll_51 : decode cX12_goAll 51 = .ok (.iaload, 1) := by decide +kernel
theorem dX12_goAll_52 : decode cX12_goAll 52 = .ok (.invokevirtual 560, 3) := by decide +kernel
theorem dX12_goAll_55 : decode cX12_goAll 55 = .ok (.goto (-55), 3) := by decide +kernel
theorem dX12_goAll_58 : decode cX12_goAll 58 = .ok (.return_, 1) := by decide +kernel
theorem dX12_goOne_0 : decode cX12_goOne 0 = .ok (.iload_n 1, 1) := by decide +kernel
theorem dX12_goOne_1 : decode cX12_goOne 1 = .ok (.tableswitch 106 0 6 #[43, 51, 59, 67, 75, 90, 97], 43) := by decide +kernel
theorem dX12_goOne_44 : decode cX12_goOne 44 = .ok (.aload_n 0, 1) := by decide +kernel
theorem dX12_goOne_45 : decode cX12_goOne 45 = .ok (.iload_n 2, 1) := by decide +kernel
theorem dX12_goOne_46 : decode cX12_goOne 46 = .ok (.invokevirtual 564, 3) := by decide +kernel
theorem dX12_goOne_49 : decode cX12_goOne 49 = .ok (.goto 63, 3) := by decide +kernel
theorem dX12_goOne_52 : decode cX12_goOne 52 = .ok (.aload_n 0, 1) := by decide +kernel
theorem dX12_goOne_53 : decode cX12_goOne 53 = .ok (.iload_n 2, 1) := by decide +kernel
theorem dX12_goOne_54 : decode cX12_goOne 54 = .ok (.invokevirtual 567, 3) := by decide +kernel
theorem dX12_goOne_57 : decode cX12_goOne 57 = .ok (.goto 55, 3) := by decide +kernel
theorem dX12_goOne_60 : decode cX12_goOne 60 = .ok (.aload_n 0, 1) := by decide +kernel
theorem dX12_goOne_61 : decode cX12_goOne 61 = .ok (.iload_n 2, 1) := by decide +kernel
theorem dX12_goOne_62 : decode cX12_goOne 62 = .ok (.invokevirtual 570, 3) := by decide +kernel
theorem dX12_goOne_65 : decode cX12_goOne 65 = .ok (.goto 47, 3) := by decide +kernel
theorem dX12_goOne_68 : decode cX12_goOne 68 = .ok (.aload_n 0, 1) := by decide +kernel
theorem dX12_goOne_69 : decode cX12_goOne 69 = .ok (.iload_n 2, 1) := by decide +kernel
theorem dX12_goOne_70 : decode cX12_goOne 70 = .ok (.invokevirtual 573, 3) := by decide +kernel
theorem dX12_goOne_73 : decode cX12_goOne 73 = .ok (.goto 39, 3) := by decide +kernel
theorem dX12_goOne_76 : decode cX12_goOne 76 = .ok (.aload_n 0, 1) := by decide +kernel
theorem dX12_goOne_77 : decode cX12_goOne 77 = .ok (.getfield 139, 3) := by decide +kernel
theorem dX12_goOne_80 : decode cX12_goOne 80 = .ok (.aload_n 0, 1) := by decide +kernel
theorem dX12_goOne_81 : decode cX12_goOne 81 = .ok (.getfield 554, 3) := by decide +kernel
theorem dX12_goOne_84 : decode cX12_goOne 84 = .ok (.iload_n 2, 1) := by decide +kernel
theorem dX12_goOne_85 : decode cX12_goOne 85 = .ok (.iadd, 1) := by decide +kernel
theorem dX12_goOne_86 : decode cX12_goOne 86 = .ok (.iload_n 3, 1) := by decide +kernel
theorem dX12_goOne_87 : decode cX12_goOne 87 = .ok (.iastore, 1) := by decide +kernel
theorem dX12_goOne_88 : decode cX12_goOne 88 = .ok (.goto 24, 3) := by decide +kernel
theorem dX12_goOne_91 : decode cX12_goOne 91 = .ok (.aload_n 0, 1) := by decide +kernel
theorem dX12_goOne_92 : decode cX12_goOne 92 = .ok (.invokevirtual 576, 3) := by decide +kernel
theorem dX12_goOne_95 : decode cX12_goOne 95 = .ok (.goto 17, 3) := by decide +kernel
theorem dX12_goOne_98 : decode cX12_goOne 98 = .ok (.aload_n 0, 1) := by decide +kernel
theorem dX12_goOne_99 : decode cX12_goOne 99 = .ok (.iload_n 2, 1) := by decide +kernel
theorem dX12_goOne_100 : decode cX12_goOne 100 = .ok (.iload_n 3, 1) := by decide +kernel
theorem dX12_goOne_101 : decode cX12_goOne 101 = .ok (.invokevirtual 579, 3) := by decide +kernel
theorem dX12_goOne_104 : decode cX12_goOne 104 = .ok (.goto 8, 3) := by decide +kernel
theorem dX12_goOne_107 : decode cX12_goOne 107 = .ok (.aload_n 0, 1) := by decide +kernel
theorem dX12_goOne_108 : decode cX12_goOne 108 = .ok (.iload_n 2, 1) := by decide +kernel
theorem dX12_goOne_109 : decode cX12_goOne 109 = .ok (.invokevirtual 582, 3) := by decide +kernel
theorem dX12_goOne_112 : decode cX12_goOne 112 = .ok (.return_, 1) := by decide +kernel
theorem dX12_work_0 : decode cX12_work 0 = .ok (.aload_n 0, 1) := by decide +kernel
theorem dX12_work_1 : decode cX12_work 1 = .ok (.getfield 33, 3) := by decide +kernel
theorem dX12_work_4 : decode cX12_work 4 = .ok (.iload_n 1, 1) := by decide +kernel
theorem dX12_work_5 : decode cX12_work 5 = .ok (.iaload, 1) := by decide +kernel
theorem dX12_work_6 : decode cX12_work 6 = .ok (.istore_n 2, 1) := by decide +kernel
theorem dX12_work_7 : decode cX12_work 7 = .ok (.iload_n 2, 1) := by decide +kernel
theorem dX12_work_8 : decode cX12_work 8 = .ok (.ifCond .eq 8, 3) := by decide +kernel
theorem dX12_work_11 : decode cX12_work 11 = .ok (.iload_n 2, 1) := by decide +kernel
theorem dX12_work_12 : decode cX12_work 12 = .ok (.iconst 1, 1) := by decide +kernel
theorem dX12_work_13 : decode cX12_work 13 = .ok (.if_icmp .ne 21, 3) := by decide +kernel
theorem dX12_work_16 : decode cX12_work 16 = .ok (.aload_n 0, 1) := by decide +kernel
theorem dX12_work_17 : decode cX12_work 17 = .ok (.aload_n 0, 1) := by decide +kernel
theorem dX12_work_18 : decode cX12_work 18 = .ok (.iload_n 2, 1) := by decide +kernel
theorem dX12_work_19 : decode cX12_work 19 = .ok (.aload_n 0, 1) := by decide +kernel
theorem dX12_work_20 : decode cX12_work 20 = .ok (.getfield 36, 3) := by decide +kernel
theorem dX12_work_23 : decode cX12_work 23 = .ok (.iload_n 1, 1) := by decide +kernel
theorem dX12_work_24 : decode cX12_work 24 = .ok (.iaload, 1) := by decide +kernel
theorem dX12_work_25 : decode cX12_work 25 = .ok (.invokevirtual 527, 3) := by decide +kernel
theorem dX12_work_28 : decode cX12_work 28 = .ok (.invokevirtual 585, 3) := by decide +kernel
theorem dX12_work_31 : decode cX12_work 31 = .ok (.goto 84, 3) := by decide +kernel
theorem dX12_work_34 : decode cX12_work 34 = .ok (.iload_n 2, 1) := by decide +kernel
theorem dX12_work_35 : decode cX12_work 35 = .ok (.iconst 4, 1) := by decide +kernel
theorem dX12_work_36 : decode cX12_work 36 = .ok (.if_icmp .ne 26, 3) := by decide +kernel
theorem dX12_work_39 : decode cX12_work 39 = .ok (.aload_n 0, 1) := by decide +kernel
theorem dX12_work_40 : decode cX12_work 40 = .ok (.aload_n 0, 1) := by decide +kernel
theorem dX12_work_41 : decode cX12_work 41 = .ok (.getfield 139, 3) := by decide +kernel
theorem dX12_work_44 : decode cX12_work 44 = .ok (.aload_n 0, 1) := by decide +kernel
theorem dX12_work_45 : decode cX12_work 45 = .ok (.getfield 554, 3) := by decide +kernel
theorem dX12_work_48 : decode cX12_work 48 = .ok (.aload_n 0, 1) := by decide +kernel
theorem dX12_work_49 : decode cX12_work 49 = .ok (.getfield 36, 3) := by decide +kernel
theorem dX12_work_52 : decode cX12_work 52 = .ok (.iload_n 1, 1) := by decide +kernel
theorem dX12_work_53 : decode cX12_work 53 = .ok (.iaload, 1) := by decide +kernel
theorem dX12_work_54 : decode cX12_work 54 = .ok (.iadd, 1) := by decide +kernel
theorem dX12_work_55 : decode cX12_work 55 = .ok (.iaload, 1) := by decide +kernel
theorem dX12_work_56 : decode cX12_work 56 = .ok (.invokevirtual 585, 3) := by decide +kernel
theorem dX12_work_59 : decode cX12_work 59 = .ok (.goto 56, 3) := by decide +kernel
theorem dX12_work_62 : decode cX12_work 62 = .ok (.iload_n 2, 1) := by decide +kernel
theorem dX12_work_63 : decode cX12_work 63 = .ok (.bipush 7, 2) := by decide +kernel
theorem dX12_work_65 : decode cX12_work 65 = .ok (.if_icmp .eq 9, 3) := by decide +kernel
theorem dX12_work_68 : decode cX12_work 68 = .ok (.iload_n 2, 1) := by decide +kernel
theorem dX12_work_69 : decode cX12_work 69 = .ok (.bipush 11, 2) := by decide +kernel
theorem dX12_work_71 : decode cX12_work 71 = .ok (.if_icmp .ne 32, 3) := by decide +kernel
theorem dX12_work_74 : decode cX12_work 74 = .ok (.aload_n 0, 1) := by decide +kernel
theorem dX12_work_75 : decode cX12_work 75 = .ok (.iload_n 2, 1) := by decide +kernel
theorem dX12_work_76 : decode cX12_work 76 = .ok (.bipush 7, 2) := by decide +kernel
theorem dX12_work_78 : decode cX12_work 78 = .ok (.if_icmp .ne 7, 3) := by decide +kernel
theorem dX12_work_81 : decode cX12_work 81 = .ok (.iconst 2, 1) := by decide +kernel
theorem dX12_work_82 : decode cX12_work 82 = .ok (.goto 4, 3) := by decide +kernel
theorem dX12_work_85 : decode cX12_work 85 = .ok (.iconst 3, 1) := by decide +kernel
theorem dX12_work_86 : decode cX12_work 86 = .ok (.iload_n 1, 1) := by decide +kernel
theorem dX12_work_87 : decode cX12_work 87 = .ok (.iconst 0, 1) := by decide +kernel
theorem dX12_work_88 : decode cX12_work 88 = .ok (.invokevirtual 588, 3) := by decide +kernel
theorem dX12_work_91 : decode cX12_work 91 = .ok (.aload_n 0, 1) := by decide +kernel
theorem dX12_work_92 : decode cX12_work 92 = .ok (.iconst 0, 1) := by decide +kernel
theorem dX12_work_93 : decode cX12_work 93 = .ok (.iload_n 1, 1) := by decide +kernel
theorem dX12_work_94 : decode cX12_work 94 = .ok (.iconst 1, 1) := by decide +kernel
theorem dX12_work_95 : decode cX12_work 95 = .ok (.iadd, 1) := by decide +kernel
theorem dX12_work_96 : decode cX12_work 96 = .ok (.iconst 0, 1) := by decide +kernel
theorem dX12_work_97 : decode cX12_work 97 = .ok (.invokevirtual 588, 3) := by decide +kernel
theorem dX12_work_100 : decode cX12_work 100 = .ok (.goto 15, 3) := by decide +kernel
theorem dX12_work_103 : decode cX12_work 103 = .ok (.aload_n 0, 1) := by decide +kernel
theorem dX12_work_104 : decode cX12_work 104 = .ok (.iconst 1, 1) := by decide +kernel
theorem dX12_work_105 : decode cX12_work 105 = .ok (.iload_n 1, 1) := by decide +kernel
theorem dX12_work_106 : decode cX12_work 106 = .ok (.iconst 0, 1) := by decide +kernel
theorem dX12_work_107 : decode cX12_work 107 = .ok (.invokevirtual 588, 3) := by decide +kernel
theorem dX12_work_110 : decode cX12_work 110 = .ok (.aload_n 0, 1) := by decide +kernel
theorem dX12_work_111 : decode cX12_work 111 = .ok (.iload_n 1, 1) := by decide +kernel
theorem dX12_work_112 : decode cX12_work 112 = .ok (.invokevirtual 591, 3) := by decide +kernel
theorem dX12_work_115 : decode cX12_work 115 = .ok (.return_, 1) := by decide +kernel
theorem dX12_workBelow_0 : decode cX12_workBelow 0 = .ok (.iload_n 1, 1) := by decide +kernel
theorem dX12_workBelow_1 : decode cX12_workBelow 1 = .ok (.iconst 1, 1) := by decide +kernel
theorem dX12_workBelow_2 : decode cX12_workBelow 2 = .ok (.iadd, 1) := by decide +kernel
theorem dX12_workBelow_3 : decode cX12_workBelow 3 = .ok (.istore_n 2, 1) := by decide +kernel
theorem dX12_workBelow_4 : decode cX12_workBelow 4 = .ok (.iconst 0, 1) := by decide +kernel
theorem dX12_workBelow_5 : decode cX12_workBelow 5 = .ok (.istore_n 3, 1) := by decide +kernel
theorem dX12_workBelow_6 : decode cX12_workBelow 6 = .ok (.iload_n 3, 1) := by decide +kernel
theorem dX12_workBelow_7 : decode cX12_workBelow 7 = .ok (.aload_n 0, 1) := by decide +kernel
theorem dX12_workBelow_8 : decode cX12_workBelow 8 = .ok (.getfield 39, 3) := by decide +kernel
theorem dX12_workBelow_11 : decode cX12_workBelow 11 = .ok (.iload_n 1, 1) := by decide +kernel
theorem dX12_workBelow_12 : decode cX12_workBelow 12 = .ok (.iaload, 1) := by decide +kernel
theorem dX12_workBelow_13 : decode cX12_workBelow 13 = .ok (.if_icmp .ge 23, 3) := by decide +kernel
theorem dX12_workBelow_16 : decode cX12_workBelow 16 = .ok (.aload_n 0, 1) := by decide +kernel
theorem dX12_workBelow_17 : decode cX12_workBelow 17 = .ok (.iconst 0, 1) := by decide +kernel
theorem dX12_workBelow_18 : decode cX12_workBelow 18 = .ok (.iload_n 2, 1) := by decide +kernel
theorem dX12_workBelow_19 : decode cX12_workBelow 19 = .ok (.iconst 0, 1) := by decide +kernel
theorem dX12_workBelow_20 : decode cX12_workBelow 20 = .ok (.invokevirtual 588, 3) := by decide +kernel
theorem dX12_workBelow_23 : decode cX12_workBelow 23 = .ok (.aload_n 0, 1) := by decide +kernel
theorem dX12_workBelow_24 : decode cX12_workBelow 24 = .ok (.getfield 42, 3) := by decide +kernel
theorem dX12_workBelow_27 : decode cX12_workBelow 27 = .ok (.iload_n 2, 1) := by decide +kernel
theorem dX12_workBelow_28 : decode cX12_workBelow 28 = .ok (.iaload, 1) := by decide +kernel
theorem dX12_workBelow_29 : decode cX12_workBelow 29 = .ok (.istore_n 2, 1) := by decide +kernel
theorem dX12_workBelow_30 : decode cX12_workBelow 30 = .ok (.iinc 3 1, 3) := by decide +kernel
theorem dX12_workBelow_33 : decode cX12_workBelow 33 = .ok (.goto (-27), 3) := by decide +kernel
theorem dX12_workBelow_36 : decode cX12_workBelow 36 = .ok (.iconst 0, 1) := by decide +kernel
theorem dX12_workBelow_37 : decode cX12_workBelow 37 = .ok (.istore_n 3, 1) := by decide +kernel
theorem dX12_workBelow_38 : decode cX12_workBelow 38 = .ok (.iload_n 3, 1) := by decide +kernel
theorem dX12_workBelow_39 : decode cX12_workBelow 39 = .ok (.aload_n 0, 1) := by decide +kernel
theorem dX12_workBelow_40 : decode cX12_workBelow 40 = .ok (.getfield 39, 3) := by decide +kernel
theorem dX12_workBelow_43 : decode cX12_workBelow 43 = .ok (.iload_n 1, 1) := by decide +kernel
theorem dX12_workBelow_44 : decode cX12_workBelow 44 = .ok (.iaload, 1) := by decide +kernel
theorem dX12_workBelow_45 : decode cX12_workBelow 45 = .ok (.iconst 2, 1) := by decide +kernel
theorem dX12_workBelow_46 : decode cX12_workBelow 46 = .ok (.idiv, 1) := by decide +kernel
theorem dX12_workBelow_47 : decode cX12_workBelow 47 = .ok (.if_icmp .ge 75, 3) := by decide +kernel
theorem dX12_workBelow_50 : decode cX12_workBelow 50 = .ok (.aload_n 0, 1) := by decide +kernel
theorem dX12_workBelow_51 : decode cX12_workBelow 51 = .ok (.getfield 130, 3) := by decide +kernel
theorem dX12_workBelow_54 : decode cX12_workBelow 54 = .ok (.aload_n 0, 1) := by decide +kernel
theorem dX12_workBelow_55 : decode cX12_workBelow 55 = .ok (.getfield 545, 3) := by decide +kernel
theorem dX12_workBelow_58 : decode cX12_workBelow 58 = .ok (.iconst 1, 1) := by decide +kernel
theorem dX12_workBelow_59 : decode cX12_workBelow 59 = .ok (.isub, 1) := by decide +kernel
theorem dX12_workBelow_60 : decode cX12_workBelow 60 = .ok (.iload_n 3, 1) := by decide +kernel
theorem dX12_workBelow_61 : decode cX12_workBelow 61 = .ok (.isub, 1) := by decide +kernel
theorem dX12_workBelow_62 : decode cX12_workBelow 62 = .ok (.iaload, 1) := by decide +kernel
theorem dX12_workBelow_63 : decode cX12_workBelow 63 = .ok (.istore 4, 2) := by decide +kernel
theorem dX12_workBelow_65 : decode cX12_workBelow 65 = .ok (.aload_n 0, 1) := by decide +kernel
theorem dX12_workBelow_66 : decode cX12_workBelow 66 = .ok (.getfield 130, 3) := by decide +kernel
theorem dX12_workBelow_69 : decode cX12_workBelow 69 = .ok (.aload_n 0, 1) := by decide +kernel
theorem dX12_workBelow_70 : decode cX12_workBelow 70 = .ok (.getfield 545, 3) := by decide +kernel
theorem dX12_workBelow_73 : decode cX12_workBelow 73 = .ok (.iconst 1, 1) := by decide +kernel
theorem dX12_workBelow_74 : decode cX12_workBelow 74 = .ok (.isub, 1) := by decide +kernel
theorem dX12_workBelow_75 : decode cX12_workBelow 75 = .ok (.iload_n 3, 1) := by decide +kernel
theorem dX12_workBelow_76 : decode cX12_workBelow 76 = .ok (.isub, 1) := by decide +kernel
theorem dX12_workBelow_77 : decode cX12_workBelow 77 = .ok (.aload_n 0, 1) := by decide +kernel
theorem dX12_workBelow_78 : decode cX12_workBelow 78 = .ok (.getfield 130, 3) := by decide +kernel
theorem dX12_workBelow_81 : decode cX12_workBelow 81 = .ok (.aload_n 0, 1) := by decide +kernel
theorem dX12_workBelow_82 : decode cX12_workBelow 82 = .ok (.getfield 545, 3) := by decide +kernel
theorem dX12_workBelow_85 : decode cX12_workBelow 85 = .ok (.aload_n 0, 1) := by decide +kernel
theorem dX12_workBelow_86 : decode cX12_workBelow 86 = .ok (.getfield 39, 3) := by decide +kernel
theorem dX12_workBelow_89 : decode cX12_workBelow 89 = .ok (.iload_n 1, 1) := by decide +kernel
theorem dX12_workBelow_90 : decode cX12_workBelow 90 = .ok (.iaload, 1) := by decide +kernel
theorem dX12_workBelow_91 : decode cX12_workBelow 91 = .ok (.isub, 1) := by decide +kernel
theorem dX12_workBelow_92 : decode cX12_workBelow 92 = .ok (.iload_n 3, 1) := by decide +kernel
theorem dX12_workBelow_93 : decode cX12_workBelow 93 = .ok (.iadd, 1) := by decide +kernel
theorem dX12_workBelow_94 : decode cX12_workBelow 94 = .ok (.iaload, 1) := by decide +kernel
theorem dX12_workBelow_95 : decode cX12_workBelow 95 = .ok (.iastore, 1) := by decide +kernel
theorem dX12_workBelow_96 : decode cX12_workBelow 96 = .ok (.aload_n 0, 1) := by decide +kernel
theorem dX12_workBelow_97 : decode cX12_workBelow 97 = .ok (.getfield 130, 3) := by decide +kernel
theorem dX12_workBelow_100 : decode cX12_workBelow 100 = .ok (.aload_n 0, 1) := by decide +kernel
theorem dX12_workBelow_101 : decode cX12_workBelow 101 = .ok (.getfield 545, 3) := by decide +kernel
theorem dX12_workBelow_104 : decode cX12_workBelow 104 = .ok (.aload_n 0, 1) := by decide +kernel
theorem dX12_workBelow_105 : decode cX12_workBelow 105 = .ok (.getfield 39, 3) := by decide +kernel
theorem dX12_workBelow_108 : decode cX12_workBelow 108 = .ok (.iload_n 1, 1) := by decide +kernel
theorem dX12_workBelow_109 : decode cX12_workBelow 109 = .ok (.iaload, 1) := by decide +kernel
theorem dX12_workBelow_110 : decode cX12_workBelow 110 = .ok (.isub, 1) := by decide +kernel
theorem dX12_workBelow_111 : decode cX12_workBelow 111 = .ok (.iload_n 3, 1) := by decide +kernel
theorem dX12_workBelow_112 : decode cX12_workBelow 112 = .ok (.iadd, 1) := by decide +kernel
theorem dX12_workBelow_113 : decode cX12_workBelow 113 = .ok (.iload 4, 2) := by decide +kernel
theorem dX12_workBelow_115 : decode cX12_workBelow 115 = .ok (.iastore, 1) := by decide +kernel
theorem dX12_workBelow_116 : decode cX12_workBelow 116 = .ok (.iinc 3 1, 3) := by decide +kernel
theorem dX12_workBelow_119 : decode cX12_workBelow 119 = .ok (.goto (-81), 3) := by decide +kernel
theorem dX12_workBelow_122 : decode cX12_workBelow 122 = .ok (.return_, 1) := by decide +kernel
theorem dX12_bindVar_0 : decode cX12_bindVar 0 = .ok (.aload_n 0, 1) := by decide +kernel
theorem dX12_bindVar_1 : decode cX12_bindVar 1 = .ok (.invokevirtual 594, 3) := by decide +kernel
theorem dX12_bindVar_4 : decode cX12_bindVar 4 = .ok (.istore_n 2, 1) := by decide +kernel
theorem dX12_bindVar_5 : decode cX12_bindVar 5 = .ok (.aload_n 0, 1) := by decide +kernel
theorem dX12_bindVar_6 : decode cX12_bindVar 6 = .ok (.iconst 4, 1) := by decide +kernel
theorem dX12_bindVar_7 : decode cX12_bindVar 7 = .ok (.aload_n 0, 1) := by decide +kernel
theorem dX12_bindVar_8 : decode cX12_bindVar 8 = .ok (.getfield 36, 3) := by decide +kernel
theorem dX12_bindVar_11 : decode cX12_bindVar 11 = .ok (.iload_n 1, 1) := by decide +kernel
theorem dX12_bindVar_12 : decode cX12_bindVar 12 = .ok (.iaload, 1) := by decide +kernel
theorem dX12_bindVar_13 : decode cX12_bindVar 13 = .ok (.aload_n 0, 1) := by decide +kernel
theorem dX12_bindVar_14 : decode cX12_bindVar 14 = .ok (.getfield 139, 3) := by decide +kernel
theorem dX12_bindVar_17 : decode cX12_bindVar 17 = .ok (.aload_n 0, 1) := by decide +kernel
theorem dX12_bindVar_18 : decode cX12_bindVar 18 = .ok (.getfield 554, 3) := by decide +kernel
theorem dX12_bindVar_21 : decode cX12_bindVar 21 = .ok (.aload_n 0, 1) := by decide +kernel
theorem dX12_bindVar_22 : decode cX12_bindVar 22 = .ok (.getfield 36, 3) := by decide +kernel
theorem dX12_bindVar_25 : decode cX12_bindVar 25 = .ok (.iload_n 1, 1) := by decide +kernel
theorem dX12_bindVar_26 : decode cX12_bindVar 26 = .ok (.iaload, 1) := by decide +kernel
theorem dX12_bindVar_27 : decode cX12_bindVar 27 = .ok (.iadd, 1) := by decide +kernel
theorem dX12_bindVar_28 : decode cX12_bindVar 28 = .ok (.iaload, 1) := by decide +kernel
theorem dX12_bindVar_29 : decode cX12_bindVar 29 = .ok (.invokevirtual 588, 3) := by decide +kernel
theorem dX12_bindVar_32 : decode cX12_bindVar 32 = .ok (.aload_n 0, 1) := by decide +kernel
theorem dX12_bindVar_33 : decode cX12_bindVar 33 = .ok (.getfield 139, 3) := by decide +kernel
theorem dX12_bindVar_36 : decode cX12_bindVar 36 = .ok (.aload_n 0, 1) := by decide +kernel
theorem dX12_bindVar_37 : decode cX12_bindVar 37 = .ok (.getfield 554, 3) := by decide +kernel
theorem dX12_bindVar_40 : decode cX12_bindVar 40 = .ok (.aload_n 0, 1) := by decide +kernel
theorem dX12_bindVar_41 : decode cX12_bindVar 41 = .ok (.getfield 36, 3) := by decide +kernel
theorem dX12_bindVar_44 : decode cX12_bindVar 44 = .ok (.iload_n 1, 1) := by decide +kernel
theorem dX12_bindVar_45 : decode cX12_bindVar 45 = .ok (.iaload, 1) := by decide +kernel
theorem dX12_bindVar_46 : decode cX12_bindVar 46 = .ok (.iadd, 1) := by decide +kernel
theorem dX12_bindVar_47 : decode cX12_bindVar 47 = .ok (.iload_n 2, 1) := by decide +kernel
theorem dX12_bindVar_48 : decode cX12_bindVar 48 = .ok (.iastore, 1) := by decide +kernel
theorem dX12_bindVar_49 : decode cX12_bindVar 49 = .ok (.aload_n 0, 1) := by decide +kernel
theorem dX12_bindVar_50 : decode cX12_bindVar 50 = .ok (.iconst 0, 1) := by decide +kernel
theorem dX12_bindVar_51 : decode cX12_bindVar 51 = .ok (.aload_n 0, 1) := by decide +kernel
theorem dX12_bindVar_52 : decode cX12_bindVar 52 = .ok (.getfield 42, 3) := by decide +kernel
theorem dX12_bindVar_55 : decode cX12_bindVar 55 = .ok (.iload_n 1, 1) := by decide +kernel
theorem dX12_bindVar_56 : decode cX12_bindVar 56 = .ok (.iconst 1, 1) := by decide +kernel
theorem dX12_bindVar_57 : decode cX12_bindVar 57 = .ok (.iadd, 1) := by decide +kernel
theorem dX12_bindVar_58 : decode cX12_bindVar 58 = .ok (.iaload, 1) := by decide +kernel
theorem dX12_bindVar_59 : decode cX12_bindVar 59 = .ok (.iconst 0, 1) := by decide +kernel
theorem dX12_bindVar_60 : decode cX12_bindVar 60 = .ok (.invokevirtual 588, 3) := by decide +kernel
theorem dX12_bindVar_63 : decode cX12_bindVar 63 = .ok (.return_, 1) := by decide +kernel
theorem dX12_choose_0 : decode cX12_choose 0 = .ok (.aload_n 0, 1) := by decide +kernel
theorem dX12_choose_1 : decode cX12_choose 1 = .ok (.aload_n 0, 1) := by decide +kernel
theorem dX12_choose_2 : decode cX12_choose 2 = .ok (.invokevirtual 594, 3) := by decide +kernel
theorem dX12_choose_5 : decode cX12_choose 5 = .ok (.invokevirtual 597, 3) := by decide +kernel
theorem dX12_choose_8 : decode cX12_choose 8 = .ok (.istore_n 2, 1) := by decide +kernel
theorem dX12_choose_9 : decode cX12_choose 9 = .ok (.aload_n 0, 1) := by decide +kernel
theorem dX12_choose_10 : decode cX12_choose 10 = .ok (.getfield 42, 3) := by decide +kernel
theorem dX12_choose_13 : decode cX12_choose 13 = .ok (.iload_n 1, 1) := by decide +kernel
theorem dX12_choose_14 : decode cX12_choose 14 = .ok (.iconst 1, 1) := by decide +kernel
theorem dX12_choose_15 : decode cX12_choose 15 = .ok (.iadd, 1) := by decide +kernel
theorem dX12_choose_16 : decode cX12_choose 16 = .ok (.iaload, 1) := by decide +kernel
theorem dX12_choose_17 : decode cX12_choose 17 = .ok (.istore_n 3, 1) := by decide +kernel
theorem dX12_choose_18 : decode cX12_choose 18 = .ok (.aload_n 0, 1) := by decide +kernel
theorem dX12_choose_19 : decode cX12_choose 19 = .ok (.iload_n 2, 1) := by decide +kernel
theorem dX12_choose_20 : decode cX12_choose 20 = .ok (.invokevirtual 600, 3) := by decide +kernel
theorem dX12_choose_23 : decode cX12_choose 23 = .ok (.ifCond .eq 38, 3) := by decide +kernel
theorem dX12_choose_26 : decode cX12_choose 26 = .ok (.aload_n 0, 1) := by decide +kernel
theorem dX12_choose_27 : decode cX12_choose 27 = .ok (.iconst 0, 1) := by decide +kernel
theorem dX12_choose_28 : decode cX12_choose 28 = .ok (.aload_n 0, 1) := by decide +kernel
theorem dX12_choose_29 : decode cX12_choose 29 = .ok (.getfield 106, 3) := by decide +kernel
theorem dX12_choose_32 : decode cX12_choose 32 = .ok (.iload_n 2, 1) := by decide +kernel
theorem dX12_choose_33 : decode cX12_choose 33 = .ok (.iaload, 1) := by decide +kernel
theorem dX12_choose_34 : decode cX12_choose 34 = .ok (.aload_n 0, 1) := by decide +kernel
theorem dX12_choose_35 : decode cX12_choose 35 = .ok (.getfield 109, 3) := by decide +kernel
theorem dX12_choose_38 : decode cX12_choose 38 = .ok (.iload_n 2, 1) := by decide +kernel
theorem dX12_choose_39 : decode cX12_choose 39 = .ok (.iaload, 1) := by decide +kernel
theorem dX12_choose_40 : decode cX12_choose 40 = .ok (.invokestatic 603, 3) := by decide +kernel
theorem dX12_choose_43 : decode cX12_choose 43 = .ok (.ifCond .eq 7, 3) := by decide +kernel
theorem dX12_choose_46 : decode cX12_choose 46 = .ok (.iload_n 3, 1) := by decide +kernel
theorem dX12_choose_47 : decode cX12_choose 47 = .ok (.goto 9, 3) := by decide +kernel
theorem dX12_choose_50 : decode cX12_choose 50 = .ok (.aload_n 0, 1) := by decide +kernel
theorem dX12_choose_51 : decode cX12_choose 51 = .ok (.getfield 42, 3) := by decide +kernel
theorem dX12_choose_54 : decode cX12_choose 54 = .ok (.iload_n 3, 1) := by decide +kernel
theorem dX12_choose_55 : decode cX12_choose 55 = .ok (.iaload, 1) := by decide +kernel
theorem dX12_choose_56 : decode cX12_choose 56 = .ok (.iconst 0, 1) := by decide +kernel
theorem dX12_choose_57 : decode cX12_choose 57 = .ok (.invokevirtual 588, 3) := by decide +kernel
theorem dX12_choose_60 : decode cX12_choose 60 = .ok (.return_, 1) := by decide +kernel
theorem dX12_choose_61 : decode cX12_choose 61 = .ok (.aload_n 0, 1) := by decide +kernel
theorem dX12_choose_62 : decode cX12_choose 62 = .ok (.bipush 6, 2) := by decide +kernel
theorem dX12_choose_64 : decode cX12_choose 64 = .ok (.invokevirtual 606, 3) := by decide +kernel
theorem dX12_choose_67 : decode cX12_choose 67 = .ok (.istore 4, 2) := by decide +kernel
theorem dX12_choose_69 : decode cX12_choose 69 = .ok (.aload_n 0, 1) := by decide +kernel
theorem dX12_choose_70 : decode cX12_choose 70 = .ok (.iload 4, 2) := by decide +kernel
theorem dX12_choose_72 : decode cX12_choose 72 = .ok (.iload_n 2, 1) := by decide +kernel
theorem dX12_choose_73 : decode cX12_choose 73 = .ok (.invokevirtual 609, 3) := by decide +kernel
theorem dX12_choose_76 : decode cX12_choose 76 = .ok (.aload_n 0, 1) := by decide +kernel
theorem dX12_choose_77 : decode cX12_choose 77 = .ok (.dup, 1) := by decide +kernel
theorem dX12_choose_78 : decode cX12_choose 78 = .ok (.getfield 612, 3) := by decide +kernel
theorem dX12_choose_81 : decode cX12_choose 81 = .ok (.iconst 1, 1) := by decide +kernel
theorem dX12_choose_82 : decode cX12_choose 82 = .ok (.iadd, 1) := by decide +kernel
theorem dX12_choose_83 : decode cX12_choose 83 = .ok (.putfield 612, 3) := by decide +kernel
theorem dX12_choose_86 : decode cX12_choose 86 = .ok (.aload_n 0, 1) := by decide +kernel
theorem dX12_choose_87 : decode cX12_choose 87 = .ok (.bipush 6, 2) := by decide +kernel
theorem dX12_choose_89 : decode cX12_choose 89 = .ok (.iload 4, 2) := by decide +kernel
theorem dX12_choose_91 : decode cX12_choose 91 = .ok (.aload_n 0, 1) := by decide +kernel
theorem dX12_choose_92 : decode cX12_choose 92 = .ok (.getfield 42, 3) := by decide +kernel
theorem dX12_choose_95 : decode cX12_choose 95 = .ok (.iload_n 3, 1) := by decide +kernel
theorem dX12_choose_96 : decode cX12_choose 96 = .ok (.iaload, 1) := by decide +kernel
theorem dX12_choose_97 : decode cX12_choose 97 = .ok (.invokevirtual 588, 3) := by decide +kernel
theorem dX12_choose_100 : decode cX12_choose 100 = .ok (.aload_n 0, 1) := by decide +kernel
theorem dX12_choose_101 : decode cX12_choose 101 = .ok (.iconst 0, 1) := by decide +kernel
theorem dX12_choose_102 : decode cX12_choose 102 = .ok (.iload_n 3, 1) := by decide +kernel
theorem dX12_choose_103 : decode cX12_choose 103 = .ok (.iconst 0, 1) := by decide +kernel
theorem dX12_choose_104 : decode cX12_choose 104 = .ok (.invokevirtual 588, 3) := by decide +kernel
theorem dX12_choose_107 : decode cX12_choose 107 = .ok (.return_, 1) := by decide +kernel
theorem dX12_doThing_0 : decode cX12_doThing 0 = .ok (.aload_n 0, 1) := by decide +kernel
theorem dX12_doThing_1 : decode cX12_doThing 1 = .ok (.getfield 33, 3) := by decide +kernel
theorem dX12_doThing_4 : decode cX12_doThing 4 = .ok (.iload_n 1, 1) := by decide +kernel
theorem dX12_doThing_5 : decode cX12_doThing 5 = .ok (.iaload, 1) := by decide +kernel
theorem dX12_doThing_6 : decode cX12_doThing 6 = .ok (.tableswitch 116 2 10 #[76, 116, 116, 50, 63, 116, 83, 90, 103], 50) := by decide +kernel
theorem dX12_doThing_56 : decode cX12_doThing 56 = .ok (.aload_n 0, 1) := by decide +kernel
theorem dX12_doThing_57 : decode cX12_doThing 57 = .ok (.aload_n 0, 1) := by decide +kernel
theorem dX12_doThing_58 : decode cX12_doThing 58 = .ok (.getfield 36, 3) := by decide +kernel
theorem dX12_doThing_61 : decode cX12_doThing 61 = .ok (.iload_n 1, 1) := by decide +kernel
theorem dX12_doThing_62 : decode cX12_doThing 62 = .ok (.iaload, 1) := by decide +kernel
theorem dX12_doThing_63 : decode cX12_doThing 63 = .ok (.invokevirtual 615, 3) := by decide +kernel
theorem dX12_doThing_66 : decode cX12_doThing 66 = .ok (.goto 72, 3) := by decide +kernel
theorem dX12_doThing_69 : decode cX12_doThing 69 = .ok (.aload_n 0, 1) := by decide +kernel
theorem dX12_doThing_70 : decode cX12_doThing 70 = .ok (.aload_n 0, 1) := by decide +kernel
theorem dX12_doThing_71 : decode cX12_doThing 71 = .ok (.getfield 36, 3) := by decide +kernel
theorem dX12_doThing_74 : decode cX12_doThing 74 = .ok (.iload_n 1, 1) := by decide +kernel
theorem dX12_doThing_75 : decode cX12_doThing 75 = .ok (.iaload, 1) := by decide +kernel
theorem dX12_doThing_76 : decode cX12_doThing 76 = .ok (.invokevirtual 618, 3) := by decide +kernel
theorem dX12_doThing_79 : decode cX12_doThing 79 = .ok (.goto 59, 3) := by decide +kernel
theorem dX12_doThing_82 : decode cX12_doThing 82 = .ok (.aload_n 0, 1) := by decide +kernel
theorem dX12_doThing_83 : decode cX12_doThing 83 = .ok (.invokevirtual 621, 3) := by decide +kernel
theorem dX12_doThing_86 : decode cX12_doThing 86 = .ok (.goto 52, 3) := by decide +kernel
theorem dX12_doThing_89 : decode cX12_doThing 89 = .ok (.aload_n 0, 1) := by decide +kernel
theorem dX12_doThing_90 : decode cX12_doThing 90 = .ok (.invokevirtual 624, 3) := by decide +kernel
theorem dX12_doThing_93 : decode cX12_doThing 93 = .ok (.goto 45, 3) := by decide +kernel
theorem dX12_doThing_96 : decode cX12_doThing 96 = .ok (.aload_n 0, 1) := by decide +kernel
theorem dX12_doThing_97 : decode cX12_doThing 97 = .ok (.aload_n 0, 1) := by decide +kernel
theorem dX12_doThing_98 : decode cX12_doThing 98 = .ok (.getfield 36, 3) := by decide +kernel
theorem dX12_doThing_101 : decode cX12_doThing 101 = .ok (.iload_n 1, 1) := by decide +kernel
theorem dX12_doThing_102 : decode cX12_doThing 102 = .ok (.iaload, 1) := by decide +kernel
theorem dX12_doThing_103 : decode cX12_doThing 103 = .ok (.invokevirtual 627, 3) := by decide +kernel
theorem dX12_doThing_106 : decode cX12_doThing 106 = .ok (.goto 32, 3) := by decide +kernel
theorem dX12_doThing_109 : decode cX12_doThing 109 = .ok (.aload_n 0, 1) := by decide +kernel
theorem dX12_doThing_110 : decode cX12_doThing 110 = .ok (.aload_n 0, 1) := by decide +kernel
theorem dX12_doThing_111 : decode cX12_doThing 111 = .ok (.getfield 36, 3) := by decide +kernel
theorem dX12_doThing_114 : decode cX12_doThing 114 = .ok (.iload_n 1, 1) := by decide +kernel
theorem dX12_doThing_115 : decode cX12_doThing 115 = .ok (.iaload, 1) := by decide +kernel
theorem dX12_doThing_116 : decode cX12_doThing 116 = .ok (.invokevirtual 630, 3) := by decide +kernel
theorem dX12_doThing_119 : decode cX12_doThing 119 = .ok (.goto 19, 3) := by decide +kernel
theorem dX12_doThing_122 : decode cX12_doThing 122 = .ok (.aload_n 0, 1) := by decide +kernel
theorem dX12_doThing_123 : decode cX12_doThing 123 = .ok (.aload_n 0, 1) := by decide +kernel
theorem dX12_doThing_124 : decode cX12_doThing 124 = .ok (.getfield 36, 3) := by decide +kernel
theorem dX12_doThing_127 : decode cX12_doThing 127 = .ok (.iload_n 1, 1) := by decide +kernel
theorem dX12_doThing_128 : decode cX12_doThing 128 = .ok (.iaload, 1) := by decide +kernel
theorem dX12_doThing_129 : decode cX12_doThing 129 = .ok (.aload_n 0, 1) := by decide +kernel
theorem dX12_doThing_130 : decode cX12_doThing 130 = .ok (.getfield 39, 3) := by decide +kernel
theorem dX12_doThing_133 : decode cX12_doThing 133 = .ok (.iload_n 1, 1) := by decide +kernel
theorem dX12_doThing_134 : decode cX12_doThing 134 = .ok (.iaload, 1) := by decide +kernel
theorem dX12_doThing_135 : decode cX12_doThing 135 = .ok (.invokevirtual 633, 3) := by decide +kernel
theorem dX12_doThing_138 : decode cX12_doThing 138 = .ok (.return_, 1) := by decide +kernel
theorem dX12_doSign_0 : decode cX12_doSign 0 = .ok (.aload_n 0, 1) := by decide +kernel
theorem dX12_doSign_1 : decode cX12_doSign 1 = .ok (.aload_n 0, 1) := by decide +kernel
theorem dX12_doSign_2 : decode cX12_doSign 2 = .ok (.invokevirtual 594, 3) := by decide +kernel
theorem dX12_doSign_5 : decode cX12_doSign 5 = .ok (.invokevirtual 597, 3) := by decide +kernel
theorem dX12_doSign_8 : decode cX12_doSign 8 = .ok (.istore_n 2, 1) := by decide +kernel
theorem dX12_doSign_9 : decode cX12_doSign 9 = .ok (.aload_n 0, 1) := by decide +kernel
theorem dX12_doSign_10 : decode cX12_doSign 10 = .ok (.aload_n 0, 1) := by decide +kernel
theorem dX12_doSign_11 : decode cX12_doSign 11 = .ok (.invokevirtual 594, 3) := by decide +kernel
theorem dX12_doSign_14 : decode cX12_doSign 14 = .ok (.invokevirtual 597, 3) := by decide +kernel
theorem dX12_doSign_17 : decode cX12_doSign 17 = .ok (.istore_n 3, 1) := by decide +kernel
theorem dX12_doSign_18 : decode cX12_doSign 18 = .ok (.aload_n 0, 1) := by decide +kernel
theorem dX12_doSign_19 : decode cX12_doSign 19 = .ok (.iload_n 3, 1) := by decide +kernel
theorem dX12_doSign_20 : decode cX12_doSign 20 = .ok (.invokevirtual 600, 3) := by decide +kernel
theorem dX12_doSign_23 : decode cX12_doSign 23 = .ok (.ifCond .eq 49, 3) := by decide +kernel
theorem dX12_doSign_26 : decode cX12_doSign 26 = .ok (.aload_n 0, 1) := by decide +kernel
theorem dX12_doSign_27 : decode cX12_doSign 27 = .ok (.iload_n 2, 1) := by decide +kernel
theorem dX12_doSign_28 : decode cX12_doSign 28 = .ok (.invokevirtual 600, 3) := by decide +kernel
theorem dX12_doSign_31 : decode cX12_doSign 31 = .ok (.ifCond .eq 41, 3) := by decide +kernel
theorem dX12_doSign_34 : decode cX12_doSign 34 = .ok (.aload_n 0, 1) := by decide +kernel
theorem dX12_doSign_35 : decode cX12_doSign 35 = .ok (.iload_n 1, 1) := by decide +kernel
theorem dX12_doSign_36 : decode cX12_doSign 36 = .ok (.aload_n 0, 1) := by decide +kernel
theorem dX12_doSign_37 : decode cX12_doSign 37 = .ok (.getfield 106, 3) := by decide +kernel
theorem dX12_doSign_40 : decode cX12_doSign 40 = .ok (.iload_n 3, 1) := by decide +kernel
theorem dX12_doSign_41 : decode cX12_doSign 41 = .ok (.iaload, 1) := by decide +kernel
theorem dX12_doSign_42 : decode cX12_doSign 42 = .ok (.aload_n 0, 1) := by decide +kernel
theorem dX12_doSign_43 : decode cX12_doSign 43 = .ok (.getfield 109, 3) := by decide +kernel
theorem dX12_doSign_46 : decode cX12_doSign 46 = .ok (.iload_n 3, 1) := by decide +kernel
theorem dX12_doSign_47 : decode cX12_doSign 47 = .ok (.iaload, 1) := by decide +kernel
theorem dX12_doSign_48 : decode cX12_doSign 48 = .ok (.aload_n 0, 1) := by decide +kernel
theorem dX12_doSign_49 : decode cX12_doSign 49 = .ok (.getfield 106, 3) := by decide +kernel
theorem dX12_doSign_52 : decode cX12_doSign 52 = .ok (.iload_n 2, 1) := by decide +kernel
theorem dX12_doSign_53 : decode cX12_doSign 53 = .ok (.iaload, 1) := by decide +kernel
theorem dX12_doSign_54 : decode cX12_doSign 54 = .ok (.aload_n 0, 1) := by decide +kernel
theorem dX12_doSign_55 : decode cX12_doSign 55 = .ok (.getfield 109, 3) := by decide +kernel
theorem dX12_doSign_58 : decode cX12_doSign 58 = .ok (.iload_n 2, 1) := by decide +kernel
theorem dX12_doSign_59 : decode cX12_doSign 59 = .ok (.iaload, 1) := by decide +kernel
theorem dX12_doSign_60 : decode cX12_doSign 60 = .ok (.invokevirtual 348, 3) := by decide +kernel
theorem dX12_doSign_63 : decode cX12_doSign 63 = .ok (.aload_n 0, 1) := by decide +kernel
theorem dX12_doSign_64 : decode cX12_doSign 64 = .ok (.aload_n 0, 1) := by decide +kernel
theorem dX12_doSign_65 : decode cX12_doSign 65 = .ok (.invokevirtual 636, 3) := by decide +kernel
theorem dX12_doSign_68 : decode cX12_doSign 68 = .ok (.invokevirtual 585, 3) := by decide +kernel
theorem dX12_doSign_71 : decode cX12_doSign 71 = .ok (.return_, 1) := by decide +kernel
theorem dX12_doSign_72 : decode cX12_doSign 72 = .ok (.aload_n 0, 1) := by decide +kernel
theorem dX12_doSign_73 : decode cX12_doSign 73 = .ok (.iconst 0, 1) := by decide +kernel
theorem dX12_doSign_74 : decode cX12_doSign 74 = .ok (.iconst 1, 1) := by decide +kernel
theorem dX12_doSign_75 : decode cX12_doSign 75 = .ok (.invokevirtual 639, 3) := by decide +kernel
theorem dX12_doSign_78 : decode cX12_doSign 78 = .ok (.istore 4, 2) := by decide +kernel
theorem dX12_doSign_80 : decode cX12_doSign 80 = .ok (.aload_n 0, 1) := by decide +kernel
theorem dX12_doSign_81 : decode cX12_doSign 81 = .ok (.getfield 557, 3) := by decide +kernel
theorem dX12_doSign_84 : decode cX12_doSign 84 = .ok (.ifCond .eq 4, 3) := by decide +kernel
theorem dX12_doSign_87 : decode cX12_doSign 87 = .ok (.return_, 1) := by decide +kernel
theorem dX12_doSign_88 : decode cX12_doSign 88 = .ok (.aload_n 0, 1) := by decide +kernel
theorem dX12_doSign_89 : decode cX12_doSign 89 = .ok (.getfield 160, 3) := by decide +kernel
theorem dX12_doSign_92 : decode cX12_doSign 92 = .ok (.iload 4, 2) := by decide +kernel
theorem dX12_doSign_94 : decode cX12_doSign 94 = .ok (.iload_n 1, 1) := by decide +kernel
theorem dX12_doSign_95 : decode cX12_doSign 95 = .ok (.iastore, 1) := by decide +kernel
theorem dX12_doSign_96 : decode cX12_doSign 96 = .ok (.aload_n 0, 1) := by decide +kernel
theorem dX12_doSign_97 : decode cX12_doSign 97 = .ok (.iload 4, 2) := by decide +kernel
theorem dX12_doSign_99 : decode cX12_doSign 99 = .ok (.iload_n 3, 1) := by decide +kernel
theorem dX12_doSign_100 : decode cX12_doSign 100 = .ok (.invokevirtual 609, 3) := by decide +kernel
theorem dX12_doSign_103 : decode cX12_doSign 103 = .ok (.aload_n 0, 1) := by decide +kernel
theorem dX12_doSign_104 : decode cX12_doSign 104 = .ok (.iload 4, 2) := by decide +kernel
theorem dX12_doSign_106 : decode cX12_doSign 106 = .ok (.iload_n 2, 1) := by decide +kernel
theorem dX12_doSign_107 : decode cX12_doSign 107 = .ok (.invokevirtual 609, 3) := by decide +kernel
theorem dX12_doSign_110 : decode cX12_doSign 110 = .ok (.aload_n 0, 1) := by decide +kernel
theorem dX12_doSign_111 : decode cX12_doSign 111 = .ok (.aload_n 0, 1) := by decide +kernel
theorem dX12_doSign_112 : decode cX12_doSign 112 = .ok (.iload 4, 2) := by decide +kernel
theorem dX12_doSign_114 : decode cX12_doSign 114 = .ok (.invokevirtual 643, 3) := by decide +kernel
theorem dX12_doSign_117 : decode cX12_doSign 117 = .ok (.invokevirtual 585, 3) := by decide +kernel
theorem dX12_doSign_120 : decode cX12_doSign 120 = .ok (.return_, 1) := by decide +kernel
theorem dX12_doOne_0 : decode cX12_doOne 0 = .ok (.aload_n 0, 1) := by decide +kernel
theorem dX12_doOne_1 : decode cX12_doOne 1 = .ok (.invokevirtual 594, 3) := by decide +kernel
theorem dX12_doOne_4 : decode cX12_doOne 4 = .ok (.istore_n 2, 1) := by decide +kernel
theorem dX12_doOne_5 : decode cX12_doOne 5 = .ok (.iload_n 1, 1) := by decide +kernel
theorem dX12_doOne_6 : decode cX12_doOne 6 = .ok (.iconst 2, 1) := by decide +kernel
theorem dX12_doOne_7 : decode cX12_doOne 7 = .ok (.if_icmp .le 38, 3) := by decide +kernel
theorem dX12_doOne_10 : decode cX12_doOne 10 = .ok (.aload_n 0, 1) := by decide +kernel
theorem dX12_doOne_11 : decode cX12_doOne 11 = .ok (.getfield 106, 3) := by decide +kernel
theorem dX12_doOne_14 : decode cX12_doOne 14 = .ok (.iload_n 2, 1) := by decide +kernel
theorem dX12_doOne_15 : decode cX12_doOne 15 = .ok (.iaload, 1) := by decide +kernel
theorem dX12_doOne_16 : decode cX12_doOne 16 = .ok (.iconst 2, 1) := by decide +kernel
theorem dX12_doOne_17 : decode cX12_doOne 17 = .ok (.if_icmp .ne 28, 3) := by decide +kernel
theorem dX12_doOne_20 : decode cX12_doOne 20 = .ok (.aload_n 0, 1) := by decide +kernel
theorem dX12_doOne_21 : decode cX12_doOne 21 = .ok (.iload_n 1, 1) := by decide +kernel
theorem dX12_doOne_22 : decode cX12_doOne 22 = .ok (.iconst 3, 1) := by decide +kernel
theorem dX12_doOne_23 : decode cX12_doOne 23 = .ok (.if_icmp .ne 12, 3) := by decide +kernel
theorem dX12_doOne_26 : decode cX12_doOne 26 = .ok (.aload_n 0, 1) := by decide +kernel
theorem dX12_doOne_27 : decode cX12_doOne 27 = .ok (.getfield 109, 3) := by decide +kernel
theorem dX12_doOne_30 : decode cX12_doOne 30 = .ok (.iload_n 2, 1) := by decide +kernel
theorem dX12_doOne_31 : decode cX12_doOne 31 = .ok (.iaload, 1) := by decide +kernel
theorem dX12_doOne_32 : decode cX12_doOne 32 = .ok (.goto 9, 3) := by decide +kernel
theorem dX12_doOne_35 : decode cX12_doOne 35 = .ok (.aload_n 0, 1) := by decide +kernel
theorem dX12_doOne_36 : decode cX12_doOne 36 = .ok (.getfield 112, 3) := by decide +kernel
theorem dX12_doOne_39 : decode cX12_doOne 39 = .ok (.iload_n 2, 1) := by decide +kernel
theorem dX12_doOne_40 : decode cX12_doOne 40 = .ok (.iaload, 1) := by decide +kernel
theorem dX12_doOne_41 : decode cX12_doOne 41 = .ok (.invokevirtual 585, 3) := by decide +kernel
theorem dX12_doOne_44 : decode cX12_doOne 44 = .ok (.return_, 1) := by decide +kernel
theorem dX12_doOne_45 : decode cX12_doOne 45 = .ok (.iload_n 1, 1) := by decide +kernel
theorem dX12_doOne_46 : decode cX12_doOne 46 = .ok (.iconst 3, 1) := by decide +kernel
theorem dX12_doOne_47 : decode cX12_doOne 47 = .ok (.if_icmp .ge 9, 3) := by decide +kernel
theorem dX12_doOne_50 : decode cX12_doOne 50 = .ok (.aload_n 0, 1) := by decide +kernel
theorem dX12_doOne_51 : decode cX12_doOne 51 = .ok (.iload_n 2, 1) := by decide +kernel
theorem dX12_doOne_52 : decode cX12_doOne 52 = .ok (.invokevirtual 597, 3) := by decide +kernel
theorem dX12_doOne_55 : decode cX12_doOne 55 = .ok (.istore_n 2, 1) := by decide +kernel
theorem dX12_doOne_56 : decode cX12_doOne 56 = .ok (.aload_n 0, 1) := by decide +kernel
theorem dX12_doOne_57 : decode cX12_doOne 57 = .ok (.iload_n 2, 1) := by decide +kernel
theorem dX12_doOne_58 : decode cX12_doOne 58 = .ok (.invokevirtual 600, 3) := by decide +kernel
theorem dX12_doOne_61 : decode cX12_doOne 61 = .ok (.ifCond .ne 38, 3) := by decide +kernel
theorem dX12_doOne_64 : decode cX12_doOne 64 = .ok (.aload_n 0, 1) := by decide +kernel
theorem dX12_doOne_65 : decode cX12_doOne 65 = .ok (.iconst 1, 1) := by decide +kernel
theorem dX12_doOne_66 : decode cX12_doOne 66 = .ok (.iload_n 1, 1) := by decide +kernel
theorem dX12_doOne_67 : decode cX12_doOne 67 = .ok (.iadd, 1) := by decide +kernel
theorem dX12_doOne_68 : decode cX12_doOne 68 = .ok (.iconst 1, 1) := by decide +kernel
theorem dX12_doOne_69 : decode cX12_doOne 69 = .ok (.invokevirtual 639, 3) := by decide +kernel
theorem dX12_doOne_72 : decode cX12_doOne 72 = .ok (.istore_n 3, 1) := by decide +kernel
theorem dX12_doOne_73 : decode cX12_doOne 73 = .ok (.aload_n 0, 1) := by decide +kernel
theorem dX12_doOne_74 : decode cX12_doOne 74 = .ok (.getfield 557, 3) := by decide +kernel
theorem dX12_doOne_77 : decode cX12_doOne 77 = .ok (.ifCond .eq 4, 3) := by decide +kernel
theorem dX12_doOne_80 : decode cX12_doOne 80 = .ok (.return_, 1) := by decide +kernel
theorem dX12_doOne_81 : decode cX12_doOne 81 = .ok (.aload_n 0, 1) := by decide +kernel
theorem dX12_doOne_82 : decode cX12_doOne 82 = .ok (.iload_n 3, 1) := by decide +kernel
theorem dX12_doOne_83 : decode cX12_doOne 83 = .ok (.iload_n 2, 1) := by decide +kernel
theorem dX12_doOne_84 : decode cX12_doOne 84 = .ok (.invokevirtual 609, 3) := by decide +kernel
theorem dX12_doOne_87 : decode cX12_doOne 87 = .ok (.aload_n 0, 1) := by decide +kernel
theorem dX12_doOne_88 : decode cX12_doOne 88 = .ok (.aload_n 0, 1) := by decide +kernel
theorem dX12_doOne_89 : decode cX12_doOne 89 = .ok (.iload_n 3, 1) := by decide +kernel
theorem dX12_doOne_90 : decode cX12_doOne 90 = .ok (.invokevirtual 643, 3) := by decide +kernel
theorem dX12_doOne_93 : decode cX12_doOne 93 = .ok (.invokevirtual 585, 3) := by decide +kernel
theorem dX12_doOne_96 : decode cX12_doOne 96 = .ok (.goto 59, 3) := by decide +kernel
theorem dX12_doOne_99 : decode cX12_doOne 99 = .ok (.iload_n 1, 1) := by decide +kernel
theorem dX12_doOne_100 : decode cX12_doOne 100 = .ok (.iconst 3, 1) := by decide +kernel
theorem dX12_doOne_101 : decode cX12_doOne 101 = .ok (.if_icmp .ne 11, 3) := by decide +kernel
theorem dX12_doOne_104 : decode cX12_doOne 104 = .ok (.aload_n 0, 1) := by decide +kernel
theorem dX12_doOne_105 : decode cX12_doOne 105 = .ok (.iload_n 2, 1) := by decide +kernel
theorem dX12_doOne_106 : decode cX12_doOne 106 = .ok (.invokevirtual 585, 3) := by decide +kernel
theorem dX12_doOne_109 : decode cX12_doOne 109 = .ok (.goto 46, 3) := by decide +kernel
theorem dX12_doOne_112 : decode cX12_doOne 112 = .ok (.iload_n 1, 1) := by decide +kernel
theorem dX12_doOne_113 : decode cX12_doOne 113 = .ok (.iconst 4, 1) := by decide +kernel
theorem dX12_doOne_114 : decode cX12_doOne 114 = .ok (.if_icmp .ne 16, 3) := by decide +kernel
theorem dX12_doOne_117 : decode cX12_doOne 117 = .ok (.aload_n 0, 1) := by decide +kernel
theorem dX12_doOne_118 : decode cX12_doOne 118 = .ok (.aload_n 0, 1) := by decide +kernel
theorem dX12_doOne_119 : decode cX12_doOne 119 = .ok (.iconst 0, 1) := by decide +kernel
theorem dX12_doOne_120 : decode cX12_doOne 120 = .ok (.iconst 0, 1) := by decide +kernel
theorem dX12_doOne_121 : decode cX12_doOne 121 = .ok (.invokevirtual 527, 3) := by decide +kernel
theorem dX12_doOne_124 : decode cX12_doOne 124 = .ok (.invokevirtual 585, 3) := by decide +kernel
theorem dX12_doOne_127 : decode cX12_doOne 127 = .ok (.goto 28, 3) := by decide +kernel
theorem dX12_doOne_130 : decode cX12_doOne 130 = .ok (.aload_n 0, 1) := by decide +kernel
theorem dX12_doOne_131 : decode cX12_doOne 131 = .ok (.iload_n 1, 1) := by decide +kernel
theorem dX12_doOne_132 : decode cX12_doOne 132 = .ok (.aload_n 0, 1) := by decide +kernel
theorem dX12_doOne_133 : decode cX12_doOne 133 = .ok (.getfield 106, 3) := by decide +kernel
theorem dX12_doOne_136 : decode cX12_doOne 136 = .ok (.iload_n 2, 1) := by decide +kernel
theorem dX12_doOne_137 : decode cX12_doOne 137 = .ok (.iaload, 1) := by decide +kernel
theorem dX12_doOne_138 : decode cX12_doOne 138 = .ok (.aload_n 0, 1) := by decide +kernel
theorem dX12_doOne_139 : decode cX12_doOne 139 = .ok (.getfield 109, 3) := by decide +kernel
theorem dX12_doOne_142 : decode cX12_doOne 142 = .ok (.iload_n 2, 1) := by decide +kernel
theorem dX12_doOne_143 : decode cX12_doOne 143 = .ok (.iaload, 1) := by decide +kernel
theorem dX12_doOne_144 : decode cX12_doOne 144 = .ok (.invokevirtual 646, 3) := by decide +kernel
theorem dX12_doOne_147 : decode cX12_doOne 147 = .ok (.aload_n 0, 1) := by decide +kernel
theorem dX12_doOne_148 : decode cX12_doOne 148 = .ok (.aload_n 0, 1) := by decide +kernel
theorem dX12_doOne_149 : decode cX12_doOne 149 = .ok (.invokevirtual 636, 3) := by decide +kernel
theorem dX12_doOne_152 : decode cX12_doOne 152 = .ok (.invokevirtual 585, 3) := by decide +kernel
theorem dX12_doOne_155 : decode cX12_doOne 155 = .ok (.return_, 1) := by decide +kernel
theorem dX12_doPair_0 : decode cX12_doPair 0 = .ok (.aload_n 0, 1) := by decide +kernel
theorem dX12_doPair_1 : decode cX12_doPair 1 = .ok (.invokevirtual 594, 3) := by decide +kernel
theorem dX12_doPair_4 : decode cX12_doPair 4 = .ok (.istore_n 1, 1) := by decide +kernel
theorem dX12_doPair_5 : decode cX12_doPair 5 = .ok (.aload_n 0, 1) := by decide +kernel
theorem dX12_doPair_6 : decode cX12_doPair 6 = .ok (.invokevirtual 594, 3) := by decide +kernel
theorem dX12_doPair_9 : decode cX12_doPair 9 = .ok (.istore_n 2, 1) := by decide +kernel
theorem dX12_doPair_10 : decode cX12_doPair 10 = .ok (.aload_n 0, 1) := by decide +kernel
theorem dX12_doPair_11 : decode cX12_doPair 11 = .ok (.iload_n 2, 1) := by decide +kernel
theorem dX12_doPair_12 : decode cX12_doPair 12 = .ok (.iload_n 1, 1) := by decide +kernel
theorem dX12_doPair_13 : decode cX12_doPair 13 = .ok (.invokevirtual 539, 3) := by decide +kernel
theorem dX12_doPair_16 : decode cX12_doPair 16 = .ok (.istore_n 3, 1) := by decide +kernel
theorem dX12_doPair_17 : decode cX12_doPair 17 = .ok (.aload_n 0, 1) := by decide +kernel
theorem dX12_doPair_18 : decode cX12_doPair 18 = .ok (.getfield 115, 3) := by decide +kernel
theorem dX12_doPair_21 : decode cX12_doPair 21 = .ok (.iload_n 3, 1) := by decide +kernel
theorem dX12_doPair_22 : decode cX12_doPair 22 = .ok (.iaload, 1) := by decide +kernel
theorem dX12_doPair_23 : decode cX12_doPair 23 = .ok (.bipush 40, 2) := by decide +kernel
theorem dX12_doPair_25 : decode cX12_doPair 25 = .ok (.if_icmp .le 20, 3) := by decide +kernel
theorem dX12_doPair_28 : decode cX12_doPair 28 = .ok (.aload_n 0, 1) := by decide +kernel
theorem dX12_doPair_29 : decode cX12_doPair 29 = .ok (.aload_n 0, 1) := by decide +kernel
theorem dX12_doPair_30 : decode cX12_doPair 30 = .ok (.getfield 551, 3) := by decide +kernel
theorem dX12_doPair_33 : decode cX12_doPair 33 = .ok (.ifCond .eq 8, 3) := by decide +kernel
theorem dX12_doPair_36 : decode cX12_doPair 36 = .ok (.bipush (-5), 2) := by decide +kernel
theorem dX12_doPair_38 : decode cX12_doPair 38 = .ok (.goto 4, 3) := by decide +kernel
theorem dX12_doPair_41 : decode cX12_doPair 41 = .ok (.iconst 2, 1) := by decide +kernel
theorem dX12_doPair_42 : decode cX12_doPair 42 = .ok (.putfield 557, 3) := by decide +kernel
theorem dX12_doPair_45 : decode cX12_doPair 45 = .ok (.aload_n 0, 1) := by decide +kernel
theorem dX12_doPair_46 : decode cX12_doPair 46 = .ok (.iload_n 3, 1) := by decide +kernel
theorem dX12_doPair_47 : decode cX12_doPair 47 = .ok (.invokevirtual 585, 3) := by decide +kernel
theorem dX12_doPair_50 : decode cX12_doPair 50 = .ok (.return_, 1) := by decide +kernel
theorem dX12_show_0 : decode cX12_show 0 = .ok (.aload_n 0, 1) := by decide +kernel
theorem dX12_show_1 : decode cX12_show 1 = .ok (.getfield 649, 3) := by decide +kernel
theorem dX12_show_4 : decode cX12_show 4 = .ok (.bipush 60, 2) := by decide +kernel
theorem dX12_show_6 : decode cX12_show 6 = .ok (.if_icmp .ge 33, 3) := by decide +kernel
theorem dX12_show_9 : decode cX12_show 9 = .ok (.aload_n 0, 1) := by decide +kernel
theorem dX12_show_10 : decode cX12_show 10 = .ok (.getfield 145, 3) := by decide +kernel
theorem dX12_show_13 : decode cX12_show 13 = .ok (.aload_n 0, 1) := by decide +kernel
theorem dX12_show_14 : decode cX12_show 14 = .ok (.getfield 649, 3) := by decide +kernel
theorem dX12_show_17 : decode cX12_show 17 = .ok (.aload_n 0, 1) := by decide +kernel
theorem dX12_show_18 : decode cX12_show 18 = .ok (.getfield 106, 3) := by decide +kernel
theorem dX12_show_21 : decode cX12_show 21 = .ok (.iload_n 1, 1) := by decide +kernel
theorem dX12_show_22 : decode cX12_show 22 = .ok (.iaload, 1) := by decide +kernel
theorem dX12_show_23 : decode cX12_show 23 = .ok (.iastore, 1) := by decide +kernel
theorem dX12_show_24 : decode cX12_show 24 = .ok (.aload_n 0, 1) := by decide +kernel
theorem dX12_show_25 : decode cX12_show 25 = .ok (.getfield 148, 3) := by decide +kernel
theorem dX12_show_28 : decode cX12_show 28 = .ok (.aload_n 0, 1) := by decide +kernel
theorem dX12_show_29 : decode cX12_show 29 = .ok (.getfield 649, 3) := by decide +kernel
theorem dX12_show_32 : decode cX12_show 32 = .ok (.aload_n 0, 1) := by decide +kernel
theorem dX12_show_33 : decode cX12_show 33 = .ok (.getfield 109, 3) := by decide +kernel
theorem dX12_show_36 : decode cX12_show 36 = .ok (.iload_n 1, 1) := by decide +kernel
theorem dX12_show_37 : decode cX12_show 37 = .ok (.iaload, 1) := by decide +kernel
theorem dX12_show_38 : decode cX12_show 38 = .ok (.iastore, 1) := by decide +kernel
theorem dX12_show_39 : decode cX12_show 39 = .ok (.aload_n 0, 1) := by decide +kernel
theorem dX12_show_40 : decode cX12_show 40 = .ok (.dup, 1) := by decide +kernel
theorem dX12_show_41 : decode cX12_show 41 = .ok (.getfield 649, 3) := by decide +kernel
theorem dX12_show_44 : decode cX12_show 44 = .ok (.iconst 1, 1) := by decide +kernel
theorem dX12_show_45 : decode cX12_show 45 = .ok (.iadd, 1) := by decide +kernel
theorem dX12_show_46 : decode cX12_show 46 = .ok (.putfield 649, 3) := by decide +kernel
theorem dX12_show_49 : decode cX12_show 49 = .ok (.return_, 1) := by decide +kernel
theorem dX12_holdAt_0 : decode cX12_holdAt 0 = .ok (.iload_n 1, 1) := by decide +kernel
theorem dX12_holdAt_1 : decode cX12_holdAt 1 = .ok (.iconst 4, 1) := by decide +kernel
theorem dX12_holdAt_2 : decode cX12_holdAt 2 = .ok (.if_icmp .ge 26, 3) := by decide +kernel
theorem dX12_holdAt_5 : decode cX12_holdAt 5 = .ok (.aload_n 0, 1) := by decide +kernel
theorem dX12_holdAt_6 : decode cX12_holdAt 6 = .ok (.iconst 0, 1) := by decide +kernel
theorem dX12_holdAt_7 : decode cX12_holdAt 7 = .ok (.aload_n 0, 1) := by decide +kernel
theorem dX12_holdAt_8 : decode cX12_holdAt 8 = .ok (.getfield 106, 3) := by decide +kernel
theorem dX12_holdAt_11 : decode cX12_holdAt 11 = .ok (.iload_n 2, 1) := by decide +kernel
theorem dX12_holdAt_12 : decode cX12_holdAt 12 = .ok (.iaload, 1) := by decide +kernel
theorem dX12_holdAt_13 : decode cX12_holdAt 13 = .ok (.aload_n 0, 1) := by decide +kernel
theorem dX12_holdAt_14 : decode cX12_holdAt 14 = .ok (.getfield 109, 3) := by decide +kernel
theorem dX12_holdAt_17 : decode cX12_holdAt 17 = .ok (.iload_n 2, 1) := by decide +kernel
theorem dX12_holdAt_18 : decode cX12_holdAt 18 = .ok (.iaload, 1) := by decide +kernel
theorem dX12_holdAt_19 : decode cX12_holdAt 19 = .ok (.invokestatic 320, 3) := by decide +kernel
theorem dX12_holdAt_22 : decode cX12_holdAt 22 = .ok (.invokevirtual 324, 3) := by decide +kernel
theorem dX12_holdAt_25 : decode cX12_holdAt 25 = .ok (.goto 23, 3) := by decide +kernel
theorem dX12_holdAt_28 : decode cX12_holdAt 28 = .ok (.aload_n 0, 1) := by decide +kernel
theorem dX12_holdAt_29 : decode cX12_holdAt 29 = .ok (.iconst 1, 1) := by decide +kernel
theorem dX12_holdAt_30 : decode cX12_holdAt 30 = .ok (.aload_n 0, 1) := by decide +kernel
theorem dX12_holdAt_31 : decode cX12_holdAt 31 = .ok (.getfield 106, 3) := by decide +kernel
theorem dX12_holdAt_34 : decode cX12_holdAt 34 = .ok (.iload_n 2, 1) := by decide +kernel
theorem dX12_holdAt_35 : decode cX12_holdAt 35 = .ok (.iaload, 1) := by decide +kernel
theorem dX12_holdAt_36 : decode cX12_holdAt 36 = .ok (.aload_n 0, 1) := by decide +kernel
theorem dX12_holdAt_37 : decode cX12_holdAt 37 = .ok (.getfield 109, 3) := by decide +kernel
theorem dX12_holdAt_40 : decode cX12_holdAt 40 = .ok (.iload_n 2, 1) := by decide +kernel
theorem dX12_holdAt_41 : decode cX12_holdAt 41 = .ok (.iaload, 1) := by decide +kernel
theorem dX12_holdAt_42 : decode cX12_holdAt 42 = .ok (.invokestatic 328, 3) := by decide +kernel
theorem dX12_holdAt_45 : decode cX12_holdAt 45 = .ok (.invokevirtual 324, 3) := by decide +kernel
theorem dX12_holdAt_48 : decode cX12_holdAt 48 = .ok (.return_, 1) := by decide +kernel
theorem dX12_doOut_0 : decode cX12_doOut 0 = .ok (.aload_n 0, 1) := by decide +kernel
theorem dX12_doOut_1 : decode cX12_doOut 1 = .ok (.invokevirtual 594, 3) := by decide +kernel
theorem dX12_doOut_4 : decode cX12_doOut 4 = .ok (.istore_n 1, 1) := by decide +kernel
theorem dX12_doOut_5 : decode cX12_doOut 5 = .ok (.aload_n 0, 1) := by decide +kernel
theorem dX12_doOut_6 : decode cX12_doOut 6 = .ok (.iload_n 1, 1) := by decide +kernel
theorem dX12_doOut_7 : decode cX12_doOut 7 = .ok (.invokevirtual 597, 3) := by decide +kernel
theorem dX12_doOut_10 : decode cX12_doOut 10 = .ok (.istore_n 2, 1) := by decide +kernel
theorem dX12_doOut_11 : decode cX12_doOut 11 = .ok (.aload_n 0, 1) := by decide +kernel
theorem dX12_doOut_12 : decode cX12_doOut 12 = .ok (.getfield 551, 3) := by decide +kernel
theorem dX12_doOut_15 : decode cX12_doOut 15 = .ok (.ifCond .eq 28, 3) := by decide +kernel
theorem dX12_doOut_18 : decode cX12_doOut 18 = .ok (.aload_n 0, 1) := by decide +kernel
theorem dX12_doOut_19 : decode cX12_doOut 19 = .ok (.bipush 7, 2) := by decide +kernel
theorem dX12_doOut_21 : decode cX12_doOut 21 = .ok (.iconst 0, 1) := by decide +kernel
theorem dX12_doOut_22 : decode cX12_doOut 22 = .ok (.invokevirtual 639, 3) := by decide +kernel
theorem dX12_doOut_25 : decode cX12_doOut 25 = .ok (.istore_n 3, 1) := by decide +kernel
theorem dX12_doOut_26 : decode cX12_doOut 26 = .ok (.aload_n 0, 1) := by decide +kernel
theorem dX12_doOut_27 : decode cX12_doOut 27 = .ok (.getfield 557, 3) := by decide +kernel
theorem dX12_doOut_30 : decode cX12_doOut 30 = .ok (.ifCond .eq 4, 3) := by decide +kernel
theorem dX12_doOut_33 : decode cX12_doOut 33 = .ok (.return_, 1) := by decide +kernel
theorem dX12_doOut_34 : decode cX12_doOut 34 = .ok (.aload_n 0, 1) := by decide +kernel
theorem dX12_doOut_35 : decode cX12_doOut 35 = .ok (.iload_n 3, 1) := by decide +kernel
theorem dX12_doOut_36 : decode cX12_doOut 36 = .ok (.iload_n 2, 1) := by decide +kernel
theorem dX12_doOut_37 : decode cX12_doOut 37 = .ok (.invokevirtual 609, 3) := by decide +kernel
theorem dX12_doOut_40 : decode cX12_doOut 40 = .ok (.goto 8, 3) := by decide +kernel
theorem dX12_doOut_43 : decode cX12_doOut 43 = .ok (.aload_n 0, 1) := by decide +kernel
theorem dX12_doOut_44 : decode cX12_doOut 44 = .ok (.iload_n 2, 1) := by decide +kernel
theorem dX12_doOut_45 : decode cX12_doOut 45 = .ok (.invokevirtual 652, 3) := by decide +kernel
theorem dX12_doOut_48 : decode cX12_doOut 48 = .ok (.aload_n 0, 1) := by decide +kernel
theorem dX12_doOut_49 : decode cX12_doOut 49 = .ok (.iload_n 1, 1) := by decide +kernel
theorem dX12_doOut_50 : decode cX12_doOut 50 = .ok (.invokevirtual 585, 3) := by decide +kernel
theorem dX12_doOut_53 : decode cX12_doOut 53 = .ok (.return_, 1) := by decide +kernel
theorem dX12_doPut_0 : decode cX12_doPut 0 = .ok (.aload_n 0, 1) := by decide +kernel
theorem dX12_doPut_1 : decode cX12_doPut 1 = .ok (.aload_n 0, 1) := by decide +kernel
theorem dX12_doPut_2 : decode cX12_doPut 2 = .ok (.invokevirtual 594, 3) := by decide +kernel
theorem dX12_doPut_5 : decode cX12_doPut 5 = .ok (.invokevirtual 597, 3) := by decide +kernel
theorem dX12_doPut_8 : decode cX12_doPut 8 = .ok (.istore_n 2, 1) := by decide +kernel
theorem dX12_doPut_9 : decode cX12_doPut 9 = .ok (.aload_n 0, 1) := by decide +kernel
theorem dX12_doPut_10 : decode cX12_doPut 10 = .ok (.getfield 551, 3) := by decide +kernel
theorem dX12_doPut_13 : decode cX12_doPut 13 = .ok (.ifCond .eq 13, 3) := by decide +kernel
theorem dX12_doPut_16 : decode cX12_doPut 16 = .ok (.aload_n 0, 1) := by decide +kernel
theorem dX12_doPut_17 : decode cX12_doPut 17 = .ok (.bipush 8, 2) := by decide +kernel
theorem dX12_doPut_19 : decode cX12_doPut 19 = .ok (.iconst 1, 1) := by decide +kernel
theorem dX12_doPut_20 : decode cX12_doPut 20 = .ok (.invokevirtual 639, 3) := by decide +kernel
theorem dX12_doPut_23 : decode cX12_doPut 23 = .ok (.goto 4, 3) := by decide +kernel
theorem dX12_doPut_26 : decode cX12_doPut 26 = .ok (.iconst (-1), 1) := by decide +kernel
theorem dX12_doPut_27 : decode cX12_doPut 27 = .ok (.istore_n 3, 1) := by decide +kernel
theorem dX12_doPut_28 : decode cX12_doPut 28 = .ok (.aload_n 0, 1) := by decide +kernel
theorem dX12_doPut_29 : decode cX12_doPut 29 = .ok (.getfield 557, 3) := by decide +kernel
theorem dX12_doPut_32 : decode cX12_doPut 32 = .ok (.ifCond .eq 4, 3) := by decide +kernel
theorem dX12_doPut_35 : decode cX12_doPut 35 = .ok (.return_, 1) := by decide +kernel
theorem dX12_doPut_36 : decode cX12_doPut 36 = .ok (.iload_n 3, 1) := by decide +kernel
theorem dX12_doPut_37 : decode cX12_doPut 37 = .ok (.iconst (-1), 1) := by decide +kernel
theorem dX12_doPut_38 : decode cX12_doPut 38 = .ok (.if_icmp .eq 16, 3) := by decide +kernel
theorem dX12_doPut_41 : decode cX12_doPut 41 = .ok (.aload_n 0, 1) := by decide +kernel
theorem dX12_doPut_42 : decode cX12_doPut 42 = .ok (.getfield 160, 3) := by decide +kernel
theorem dX12_doPut_45 : decode cX12_doPut 45 = .ok (.iload_n 3, 1) := by decide +kernel
theorem dX12_doPut_46 : decode cX12_doPut 46 = .ok (.iload_n 1, 1) := by decide +kernel
theorem dX12_doPut_47 : decode cX12_doPut 47 = .ok (.iastore, 1) := by decide +kernel
theorem dX12_doPut_48 : decode cX12_doPut 48 = .ok (.aload_n 0, 1) := by decide +kernel
theorem dX12_doPut_49 : decode cX12_doPut 49 = .ok (.iload_n 3, 1) := by decide +kernel
theorem dX12_doPut_50 : decode cX12_doPut 50 = .ok (.iload_n 2, 1) := by decide +kernel
theorem dX12_doPut_51 : decode cX12_doPut 51 = .ok (.invokevirtual 609, 3) := by decide +kernel
theorem dX12_doPut_54 : decode cX12_doPut 54 = .ok (.aload_n 0, 1) := by decide +kernel
theorem dX12_doPut_55 : decode cX12_doPut 55 = .ok (.iload_n 2, 1) := by decide +kernel
theorem dX12_doPut_56 : decode cX12_doPut 56 = .ok (.invokevirtual 600, 3) := by decide +kernel
theorem dX12_doPut_59 : decode cX12_doPut 59 = .ok (.ifCond .ne 13, 3) := by decide +kernel
theorem dX12_doPut_62 : decode cX12_doPut 62 = .ok (.aload_n 0, 1) := by decide +kernel
theorem dX12_doPut_63 : decode cX12_doPut 63 = .ok (.aload_n 0, 1) := by decide +kernel
theorem dX12_doPut_64 : decode cX12_doPut 64 = .ok (.iload_n 3, 1) := by decide +kernel
theorem dX12_doPut_65 : decode cX12_doPut 65 = .ok (.invokevirtual 643, 3) := by decide +kernel
theorem dX12_doPut_68 : decode cX12_doPut 68 = .ok (.invokevirtual 585, 3) := by decide +kernel
theorem dX12_doPut_71 : decode cX12_doPut 71 = .ok (.return_, 1) := by decide +kernel
theorem dX12_doPut_72 : decode cX12_doPut 72 = .ok (.aload_n 0, 1) := by decide +kernel
theorem dX12_doPut_73 : decode cX12_doPut 73 = .ok (.iload_n 1, 1) := by decide +kernel
theorem dX12_doPut_74 : decode cX12_doPut 74 = .ok (.iload_n 2, 1) := by decide +kernel
theorem dX12_doPut_75 : decode cX12_doPut 75 = .ok (.invokevirtual 655, 3) := by decide +kernel
theorem dX12_doPut_78 : decode cX12_doPut 78 = .ok (.aload_n 0, 1) := by decide +kernel
theorem dX12_doPut_79 : decode cX12_doPut 79 = .ok (.getfield 551, 3) := by decide +kernel
theorem dX12_doPut_82 : decode cX12_doPut 82 = .ok (.ifCond .ne 13, 3) := by decide +kernel
theorem dX12_doPut_85 : decode cX12_doPut 85 = .ok (.aload_n 0, 1) := by decide +kernel
theorem dX12_doPut_86 : decode cX12_doPut 86 = .ok (.getfield 142, 3) := by decide +kernel
theorem dX12_doPut_89 : decode cX12_doPut 89 = .ok (.iload_n 1, 1) := by decide +kernel
theorem dX12_doPut_90 : decode cX12_doPut 90 = .ok (.aload_n 0, 1) := by decide +kernel
theorem dX12_doPut_91 : decode cX12_doPut 91 = .ok (.getfield 308, 3) := by decide +kernel
theorem dX12_doPut_94 : decode cX12_doPut 94 = .ok (.iastore, 1) := by decide +kernel
theorem dX12_doPut_95 : decode cX12_doPut 95 = .ok (.aload_n 0, 1) := by decide +kernel
theorem dX12_doPut_96 : decode cX12_doPut 96 = .ok (.aload_n 0, 1) := by decide +kernel
theorem dX12_doPut_97 : decode cX12_doPut 97 = .ok (.invokevirtual 636, 3) := by decide +kernel
theorem dX12_doPut_100 : decode cX12_doPut 100 = .ok (.invokevirtual 585, 3) := by decide +kernel
theorem dX12_doPut_103 : decode cX12_doPut 103 = .ok (.return_, 1) := by decide +kernel
theorem dX12_doGet_0 : decode cX12_doGet 0 = .ok (.aload_n 0, 1) := by decide +kernel
theorem dX12_doGet_1 : decode cX12_doGet 1 = .ok (.getfield 551, 3) := by decide +kernel
theorem dX12_doGet_4 : decode cX12_doGet 4 = .ok (.ifCond .ne 28, 3) := by decide +kernel
theorem dX12_doGet_7 : decode cX12_doGet 7 = .ok (.aload_n 0, 1) := by decide +kernel
theorem dX12_doGet_8 : decode cX12_doGet 8 = .ok (.aload_n 0, 1) := by decide +kernel
theorem dX12_doGet_9 : decode cX12_doGet 9 = .ok (.iload_n 1, 1) := by decide +kernel
theorem dX12_doGet_10 : decode cX12_doGet 10 = .ok (.iconst 4, 1) := by decide +kernel
theorem dX12_doGet_11 : decode cX12_doGet 11 = .ok (.if_icmp .ge 7, 3) := by decide +kernel
theorem dX12_doGet_14 : decode cX12_doGet 14 = .ok (.iconst 0, 1) := by decide +kernel
theorem dX12_doGet_15 : decode cX12_doGet 15 = .ok (.goto 4, 3) := by decide +kernel
theorem dX12_doGet_18 : decode cX12_doGet 18 = .ok (.iconst 1, 1) := by decide +kernel
theorem dX12_doGet_19 : decode cX12_doGet 19 = .ok (.aload_n 0, 1) := by decide +kernel
theorem dX12_doGet_20 : decode cX12_doGet 20 = .ok (.getfield 142, 3) := by decide +kernel
theorem dX12_doGet_23 : decode cX12_doGet 23 = .ok (.iload_n 1, 1) := by decide +kernel
theorem dX12_doGet_24 : decode cX12_doGet 24 = .ok (.iaload, 1) := by decide +kernel
theorem dX12_doGet_25 : decode cX12_doGet 25 = .ok (.invokevirtual 527, 3) := by decide +kernel
theorem dX12_doGet_28 : decode cX12_doGet 28 = .ok (.invokevirtual 585, 3) := by decide +kernel
theorem dX12_doGet_31 : decode cX12_doGet 31 = .ok (.return_, 1) := by decide +kernel
theorem dX12_doGet_32 : decode cX12_doGet 32 = .ok (.aload_n 0, 1) := by decide +kernel
theorem dX12_doGet_33 : decode cX12_doGet 33 = .ok (.bipush 9, 2) := by decide +kernel
theorem dX12_doGet_35 : decode cX12_doGet 35 = .ok (.iconst 1, 1) := by decide +kernel
theorem dX12_doGet_36 : decode cX12_doGet 36 = .ok (.invokevirtual 639, 3) := by decide +kernel
theorem dX12_doGet_39 : decode cX12_doGet 39 = .ok (.istore_n 2, 1) := by decide +kernel
theorem dX12_doGet_40 : decode cX12_doGet 40 = .ok (.aload_n 0, 1) := by decide +kernel
theorem dX12_doGet_41 : decode cX12_doGet 41 = .ok (.getfield 557, 3) := by decide +kernel
theorem dX12_doGet_44 : decode cX12_doGet 44 = .ok (.ifCond .eq 4, 3) := by decide +kernel
theorem dX12_doGet_47 : decode cX12_doGet 47 = .ok (.return_, 1) := by decide +kernel
theorem dX12_doGet_48 : decode cX12_doGet 48 = .ok (.aload_n 0, 1) := by decide +kernel
theorem dX12_doGet_49 : decode cX12_doGet 49 = .ok (.getfield 160, 3) := by decide +kernel
theorem dX12_doGet_52 : decode cX12_doGet 52 = .ok (.iload_n 2, 1) := by decide +kernel
theorem dX12_doGet_53 : decode cX12_doGet 53 = .ok (.iload_n 1, 1) := by decide +kernel
theorem dX12_doGet_54 : decode cX12_doGet 54 = .ok (.iastore, 1) := by decide +kernel
theorem dX12_doGet_55 : decode cX12_doGet 55 = .ok (.aload_n 0, 1) := by decide +kernel
theorem dX12_doGet_56 : decode cX12_doGet 56 = .ok (.aload_n 0, 1) := by decide +kernel
theorem dX12_doGet_57 : decode cX12_doGet 57 = .ok (.iload_n 2, 1) := by decide +kernel
theorem dX12_doGet_58 : decode cX12_doGet 58 = .ok (.invokevirtual 643, 3) := by decide +kernel
theorem dX12_doGet_61 : decode cX12_doGet 61 = .ok (.invokevirtual 585, 3) := by decide +kernel
theorem dX12_doGet_64 : decode cX12_doGet 64 = .ok (.return_, 1) := by decide +kernel
theorem dX12_beginsCall_0 : decode cX12_beginsCall 0 = .ok (.aload_n 0, 1) := by decide +kernel
theorem dX12_beginsCall_1 : decode cX12_beginsCall 1 = .ok (.getfield 658, 3) := by decide +kernel
theorem dX12_beginsCall_4 : decode cX12_beginsCall 4 = .ok (.bipush 100, 2) := by decide +kernel
theorem dX12_beginsCall_6 : decode cX12_beginsCall 6 = .ok (.if_icmp .eq 12, 3) := by decide +kernel
theorem dX12_beginsCall_9 : decode cX12_beginsCall 9 = .ok (.aload_n 0, 1) := by decide +kernel
theorem dX12_beginsCall_10 : decode cX12_beginsCall 10 = .ok (.getfield 661, 3) := by decide +kernel
theorem dX12_beginsCall_13 : decode cX12_beginsCall 13 = .ok (.bipush 30, 2) := by decide +kernel
theorem dX12_beginsCall_15 : decode cX12_beginsCall 15 = .ok (.if_icmp .ne 23, 3) := by decide +kernel
theorem dX12_beginsCall_18 : decode cX12_beginsCall 18 = .ok (.aload_n 0, 1) := by decide +kernel
theorem dX12_beginsCall_19 : decode cX12_beginsCall 19 = .ok (.aload_n 0, 1) := by decide +kernel
theorem dX12_beginsCall_20 : decode cX12_beginsCall 20 = .ok (.getfield 658, 3) := by decide +kernel
theorem dX12_beginsCall_23 : decode cX12_beginsCall 23 = .ok (.bipush 100, 2) := by decide +kernel
theorem dX12_beginsCall_25 : decode cX12_beginsCall 25 = .ok (.if_icmp .ne 7, 3) := by decide +kernel
theorem dX12_beginsCall_28 : decode cX12_beginsCall 28 = .ok (.iconst 1, 1) := by decide +kernel
theorem dX12_beginsCall_29 : decode cX12_beginsCall 29 = .ok (.goto 4, 3) := by decide +kernel
theorem dX12_beginsCall_32 : decode cX12_beginsCall 32 = .ok (.iconst 3, 1) := by decide +kernel
theorem dX12_beginsCall_33 : decode cX12_beginsCall 33 = .ok (.putfield 557, 3) := by decide +kernel
theorem dX12_beginsCall_36 : decode cX12_beginsCall 36 = .ok (.iconst 0, 1) := by decide +kernel
theorem dX12_beginsCall_37 : decode cX12_beginsCall 37 = .ok (.ireturn, 1) := by decide +kernel
theorem dX12_beginsCall_38 : decode cX12_beginsCall 38 = .ok (.aload_n 0, 1) := by decide +kernel
theorem dX12_beginsCall_39 : decode cX12_beginsCall 39 = .ok (.dup, 1) := by decide +kernel
theorem dX12_beginsCall_40 : decode cX12_beginsCall 40 = .ok (.getfield 658, 3) := by decide +kernel
theorem dX12_beginsCall_43 : decode cX12_beginsCall 43 = .ok (.iconst 1, 1) := by decide +kernel
theorem dX12_beginsCall_44 : decode cX12_beginsCall 44 = .ok (.iadd, 1) := by decide +kernel
theorem dX12_beginsCall_45 : decode cX12_beginsCall 45 = .ok (.putfield 658, 3) := by decide +kernel
theorem dX12_beginsCall_48 : decode cX12_beginsCall 48 = .ok (.aload_n 0, 1) := by decide +kernel
theorem dX12_beginsCall_49 : decode cX12_beginsCall 49 = .ok (.dup, 1) := by decide +kernel
theorem dX12_beginsCall_50 : decode cX12_beginsCall 50 = .ok (.getfield 661, 3) := by decide +kernel
theorem dX12_beginsCall_53 : decode cX12_beginsCall 53 = .ok (.iconst 1, 1) := by decide +kernel
theorem dX12_beginsCall_54 : decode cX12_beginsCall 54 = .ok (.iadd, 1) := by decide +kernel
theorem dX12_beginsCall_55 : decode cX12_beginsCall 55 = .ok (.putfield 661, 3) := by decide +kernel
theorem dX12_beginsCall_58 : decode cX12_beginsCall 58 = .ok (.aload_n 0, 1) := by decide +kernel
theorem dX12_beginsCall_59 : decode cX12_beginsCall 59 = .ok (.aload_n 0, 1) := by decide +kernel
theorem dX12_beginsCall_60 : decode cX12_beginsCall 60 = .ok (.getfield 661, 3) := by decide +kernel
theorem dX12_beginsCall_63 : decode cX12_beginsCall 63 = .ok (.aload_n 0, 1) := by decide +kernel
theorem dX12_beginsCall_64 : decode cX12_beginsCall 64 = .ok (.getfield 664, 3) := by decide +kernel
theorem dX12_beginsCall_67 : decode cX12_beginsCall 67 = .ok (.if_icmp .le 10, 3) := by decide +kernel
theorem dX12_beginsCall_70 : decode cX12_beginsCall 70 = .ok (.aload_n 0, 1) := by decide +kernel
theorem dX12_beginsCall_71 : decode cX12_beginsCall 71 = .ok (.getfield 661, 3) := by decide +kernel
theorem dX12_beginsCall_74 : decode cX12_beginsCall 74 = .ok (.goto 7, 3) := by decide +kernel
theorem dX12_beginsCall_77 : decode cX12_beginsCall 77 = .ok (.aload_n 0, 1) := by decide +kernel
theorem dX12_beginsCall_78 : decode cX12_beginsCall 78 = .ok (.getfield 664, 3) := by decide +kernel
theorem dX12_beginsCall_81 : decode cX12_beginsCall 81 = .ok (.putfield 664, 3) := by decide +kernel
theorem dX12_beginsCall_84 : decode cX12_beginsCall 84 = .ok (.iconst 1, 1) := by decide +kernel
theorem dX12_beginsCall_85 : decode cX12_beginsCall 85 = .ok (.ireturn, 1) := by decide +kernel
theorem dX12_doCall_0 : decode cX12_doCall 0 = .ok (.iload_n 2, 1) := by decide +kernel
theorem dX12_doCall_1 : decode cX12_doCall 1 = .ok (.iconst 1, 1) := by decide +kernel
theorem dX12_doCall_2 : decode cX12_doCall 2 = .ok (.isub, 1) := by decide +kernel
theorem dX12_doCall_3 : decode cX12_doCall 3 = .ok (.istore_n 3, 1) := by decide +kernel
theorem dX12_doCall_4 : decode cX12_doCall 4 = .ok (.iload_n 3, 1) := by decide +kernel
theorem dX12_doCall_5 : decode cX12_doCall 5 = .ok (.ifCond .lt 19, 3) := by decide +kernel
theorem dX12_doCall_8 : decode cX12_doCall 8 = .ok (.aload_n 0, 1) := by decide +kernel
theorem dX12_doCall_9 : decode cX12_doCall 9 = .ok (.getfield 151, 3) := by decide +kernel
theorem dX12_doCall_12 : decode cX12_doCall 12 = .ok (.iload_n 3, 1) := by decide +kernel
theorem dX12_doCall_13 : decode cX12_doCall 13 = .ok (.aload_n 0, 1) := by decide +kernel
theorem dX12_doCall_14 : decode cX12_doCall 14 = .ok (.invokevirtual 594, 3) := by decide +kernel
theorem dX12_doCall_17 : decode cX12_doCall 17 = .ok (.iastore, 1) := by decide +kernel
theorem dX12_doCall_18 : decode cX12_doCall 18 = .ok (.iinc 3 (-1), 3) := by decide +kernel
theorem dX12_doCall_21 : decode cX12_doCall 21 = .ok (.goto (-17), 3) := by decide +kernel
theorem dX12_doCall_24 : decode cX12_doCall 24 = .ok (.aload_n 0, 1) := by decide +kernel
theorem dX12_doCall_25 : decode cX12_doCall 25 = .ok (.iload_n 1, 1) := by decide +kernel
theorem dX12_doCall_26 : decode cX12_doCall 26 = .ok (.iload_n 2, 1) := by decide +kernel
theorem dX12_doCall_27 : decode cX12_doCall 27 = .ok (.invokevirtual 667, 3) := by decide +kernel
theorem dX12_doCall_30 : decode cX12_doCall 30 = .ok (.istore_n 3, 1) := by decide +kernel
theorem dX12_doCall_31 : decode cX12_doCall 31 = .ok (.aload_n 0, 1) := by decide +kernel
theorem dX12_doCall_32 : decode cX12_doCall 32 = .ok (.getfield 551, 3) := by decide +kernel
theorem dX12_doCall_35 : decode cX12_doCall 35 = .ok (.ifCond .eq 10, 3) := by decide +kernel
theorem dX12_doCall_38 : decode cX12_doCall 38 = .ok (.aload_n 0, 1) := by decide +kernel
theorem dX12_doCall_39 : decode cX12_doCall 39 = .ok (.iload_n 3, 1) := by decide +kernel
theorem dX12_doCall_40 : decode cX12_doCall 40 = .ok (.iload_n 2, 1) := by decide +kernel
theorem dX12_doCall_41 : decode cX12_doCall 41 = .ok (.invokevirtual 670, 3) := by decide +kernel
theorem dX12_doCall_44 : decode cX12_doCall 44 = .ok (.return_, 1) := by decide +kernel
theorem dX12_doCall_45 : decode cX12_doCall 45 = .ok (.iload_n 3, 1) := by decide +kernel
theorem dX12_doCall_46 : decode cX12_doCall 46 = .ok (.iconst (-1), 1) := by decide +kernel
theorem dX12_doCall_47 : decode cX12_doCall 47 = .ok (.if_icmp .ne 11, 3) := by decide +kernel
theorem dX12_doCall_50 : decode cX12_doCall 50 = .ok (.aload_n 0, 1) := by decide +kernel
theorem dX12_doCall_51 : decode cX12_doCall 51 = .ok (.iconst 4, 1) := by decide +kernel
theorem dX12_doCall_52 : decode cX12_doCall 52 = .ok (.putfield 557, 3) := by decide +kernel
theorem dX12_doCall_55 : decode cX12_doCall 55 = .ok (.goto 15, 3) := by decide +kernel
theorem dX12_doCall_58 : decode cX12_doCall 58 = .ok (.aload_n 0, 1) := by decide +kernel
theorem dX12_doCall_59 : decode cX12_doCall 59 = .ok (.invokevirtual 673, 3) := by decide +kernel
theorem dX12_doCall_62 : decode cX12_doCall 62 = .ok (.ifCond .eq 8, 3) := by decide +kernel
theorem dX12_doCall_65 : decode cX12_doCall 65 = .ok (.aload_n 0, 1) := by decide +kernel
theorem dX12_doCall_66 : decode cX12_doCall 66 = .ok (.iload_n 3, 1) := by decide +kernel
theorem dX12_doCall_67 : decode cX12_doCall 67 = .ok (.invokevirtual 676, 3) := by decide +kernel
theorem dX12_doCall_70 : decode cX12_doCall 70 = .ok (.return_, 1) := by decide +kernel
theorem dX12_enter_0 : decode cX12_enter 0 = .ok (.aload_n 0, 1) := by decide +kernel
theorem dX12_enter_1 : decode cX12_enter 1 = .ok (.dup, 1) := by decide +kernel
theorem dX12_enter_2 : decode cX12_enter 2 = .ok (.getfield 554, 3) := by decide +kernel
theorem dX12_enter_5 : decode cX12_enter 5 = .ok (.bipush 14, 2) := by decide +kernel
theorem dX12_enter_7 : decode cX12_enter 7 = .ok (.iadd, 1) := by decide +kernel
theorem dX12_enter_8 : decode cX12_enter 8 = .ok (.putfield 554, 3) := by decide +kernel
theorem dX12_enter_11 : decode cX12_enter 11 = .ok (.iconst 0, 1) := by decide +kernel
theorem dX12_enter_12 : decode cX12_enter 12 = .ok (.istore_n 2, 1) := by decide +kernel
theorem dX12_enter_13 : decode cX12_enter 13 = .ok (.iload_n 2, 1) := by decide +kernel
theorem dX12_enter_14 : decode cX12_enter 14 = .ok (.aload_n 0, 1) := by decide +kernel
theorem dX12_enter_15 : decode cX12_enter 15 = .ok (.getfield 21, 3) := by decide +kernel
theorem dX12_enter_18 : decode cX12_enter 18 = .ok (.iload_n 1, 1) := by decide +kernel
theorem dX12_enter_19 : decode cX12_enter 19 = .ok (.iaload, 1) := by decide +kernel
theorem dX12_enter_20 : decode cX12_enter 20 = .ok (.if_icmp .ge 35, 3) := by decide +kernel
theorem dX12_enter_23 : decode cX12_enter 23 = .ok (.aload_n 0, 1) := by decide +kernel
theorem dX12_enter_24 : decode cX12_enter 24 = .ok (.getfield 139, 3) := by decide +kernel
theorem dX12_enter_27 : decode cX12_enter 27 = .ok (.aload_n 0, 1) := by decide +kernel
theorem dX12_enter_28 : decode cX12_enter 28 = .ok (.getfield 554, 3) := by decide +kernel
theorem dX12_enter_31 : decode cX12_enter 31 = .ok (.aload_n 0, 1) := by decide +kernel
theorem dX12_enter_32 : decode cX12_enter 32 = .ok (.getfield 24, 3) := by decide +kernel
theorem dX12_enter_35 : decode cX12_enter 35 = .ok (.iconst 5, 1) := by decide +kernel
theorem dX12_enter_36 : decode cX12_enter 36 = .ok (.iload_n 1, 1) := by decide +kernel
theorem dX12_enter_37 : decode cX12_enter 37 = .ok (.imul, 1) := by decide +kernel
theorem dX12_enter_38 : decode cX12_enter 38 = .ok (.iload_n 2, 1) := by decide +kernel
theorem dX12_enter_39 : decode cX12_enter 39 = .ok (.iadd, 1) := by decide +kernel
theorem dX12_enter_40 : decode cX12_enter 40 = .ok (.iaload, 1) := by decide +kernel
theorem dX12_enter_41 : decode cX12_enter 41 = .ok (.iadd, 1) := by decide +kernel
theorem dX12_enter_42 : decode cX12_enter 42 = .ok (.aload_n 0, 1) := by decide +kernel
theorem dX12_enter_43 : decode cX12_enter 43 = .ok (.getfield 151, 3) := by decide +kernel
theorem dX12_enter_46 : decode cX12_enter 46 = .ok (.iload_n 2, 1) := by decide +kernel
theorem dX12_enter_47 : decode cX12_enter 47 = .ok (.iaload, 1) := by decide +kernel
theorem dX12_enter_48 : decode cX12_enter 48 = .ok (.iastore, 1) := by decide +kernel
theorem dX12_enter_49 : decode cX12_enter 49 = .ok (.iinc 2 1, 3) := by decide +kernel
theorem dX12_enter_52 : decode cX12_enter 52 = .ok (.goto (-39), 3) := by decide +kernel
theorem dX12_enter_55 : decode cX12_enter 55 = .ok (.aload_n 0, 1) := by decide +kernel
theorem dX12_enter_56 : decode cX12_enter 56 = .ok (.iconst 5, 1) := by decide +kernel
theorem dX12_enter_57 : decode cX12_enter 57 = .ok (.iconst 0, 1) := by decide +kernel
theorem dX12_enter_58 : decode cX12_enter 58 = .ok (.iconst 0, 1) := by decide +kernel
theorem dX12_enter_59 : decode cX12_enter 59 = .ok (.invokevirtual 588, 3) := by decide +kernel
theorem dX12_enter_62 : decode cX12_enter 62 = .ok (.aload_n 0, 1) := by decide +kernel
theorem dX12_enter_63 : decode cX12_enter 63 = .ok (.iconst 0, 1) := by decide +kernel
theorem dX12_enter_64 : decode cX12_enter 64 = .ok (.aload_n 0, 1) := by decide +kernel
theorem dX12_enter_65 : decode cX12_enter 65 = .ok (.getfield 27, 3) := by decide +kernel
theorem dX12_enter_68 : decode cX12_enter 68 = .ok (.iload_n 1, 1) := by decide +kernel
theorem dX12_enter_69 : decode cX12_enter 69 = .ok (.iaload, 1) := by decide +kernel
theorem dX12_enter_70 : decode cX12_enter 70 = .ok (.iconst 0, 1) := by decide +kernel
theorem dX12_enter_71 : decode cX12_enter 71 = .ok (.invokevirtual 588, 3) := by decide +kernel
theorem dX12_enter_74 : decode cX12_enter 74 = .ok (.return_, 1) := by decide +kernel
theorem dX12_leave_0 : decode cX12_leave 0 = .ok (.aload_n 0, 1) := by decide +kernel
theorem dX12_leave_1 : decode cX12_leave 1 = .ok (.dup, 1) := by decide +kernel
theorem dX12_leave_2 : decode cX12_leave 2 = .ok (.getfield 554, 3) := by decide +kernel
theorem dX12_leave_5 : decode cX12_leave 5 = .ok (.bipush 14, 2) := by decide +kernel
theorem dX12_leave_7 : decode cX12_leave 7 = .ok (.isub, 1) := by decide +kernel
theorem dX12_leave_8 : decode cX12_leave 8 = .ok (.putfield 554, 3) := by decide +kernel
theorem dX12_leave_11 : decode cX12_leave 11 = .ok (.aload_n 0, 1) := by decide +kernel
theorem dX12_leave_12 : decode cX12_leave 12 = .ok (.getfield 551, 3) := by decide +kernel
theorem dX12_leave_15 : decode cX12_leave 15 = .ok (.ifCond .eq 16, 3) := by decide +kernel
theorem dX12_leave_18 : decode cX12_leave 18 = .ok (.aload_n 0, 1) := by decide +kernel
theorem dX12_leave_19 : decode cX12_leave 19 = .ok (.dup, 1) := by decide +kernel
theorem dX12_leave_20 : decode cX12_leave 20 = .ok (.getfield 679, 3) := by decide +kernel
theorem dX12_leave_23 : decode cX12_leave 23 = .ok (.iconst 1, 1) := by decide +kernel
theorem dX12_leave_24 : decode cX12_leave 24 = .ok (.isub, 1) := by decide +kernel
theorem dX12_leave_25 : decode cX12_leave 25 = .ok (.putfield 679, 3) := by decide +kernel
theorem dX12_leave_28 : decode cX12_leave 28 = .ok (.goto 13, 3) := by decide +kernel
theorem dX12_leave_31 : decode cX12_leave 31 = .ok (.aload_n 0, 1) := by decide +kernel
theorem dX12_leave_32 : decode cX12_leave 32 = .ok (.dup, 1) := by decide +kernel
theorem dX12_leave_33 : decode cX12_leave 33 = .ok (.getfield 661, 3) := by decide +kernel
theorem dX12_leave_36 : decode cX12_leave 36 = .ok (.iconst 1, 1) := by decide +kernel
theorem dX12_leave_37 : decode cX12_leave 37 = .ok (.isub, 1) := by decide +kernel
theorem dX12_leave_38 : decode cX12_leave 38 = .ok (.putfield 661, 3) := by decide +kernel
theorem dX12_leave_41 : decode cX12_leave 41 = .ok (.return_, 1) := by decide +kernel
theorem dX12_item_0 : decode cX12_item 0 = .ok (.aload_n 0, 1) := by decide +kernel
theorem dX12_item_1 : decode cX12_item 1 = .ok (.getfield 154, 3) := by decide +kernel
theorem dX12_item_4 : decode cX12_item 4 = .ok (.aload_n 0, 1) := by decide +kernel
theorem dX12_item_5 : decode cX12_item 5 = .ok (.getfield 682, 3) := by decide +kernel
theorem dX12_item_8 : decode cX12_item 8 = .ok (.iload_n 1, 1) := by decide +kernel
theorem dX12_item_9 : decode cX12_item 9 = .ok (.iastore, 1) := by decide +kernel
theorem dX12_item_10 : decode cX12_item 10 = .ok (.aload_n 0, 1) := by decide +kernel
theorem dX12_item_11 : decode cX12_item 11 = .ok (.getfield 157, 3) := by decide +kernel
theorem dX12_item_14 : decode cX12_item 14 = .ok (.aload_n 0, 1) := by decide +kernel
theorem dX12_item_15 : decode cX12_item 15 = .ok (.getfield 682, 3) := by decide +kernel
theorem dX12_item_18 : decode cX12_item 18 = .ok (.iconst (-1), 1) := by decide +kernel
theorem dX12_item_19 : decode cX12_item 19 = .ok (.iastore, 1) := by decide +kernel
theorem dX12_item_20 : decode cX12_item 20 = .ok (.aload_n 0, 1) := by decide +kernel
theorem dX12_item_21 : decode cX12_item 21 = .ok (.getfield 160, 3) := by decide +kernel
theorem dX12_item_24 : decode cX12_item 24 = .ok (.aload_n 0, 1) := by decide +kernel
theorem dX12_item_25 : decode cX12_item 25 = .ok (.getfield 682, 3) := by decide +kernel
theorem dX12_item_28 : decode cX12_item 28 = .ok (.iconst 0, 1) := by decide +kernel
theorem dX12_item_29 : decode cX12_item 29 = .ok (.iastore, 1) := by decide +kernel
theorem dX12_item_30 : decode cX12_item 30 = .ok (.aload_n 0, 1) := by decide +kernel
theorem dX12_item_31 : decode cX12_item 31 = .ok (.getfield 169, 3) := by decide +kernel
theorem dX12_item_34 : decode cX12_item 34 = .ok (.aload_n 0, 1) := by decide +kernel
theorem dX12_item_35 : decode cX12_item 35 = .ok (.getfield 682, 3) := by decide +kernel
theorem dX12_item_38 : decode cX12_item 38 = .ok (.aload_n 0, 1) := by decide +kernel
theorem dX12_item_39 : decode cX12_item 39 = .ok (.getfield 685, 3) := by decide +kernel
theorem dX12_item_42 : decode cX12_item 42 = .ok (.iastore, 1) := by decide +kernel
theorem dX12_item_43 : decode cX12_item 43 = .ok (.aload_n 0, 1) := by decide +kernel
theorem dX12_item_44 : decode cX12_item 44 = .ok (.getfield 172, 3) := by decide +kernel
theorem dX12_item_47 : decode cX12_item 47 = .ok (.aload_n 0, 1) := by decide +kernel
theorem dX12_item_48 : decode cX12_item 48 = .ok (.getfield 682, 3) := by decide +kernel
theorem dX12_item_51 : decode cX12_item 51 = .ok (.iconst 0, 1) := by decide +kernel
theorem dX12_item_52 : decode cX12_item 52 = .ok (.iastore, 1) := by decide +kernel
theorem dX12_item_53 : decode cX12_item 53 = .ok (.aload_n 0, 1) := by decide +kernel
theorem dX12_item_54 : decode cX12_item 54 = .ok (.dup, 1) := by decide +kernel
theorem dX12_item_55 : decode cX12_item 55 = .ok (.getfield 682, 3) := by decide +kernel
theorem dX12_item_58 : decode cX12_item 58 = .ok (.iconst 1, 1) := by decide +kernel
theorem dX12_item_59 : decode cX12_item 59 = .ok (.iadd, 1) := by decide +kernel
theorem dX12_item_60 : decode cX12_item 60 = .ok (.putfield 682, 3) := by decide +kernel
theorem dX12_item_63 : decode cX12_item 63 = .ok (.aload_n 0, 1) := by decide +kernel
theorem dX12_item_64 : decode cX12_item 64 = .ok (.getfield 682, 3) := by decide +kernel
theorem dX12_item_67 : decode cX12_item 67 = .ok (.iconst 1, 1) := by decide +kernel
theorem dX12_item_68 : decode cX12_item 68 = .ok (.isub, 1) := by decide +kernel
theorem dX12_item_69 : decode cX12_item 69 = .ok (.ireturn, 1) := by decide +kernel
