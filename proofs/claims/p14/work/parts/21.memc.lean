theorem shx_0 : sh 0 0 = (0, 10) := by decide +kernel
theorem shx_1 : sh 0 1 = (1, 800) := by decide +kernel
theorem shx_2 : sh 0 2 = (0, 2) := by decide +kernel
theorem shx_3 : sh 0 3 = (1, 432) := by decide +kernel
theorem shx_4 : sh 0 4 = (1, 72) := by decide +kernel
theorem shx_5 : sh 0 5 = (1, 72) := by decide +kernel
theorem shx_6 : sh 0 6 = (1, 2472) := by decide +kernel
theorem shx_7 : sh 0 7 = (1, 2472) := by decide +kernel
theorem shx_8 : sh 0 8 = (1, 2472) := by decide +kernel
theorem shx_9 : sh 0 9 = (0, 2) := by decide +kernel
theorem shx_10 : sh 0 10 = (1, 432) := by decide +kernel
theorem shx_11 : sh 0 11 = (1, 72) := by decide +kernel
theorem shx_12 : sh 0 12 = (1, 72) := by decide +kernel
theorem shx_13 : sh 0 13 = (1, 2472) := by decide +kernel
theorem shx_14 : sh 0 14 = (1, 2472) := by decide +kernel
theorem shx_15 : sh 0 15 = (1, 2472) := by decide +kernel
theorem shx_16 : sh 0 16 = (0, 3) := by decide +kernel
theorem shx_17 : sh 0 17 = (1, 32) := by decide +kernel
theorem shx_18 : sh 0 18 = (0, 1) := by decide +kernel
theorem shx_19 : sh 0 19 = (3, 30) := by decide +kernel
theorem shx_20 : sh 0 20 = (3, 30) := by decide +kernel
theorem shx_21 : sh 0 21 = (0, 1) := by decide +kernel
theorem shx_22 : sh 0 22 = (3, 30) := by decide +kernel
theorem shx_23 : sh 0 23 = (3, 30) := by decide +kernel
theorem shx_24 : sh 0 24 = (0, 1) := by decide +kernel
theorem shx_25 : sh 0 25 = (3, 30) := by decide +kernel
theorem shx_26 : sh 0 26 = (3, 30) := by decide +kernel
theorem shx_27 : sh 0 27 = (0, 1) := by decide +kernel
theorem shx_28 : sh 0 28 = (3, 30) := by decide +kernel
theorem shx_29 : sh 0 29 = (3, 30) := by decide +kernel
theorem shx_30 : sh 0 30 = (0, 7) := by decide +kernel
theorem shx_31 : sh 0 31 = (3, 30200) := by decide +kernel
theorem shx_32 : sh 0 32 = (3, 30200) := by decide +kernel
theorem shx_33 : sh 0 33 = (1, 30200) := by decide +kernel
theorem shx_34 : sh 0 34 = (1, 30200) := by decide +kernel
theorem shx_35 : sh 0 35 = (3, 264) := by decide +kernel
theorem shx_36 : sh 0 36 = (3, 2480) := by decide +kernel
theorem shx_37 : sh 0 37 = (3, 992) := by decide +kernel
theorem shx_38 : sh 0 38 = (1, 31) := by decide +kernel
theorem shx_39 : sh 0 39 = (0, 4) := by decide +kernel
theorem shx_40 : sh 0 40 = (1, 2400) := by decide +kernel
theorem shx_41 : sh 0 41 = (3, 3000) := by decide +kernel
theorem shx_42 : sh 0 42 = (1, 672) := by decide +kernel
theorem shx_43 : sh 0 43 = (1, 672) := by decide +kernel
theorem shx_44 : sh 0 44 = (3, 672) := by decide +kernel
theorem shx_45 : sh 0 45 = (1, 96) := by decide +kernel
theorem shx_46 : sh 0 46 = (4, 24) := by decide +kernel
theorem shx_47 : sh 0 47 = (0, 1) := by decide +kernel
theorem shx_48 : sh 0 48 = (3, 200) := by decide +kernel
theorem shx_49 : sh 0 49 = (3, 200) := by decide +kernel
theorem shx_50 : sh 0 50 = (0, 1) := by decide +kernel
theorem shx_51 : sh 0 51 = (3, 200) := by decide +kernel
theorem shx_52 : sh 0 52 = (3, 200) := by decide +kernel
theorem shx_53 : sh 0 53 = (0, 1) := by decide +kernel
theorem shx_54 : sh 0 54 = (3, 200) := by decide +kernel
theorem shx_55 : sh 0 55 = (3, 200) := by decide +kernel
theorem shx_56 : sh 0 56 = (0, 1) := by decide +kernel
theorem shx_57 : sh 0 57 = (3, 200) := by decide +kernel
theorem shx_58 : sh 0 58 = (3, 200) := by decide +kernel
theorem shx_59 : sh 0 59 = (0, 1) := by decide +kernel
theorem shx_60 : sh 0 60 = (3, 200) := by decide +kernel
theorem shx_61 : sh 0 61 = (3, 200) := by decide +kernel
theorem shx_62 : sh 0 62 = (0, 1) := by decide +kernel
theorem shx_63 : sh 0 63 = (3, 200) := by decide +kernel
theorem shx_64 : sh 0 64 = (3, 200) := by decide +kernel
theorem shx_65 : sh 0 65 = (0, 1) := by decide +kernel
theorem shx_66 : sh 0 66 = (3, 200) := by decide +kernel
theorem shx_67 : sh 0 67 = (3, 200) := by decide +kernel
theorem shx_68 : sh 0 68 = (0, 1) := by decide +kernel
theorem shx_69 : sh 0 69 = (3, 200) := by decide +kernel
theorem shx_70 : sh 0 70 = (3, 200) := by decide +kernel
theorem shx_71 : sh 0 71 = (0, 1) := by decide +kernel
theorem shx_72 : sh 0 72 = (3, 200) := by decide +kernel
theorem shx_73 : sh 0 73 = (3, 200) := by decide +kernel
theorem shx_74 : sh 0 74 = (0, 1) := by decide +kernel
theorem shx_75 : sh 0 75 = (3, 200) := by decide +kernel
theorem shx_76 : sh 0 76 = (3, 200) := by decide +kernel
theorem shx_77 : sh 0 77 = (0, 1) := by decide +kernel
theorem shx_78 : sh 0 78 = (3, 200) := by decide +kernel
theorem shx_79 : sh 0 79 = (3, 200) := by decide +kernel
theorem shx_80 : sh 0 80 = (0, 1) := by decide +kernel
theorem shx_81 : sh 0 81 = (3, 200) := by decide +kernel
theorem shx_82 : sh 0 82 = (3, 200) := by decide +kernel
theorem shx_83 : sh 0 83 = (0, 1) := by decide +kernel
theorem shx_84 : sh 0 84 = (3, 200) := by decide +kernel
theorem shx_85 : sh 0 85 = (3, 200) := by decide +kernel
theorem shx_86 : sh 0 86 = (0, 1) := by decide +kernel
theorem shx_87 : sh 0 87 = (3, 200) := by decide +kernel
theorem shx_88 : sh 0 88 = (3, 200) := by decide +kernel
theorem shx_89 : sh 0 89 = (0, 1) := by decide +kernel
theorem shx_90 : sh 0 90 = (3, 200) := by decide +kernel
theorem shx_91 : sh 0 91 = (3, 200) := by decide +kernel
theorem shx_92 : sh 0 92 = (0, 1) := by decide +kernel
theorem shx_93 : sh 0 93 = (3, 200) := by decide +kernel
theorem shx_94 : sh 0 94 = (3, 200) := by decide +kernel
theorem shx_95 : sh 0 95 = (0, 1) := by decide +kernel
theorem shx_96 : sh 0 96 = (3, 200) := by decide +kernel
theorem shx_97 : sh 0 97 = (3, 200) := by decide +kernel
theorem shx_98 : sh 0 98 = (0, 1) := by decide +kernel
theorem shx_99 : sh 0 99 = (3, 200) := by decide +kernel
theorem shx_100 : sh 0 100 = (3, 200) := by decide +kernel
theorem shx_101 : sh 0 101 = (0, 1) := by decide +kernel
theorem shx_102 : sh 0 102 = (3, 200) := by decide +kernel
theorem shx_103 : sh 0 103 = (3, 200) := by decide +kernel
theorem shx_104 : sh 0 104 = (0, 1) := by decide +kernel
theorem shx_105 : sh 0 105 = (3, 200) := by decide +kernel
theorem shx_106 : sh 0 106 = (3, 200) := by decide +kernel
theorem shx_107 : sh 0 107 = (0, 1) := by decide +kernel
theorem shx_108 : sh 0 108 = (3, 200) := by decide +kernel
theorem shx_109 : sh 0 109 = (3, 200) := by decide +kernel
theorem shx_110 : sh 0 110 = (0, 1) := by decide +kernel
theorem shx_111 : sh 0 111 = (3, 200) := by decide +kernel
theorem shx_112 : sh 0 112 = (3, 200) := by decide +kernel
theorem shx_113 : sh 0 113 = (0, 1) := by decide +kernel
theorem shx_114 : sh 0 114 = (3, 200) := by decide +kernel
theorem shx_115 : sh 0 115 = (3, 200) := by decide +kernel
theorem shx_116 : sh 0 116 = (0, 1) := by decide +kernel
theorem shx_117 : sh 0 117 = (3, 200) := by decide +kernel
theorem shx_118 : sh 0 118 = (3, 200) := by decide +kernel
theorem shx_119 : sh 0 119 = (0, 0) := by decide +kernel
theorem shx_120 : sh 0 120 = (3, 60) := by decide +kernel
theorem shx_121 : sh 0 121 = (1, 8) := by decide +kernel
theorem shx_122 : sh 0 122 = (0, 1) := by decide +kernel
theorem shx_123 : sh 0 123 = (3, 40) := by decide +kernel
theorem shx_124 : sh 0 124 = (3, 40) := by decide +kernel
theorem shx_125 : sh 0 125 = (0, 0) := by decide +kernel
theorem shx_126 : sh 0 126 = (3, 60) := by decide +kernel
theorem shx_127 : sh 0 127 = (1, 8) := by decide +kernel
theorem shx_128 : sh 0 128 = (0, 1) := by decide +kernel
theorem shx_129 : sh 0 129 = (3, 40) := by decide +kernel
theorem shx_130 : sh 0 130 = (3, 40) := by decide +kernel
theorem shx_131 : sh 0 131 = (0, 0) := by decide +kernel
theorem shx_132 : sh 0 132 = (3, 60) := by decide +kernel
theorem shx_133 : sh 0 133 = (1, 8) := by decide +kernel
theorem shx_134 : sh 0 134 = (0, 1) := by decide +kernel
theorem shx_135 : sh 0 135 = (3, 40) := by decide +kernel
theorem shx_136 : sh 0 136 = (3, 40) := by decide +kernel
theorem shx_137 : sh 0 137 = (0, 9) := by decide +kernel
theorem shx_138 : sh 0 138 = (1, 780) := by decide +kernel
theorem shx_139 : sh 0 139 = (3, 260) := by decide +kernel
theorem shx_140 : sh 0 140 = (3, 8) := by decide +kernel
theorem shx_141 : sh 0 141 = (3, 8) := by decide +kernel
theorem shx_142 : sh 0 142 = (0, 1) := by decide +kernel
theorem shx_143 : sh 0 143 = (3, 200) := by decide +kernel
theorem shx_144 : sh 0 144 = (3, 200) := by decide +kernel
theorem shx_145 : sh 0 145 = (0, 1) := by decide +kernel
theorem shx_146 : sh 0 146 = (3, 200) := by decide +kernel
theorem shx_147 : sh 0 147 = (3, 200) := by decide +kernel
theorem shx_148 : sh 0 148 = (0, 6) := by decide +kernel
theorem shx_149 : sh 0 149 = (3, 8) := by decide +kernel
theorem shx_150 : sh 0 150 = (3, 5) := by decide +kernel
theorem shx_151 : sh 0 151 = (0, 5) := by decide +kernel
theorem shx_152 : sh 0 152 = (3, 9548) := by decide +kernel
theorem shx_153 : sh 0 153 = (3, 8) := by decide +kernel
theorem shx_154 : sh 0 154 = (1, 744) := by decide +kernel
theorem shx_155 : sh 0 155 = (1, 744) := by decide +kernel
theorem shx_156 : sh 0 156 = (0, 1) := by decide +kernel
theorem shx_157 : sh 0 157 = (3, 40) := by decide +kernel
theorem shx_158 : sh 0 158 = (3, 40) := by decide +kernel
theorem shx_159 : sh 0 159 = (0, 8) := by decide +kernel
theorem shx_160 : sh 0 160 = (2, 40000) := by decide +kernel
theorem shm_0 : sh 1 0 = (0, 11) := by decide +kernel
theorem shm_1 : sh 1 1 = (2, 800) := by decide +kernel
theorem shm_2 : sh 1 2 = (1, 73) := by decide +kernel
theorem shm_3 : sh 1 3 = (1, 73) := by decide +kernel
theorem shm_4 : sh 1 4 = (1, 365) := by decide +kernel
theorem shm_5 : sh 1 5 = (1, 73) := by decide +kernel
theorem shm_6 : sh 1 6 = (1, 73) := by decide +kernel
theorem shm_7 : sh 1 7 = (1, 800) := by decide +kernel
theorem shm_8 : sh 1 8 = (1, 800) := by decide +kernel
theorem shm_9 : sh 1 9 = (1, 800) := by decide +kernel
theorem shm_10 : sh 1 10 = (1, 800) := by decide +kernel
theorem shm_11 : sh 1 11 = (1, 73) := by decide +kernel
theorem shm_12 : sh 1 12 = (1, 73) := by decide +kernel
theorem shm_13 : sh 1 13 = (1, 365) := by decide +kernel
theorem shm_14 : sh 1 14 = (1, 73) := by decide +kernel
theorem shm_15 : sh 1 15 = (1, 73) := by decide +kernel
theorem shm_16 : sh 1 16 = (1, 800) := by decide +kernel
theorem shm_17 : sh 1 17 = (1, 800) := by decide +kernel
theorem shm_18 : sh 1 18 = (1, 800) := by decide +kernel
theorem shm_19 : sh 1 19 = (1, 20) := by decide +kernel
theorem shm_20 : sh 1 20 = (1, 20) := by decide +kernel
theorem shm_21 : sh 1 21 = (1, 14) := by decide +kernel
theorem shm_22 : sh 1 22 = (1, 30) := by decide +kernel
theorem shm_23 : sh 1 23 = (1, 30) := by decide +kernel
theorem shm_24 : sh 1 24 = (1, 30) := by decide +kernel
theorem shm_25 : sh 1 25 = (1, 30) := by decide +kernel
theorem shm_26 : sh 1 26 = (1, 30) := by decide +kernel
theorem shm_27 : sh 1 27 = (1, 30) := by decide +kernel
theorem shm_28 : sh 1 28 = (1, 30) := by decide +kernel
theorem shm_29 : sh 1 29 = (1, 3) := by decide +kernel
theorem shm_30 : sh 1 30 = (1, 100000) := by decide +kernel
theorem shm_31 : sh 1 31 = (1, 100000) := by decide +kernel
theorem shm_32 : sh 1 32 = (1, 100000) := by decide +kernel
theorem shm_33 : sh 1 33 = (1, 100000) := by decide +kernel
theorem shm_34 : sh 1 34 = (1, 100000) := by decide +kernel
theorem shm_35 : sh 1 35 = (1, 300) := by decide +kernel
theorem shm_36 : sh 1 36 = (1, 8) := by decide +kernel
theorem shm_37 : sh 1 37 = (1, 6000) := by decide +kernel
theorem shm_38 : sh 1 38 = (1, 6000) := by decide +kernel
theorem shm_39 : sh 1 39 = (1, 6000) := by decide +kernel
theorem shm_40 : sh 1 40 = (1, 6000) := by decide +kernel
theorem shm_41 : sh 1 41 = (1, 500) := by decide +kernel
theorem shm_42 : sh 1 42 = (1, 8) := by decide +kernel
theorem shm_43 : sh 1 43 = (1, 60) := by decide +kernel
theorem shm_44 : sh 1 44 = (1, 60) := by decide +kernel
theorem shm_45 : sh 1 45 = (1, 5) := by decide +kernel
theorem shm_46 : sh 1 46 = (1, 960) := by decide +kernel
theorem shm_47 : sh 1 47 = (1, 960) := by decide +kernel
theorem shm_48 : sh 1 48 = (1, 960) := by decide +kernel
theorem shm_49 : sh 1 49 = (1, 960) := by decide +kernel
theorem shm_50 : sh 1 50 = (1, 960) := by decide +kernel
theorem shm_51 : sh 1 51 = (1, 960) := by decide +kernel
theorem shm_52 : sh 1 52 = (1, 960) := by decide +kernel
theorem shm_53 : sh 1 53 = (1, 4200) := by decide +kernel
theorem shm_54 : sh 1 54 = (1, 4200) := by decide +kernel
theorem shm_55 : sh 1 55 = (1, 200) := by decide +kernel
theorem shm_56 : sh 1 56 = (1, 200) := by decide +kernel
theorem shm_57 : sh 1 57 = (1, 25) := by decide +kernel
theorem shm_58 : sh 1 58 = (1, 25) := by decide +kernel
theorem shm_59 : sh 1 59 = (1, 25) := by decide +kernel
theorem shm_60 : sh 1 60 = (1, 5250) := by decide +kernel
theorem shm_61 : sh 1 61 = (1, 5250) := by decide +kernel
theorem shm_62 : sh 1 62 = (1, 25) := by decide +kernel
theorem shm_63 : sh 1 63 = (1, 25) := by decide +kernel
theorem shm_64 : sh 1 64 = (1, 25) := by decide +kernel
theorem shm_65 : sh 1 65 = (1, 25) := by decide +kernel
theorem shm_66 : sh 1 66 = (1, 25) := by decide +kernel
theorem shm_67 : sh 1 67 = (1, 210) := by decide +kernel
theorem shm_68 : sh 1 68 = (1, 210) := by decide +kernel
theorem shm_69 : sh 1 69 = (1, 210) := by decide +kernel
theorem shm_70 : sh 1 70 = (1, 210) := by decide +kernel
theorem shm_71 : sh 1 71 = (1, 210) := by decide +kernel
theorem shm_72 : sh 1 72 = (1, 210) := by decide +kernel
theorem shm_73 : sh 1 73 = (1, 6) := by decide +kernel
theorem shm_74 : sh 1 74 = (1, 41) := by decide +kernel
theorem shm_75 : sh 1 75 = (1, 41) := by decide +kernel
theorem shm_76 : sh 1 76 = (1, 10000) := by decide +kernel
theorem shm_77 : sh 1 77 = (1, 31) := by decide +kernel
theorem shm_78 : sh 1 78 = (1, 31) := by decide +kernel
theorem shm_79 : sh 1 79 = (1, 60) := by decide +kernel
theorem shm_80 : sh 1 80 = (1, 60) := by decide +kernel
theorem shm_81 : sh 1 81 = (1, 8) := by decide +kernel
theorem shm_82 : sh 1 82 = (1, 41) := by decide +kernel
theorem shm_83 : sh 1 83 = (1, 41) := by decide +kernel
theorem shm_84 : sh 1 84 = (1, 101) := by decide +kernel
theorem shm_85 : sh 1 85 = (1, 101) := by decide +kernel
theorem shm_86 : sh 1 86 = (1, 8) := by decide +kernel
theorem shm_87 : sh 1 87 = (1, 6) := by decide +kernel
theorem shm_88 : sh 1 88 = (2, 50000) := by decide +kernel
theorem shm_89 : sh 1 89 = (1, 210) := by decide +kernel
theorem sh_k {w j k : Nat} (h : (sh w j).1 = k) : sh w j = (k, (sh w j).2) := by rw [← h]
theorem sh_f {w j k n : Nat} (h : sh w j = (k, n)) : (sh w j).1 = k := by rw [h]
theorem sh_all {P : Nat → Bool} (h : (List.range (NC 0)).all P = true) {i : Nat} (hi : i < NC 0) : P i = true := List.all_eq_true.mp h i (List.mem_range.mpr hi)
theorem rl_X3_3 {i : Nat} (h : sh 0 i = (0, 2)) : sh 0 (i + 1) = (1, 432) := by
  have h1 := sh_all (P := fun i => !decide (sh 0 i = (0, 2)) || decide (sh 0 (i + 1) = (1, 432))) (by decide +kernel) (sh_lt h (by simp))
  simpa [h] using h1
theorem rl_X3_4 {i : Nat} (h : sh 0 i = (0, 2)) : sh 0 (i + 2) = (1, 72) := by
  have h1 := sh_all (P := fun i => !decide (sh 0 i = (0, 2)) || decide (sh 0 (i + 2) = (1, 72))) (by decide +kernel) (sh_lt h (by simp))
  simpa [h] using h1
theorem rl_X3_5 {i : Nat} (h : sh 0 i = (0, 2)) : sh 0 (i + 3) = (1, 72) := by
  have h1 := sh_all (P := fun i => !decide (sh 0 i = (0, 2)) || decide (sh 0 (i + 3) = (1, 72))) (by decide +kernel) (sh_lt h (by simp))
  simpa [h] using h1
theorem rl_X3_6 {i : Nat} (h : sh 0 i = (0, 2)) : sh 0 (i + 4) = (1, 2472) := by
  have h1 := sh_all (P := fun i => !decide (sh 0 i = (0, 2)) || decide (sh 0 (i + 4) = (1, 2472))) (by decide +kernel) (sh_lt h (by simp))
  simpa [h] using h1
theorem rl_X3_7 {i : Nat} (h : sh 0 i = (0, 2)) : sh 0 (i + 5) = (1, 2472) := by
  have h1 := sh_all (P := fun i => !decide (sh 0 i = (0, 2)) || decide (sh 0 (i + 5) = (1, 2472))) (by decide +kernel) (sh_lt h (by simp))
  simpa [h] using h1
theorem rl_X3_8 {i : Nat} (h : sh 0 i = (0, 2)) : sh 0 (i + 6) = (1, 2472) := by
  have h1 := sh_all (P := fun i => !decide (sh 0 i = (0, 2)) || decide (sh 0 (i + 6) = (1, 2472))) (by decide +kernel) (sh_lt h (by simp))
  simpa [h] using h1
theorem rl_X1_7 {i : Nat} (h : sh 0 i = (0, 0)) : sh 0 (i + 1) = (3, 60) := by
  have h1 := sh_all (P := fun i => !decide (sh 0 i = (0, 0)) || decide (sh 0 (i + 1) = (3, 60))) (by decide +kernel) (sh_lt h (by simp))
  simpa [h] using h1
theorem rl_X1_8 {i : Nat} (h : sh 0 i = (0, 0)) : sh 0 (i + 2) = (1, 8) := by
  have h1 := sh_all (P := fun i => !decide (sh 0 i = (0, 0)) || decide (sh 0 (i + 2) = (1, 8))) (by decide +kernel) (sh_lt h (by simp))
  simpa [h] using h1
theorem rl_X1_9 {i : Nat} (h : sh 0 i = (0, 0)) : sh 0 (i + 3) = (0, 1) := by
  have h1 := sh_all (P := fun i => !decide (sh 0 i = (0, 0)) || decide (sh 0 (i + 3) = (0, 1))) (by decide +kernel) (sh_lt h (by simp))
  simpa [h] using h1
theorem rl_X2_0 {i : Nat} (h : sh 0 i = (0, 1)) : sh 0 (i + 1) = (3, (sh 0 (i + 1)).2) := by
  have h1 := sh_all (P := fun i => !decide (sh 0 i = (0, 1)) || decide ((sh 0 (i + 1)).1 = 3)) (by decide +kernel) (sh_lt h (by simp))
  exact sh_k (by simpa [h] using h1)
theorem rl_X2_1 {i : Nat} (h : sh 0 i = (0, 1)) : sh 0 (i + 2) = (3, (sh 0 (i + 2)).2) := by
  have h1 := sh_all (P := fun i => !decide (sh 0 i = (0, 1)) || decide ((sh 0 (i + 2)).1 = 3)) (by decide +kernel) (sh_lt h (by simp))
  exact sh_k (by simpa [h] using h1)
theorem sel_2 (n : Nat) : sh 0 (sel 2 n) = (0, 2) := by
  unfold sel
  split
  · assumption
  · exact shx_2
theorem sel_1 (n : Nat) : sh 0 (sel 1 n) = (0, 1) := by
  unfold sel
  split
  · assumption
  · exact shx_18
theorem sel_0 (n : Nat) : sh 0 (sel 0 n) = (0, 0) := by
  unfold sel
  split
  · assumption
  · exact shx_119
theorem ptc_ok (n : Nat) : sh 0 (ptc n) = (0, 1) := by
  have h : ∀ k, k < 24 → sh 0 (47 + 3 * k) = (0, 1) := by decide +kernel
  exact h (n % 24) (Nat.mod_lt _ (by decide))
def isB (v : Int32) : Bool := v == 0 || v == 1
theorem isB_n {v : Int32} (h : isB v = true) : narrow .boolean (.int v) = .int v := by
  unfold isB at h
  rw [Bool.or_eq_true, beq_iff_eq, beq_iff_eq] at h
  rcases h with h | h <;> subst h <;> rfl
theorem isB_f {v : Int32} (h : isB v = true) : fits .boolean (.int v) = true := by
  unfold isB at h
  rw [Bool.or_eq_true, beq_iff_eq, beq_iff_eq] at h
  rcases h with h | h <;> subst h <;> rfl
def n32 (r : UInt32) : Bool := decide (r &&& 0x7fffffff ≤ 0x7f800000)
theorem n32_of {r : UInt32} (h : n32 r = true) : vf_n32 r := by
  unfold n32 at h
  unfold vf_n32
  exact of_decide_eq_true h
theorem nz_of {α : Type} {v z : α} [BEq α] [LawfulBEq α] (h : (!(v == z)) = true) : v ≠ z := by
  intro q
  subst q
  simp at h
theorem nb_of {b : Bool} (h : (!b) = true) : b = false := by simpa using h
theorem sw_out {x : Int32} {L : List Int32} {lo hi : Int} (hL : ((List.range (hi - lo + 1).toNat).all (fun k => L.contains (Int32.ofInt (lo + k))) && decide (-2147483648 ≤ lo) && decide (hi ≤ 2147483647)) = true) (h : ∀ k ∈ L, ¬ x = k) : x.toInt < lo ∨ hi < x.toInt := by
  rw [Bool.and_eq_true, Bool.and_eq_true, decide_eq_true_eq, decide_eq_true_eq] at hL
  obtain ⟨⟨h1, h2⟩, h3⟩ := hL
  rcases Int.lt_or_le x.toInt lo with q | q
  · exact Or.inl q
  · rcases Int.lt_or_le hi x.toInt with q2 | q2
    · exact Or.inr q2
    · exfalso
      have h4 := List.all_eq_true.mp h1 (x.toInt - lo).toNat (List.mem_range.mpr (by omega))
      have e1 : lo + ((x.toInt - lo).toNat : Int) = x.toInt := by omega
      rw [e1, Int32.ofInt_toInt, List.contains_iff_mem] at h4
      exact h x h4 rfl
theorem sw_ne {x k : Int32} (h : ¬ x = k) : ¬ x.toInt = k.toInt := fun q => h (Int32.toInt_inj.mp q)
theorem sw_nq {x k : Int32} (n : Int) (hk : k.toInt = n) (h : ¬ x = k) : ¬ n = x.toInt := fun q => h (Int32.toInt_inj.mp (q.symm.trans hk.symm))
abbrev FUEL : Nat := 10000000000
theorem wd_all {w : Nat} {G : Gt} {ad : Nat → Nat} {μ : Mem} : (List.range (NC w)).map (fun i => (wd w G ad μ)[i]?) = (wd w G ad μ).map some := by
  apply List.ext_getElem?
  intro j
  rw [List.getElem?_map, List.getElem?_map]
  rcases Nat.lt_or_ge j (NC w) with q | q
  · rw [List.getElem?_range q]
    show some ((wd w G ad μ)[j]?) = _
    have e1 : (wd w G ad μ).length = NC w := by unfold wd; rw [List.length_map, List.length_range]
    rw [List.getElem?_eq_getElem (by rw [e1]; exact q)]; rfl
  · have e1 : (wd w G ad μ).length = NC w := by unfold wd; rw [List.length_map, List.length_range]
    rw [List.getElem?_eq_none (by rw [List.length_range]; exact q), List.getElem?_eq_none (by rw [e1]; exact q)]; rfl
theorem nd_all {w : Nat} : va_nd (List.range (NC w)) = true := by
  match w with
  | 0 => decide +kernel
  | n + 1 => exact (by decide +kernel : va_nd (List.range (NC 1)) = true)
section MemCalls
variable {p : Program} {l : Launch} {e : Env} {R : Room} {s : State} {m : MethodId} {args : Array Value} {below : List Frame} {meth : Method} {c : Code} {H : Heap} {locs : List Loc} {Q : State → Prop}
variable {cc : ByteArray} {pc : Nat} {ls : Array Slot} {rest st0 : List Value} {A : Nat → Prop} {H0 : Heap} {ws : va_W} {nL : Nat} {own : String} {G : Gt} {ad : Nat → Nat} {μ μ1 : Mem} {w : Nat}
theorem g_callVI {y : MethodName} {bc : ByteArray} {mL index n : Nat} {rt : Option FieldType} {rm : Room} {C : String} {b : Nat} {As : List Value} {r0 : Int32} (cx : Cx p s m c args cc nL own G) (hw : Wd G A (wd w G ad μ) H0 H locs) (hA : ∀ q : Nat, H0.size ≤ q → A q) (hM : Mt l y bc mL rt rm G (.ref (ad b) :: As) (wd w G ad μ) (eI w G ad r0 μ1)) {ci N0 : Nat} {T0 : u_T} (hb : sh w b = (0, ci)) (hc : vwCl[ci]? = some (C, T0, N0)) (h1 : Cond.methodLink own index y ∈ lw_all) (h2 : Cond.instanceMethod y ∈ lw_all) (h3 : Cond.selects C y y ∈ lw_all) (h4 : Cond.initialized C ∈ lw_all) (h5 : Cond.code y bc mL rt ∈ lw_all) (hC0 : y.cls = C) (hd : y.cls ≠ "java/lang/invoke/MethodHandle" ∧ y.cls ≠ "java/lang/invoke/VarHandle" ∧ (parseMethodDescriptor y.desc).map (fun d => d.parameters.length) = some n) (hn : As.length = n) (hRm : rm.frames + 1 ≤ R.frames ∧ 8 + (mL + 11) + rm.locals ≤ R.locals) (hls : ls.size = nL) (hst : st0 = As.reverse ++ .ref (ad b) :: rest) (hstk : (rest.map fun v => v.category).sum ≤ 8) (hdg : decode cc pc = .ok (.invokevirtual index, 3)) (hf : rm.cells = 0 ∧ rm.slots = 0)
    (kk : ∀ (H1 : Heap) (locs1 : List Loc), Wd G A (wd w G ad μ1) H0 H1 locs1 → W p l e R s m args below meth c H1 locs1 0 0 Q (F0 m (pc + 3) ls (.int r0 :: rest))) : W p l e R s m args below meth c H locs 0 0 Q (F0 m pc ls st0) := by
  refine r_callVI cx hw hA hM (List.range (NC w)) [] (wr := []) wd_all nd_all rfl rfl rfl b (wd_ob hb) hc h1 h2 h3 h4 h5 hC0 hd hn hRm hls hst hstk hdg ⟨by rw [hf.1]; exact Nat.zero_le _, by rw [hf.2]; exact Nat.zero_le _⟩ (fun r u H1 locs1 hp hw1 => ?_)
  subst hp
  rw [hf.1, hf.2]
  exact kk H1 locs1 hw1
theorem g_callSI {y : MethodName} {bc : ByteArray} {mL index n : Nat} {rt : Option FieldType} {rm : Room} {As : List Value} {r0 : Int32} (cx : Cx p s m c args cc nL own G) (hw : Wd G A (wd w G ad μ) H0 H locs) (hA : ∀ q : Nat, H0.size ≤ q → A q) (hM : Mt l y bc mL rt rm G As (wd w G ad μ) (eI w G ad r0 μ1)) (h1 : Cond.methodLink own index y ∈ lw_all) (h2 : Cond.static y ∈ lw_all) (h4 : Cond.initialized y.cls ∈ lw_all) (h5 : Cond.code y bc mL rt ∈ lw_all) (hd : y.cls ≠ "java/lang/invoke/MethodHandle" ∧ y.cls ≠ "java/lang/invoke/VarHandle" ∧ (parseMethodDescriptor y.desc).map (fun d => d.parameters.length) = some n) (hn : As.length = n) (hRm : rm.frames + 1 ≤ R.frames ∧ 8 + (mL + 11) + rm.locals ≤ R.locals) (hls : ls.size = nL) (hst : st0 = As.reverse ++ rest) (hstk : (rest.map fun v => v.category).sum ≤ 8) (hdg : decode cc pc = .ok (.invokestatic index, 3)) (hf : rm.cells = 0 ∧ rm.slots = 0)
    (kk : ∀ (H1 : Heap) (locs1 : List Loc), Wd G A (wd w G ad μ1) H0 H1 locs1 → W p l e R s m args below meth c H1 locs1 0 0 Q (F0 m (pc + 3) ls (.int r0 :: rest))) : W p l e R s m args below meth c H locs 0 0 Q (F0 m pc ls st0) := by
  refine r_callSI cx hw hA hM (List.range (NC w)) [] (wr := []) wd_all nd_all rfl rfl rfl h1 h2 h4 h5 hd hn hRm hls hst hstk hdg ⟨by rw [hf.1]; exact Nat.zero_le _, by rw [hf.2]; exact Nat.zero_le _⟩ (fun r u H1 locs1 hp hw1 => ?_)
  subst hp
  rw [hf.1, hf.2]
  exact kk H1 locs1 hw1
theorem g_callVL {y : MethodName} {bc : ByteArray} {mL index n : Nat} {rt : Option FieldType} {rm : Room} {C : String} {b : Nat} {As : List Value} {r0 : Int64} (cx : Cx p s m c args cc nL own G) (hw : Wd G A (wd w G ad μ) H0 H locs) (hA : ∀ q : Nat, H0.size ≤ q → A q) (hM : Mt l y bc mL rt rm G (.ref (ad b) :: As) (wd w G ad μ) (eL w G ad r0 μ1)) {ci N0 : Nat} {T0 : u_T} (hb : sh w b = (0, ci)) (hc : vwCl[ci]? = some (C, T0, N0)) (h1 : Cond.methodLink own index y ∈ lw_all) (h2 : Cond.instanceMethod y ∈ lw_all) (h3 : Cond.selects C y y ∈ lw_all) (h4 : Cond.initialized C ∈ lw_all) (h5 : Cond.code y bc mL rt ∈ lw_all) (hC0 : y.cls = C) (hd : y.cls ≠ "java/lang/invoke/MethodHandle" ∧ y.cls ≠ "java/lang/invoke/VarHandle" ∧ (parseMethodDescriptor y.desc).map (fun d => d.parameters.length) = some n) (hn : As.length = n) (hRm : rm.frames + 1 ≤ R.frames ∧ 8 + (mL + 11) + rm.locals ≤ R.locals) (hls : ls.size = nL) (hst : st0 = As.reverse ++ .ref (ad b) :: rest) (hstk : (rest.map fun v => v.category).sum ≤ 8) (hdg : decode cc pc = .ok (.invokevirtual index, 3)) (hf : rm.cells = 0 ∧ rm.slots = 0)
    (kk : ∀ (H1 : Heap) (locs1 : List Loc), Wd G A (wd w G ad μ1) H0 H1 locs1 → W p l e R s m args below meth c H1 locs1 0 0 Q (F0 m (pc + 3) ls (.long r0 :: rest))) : W p l e R s m args below meth c H locs 0 0 Q (F0 m pc ls st0) := by
  refine r_callVL cx hw hA hM (List.range (NC w)) [] (wr := []) wd_all nd_all rfl rfl rfl b (wd_ob hb) hc h1 h2 h3 h4 h5 hC0 hd hn hRm hls hst hstk hdg ⟨by rw [hf.1]; exact Nat.zero_le _, by rw [hf.2]; exact Nat.zero_le _⟩ (fun r u H1 locs1 hp hw1 => ?_)
  subst hp
  rw [hf.1, hf.2]
  exact kk H1 locs1 hw1
theorem g_callSL {y : MethodName} {bc : ByteArray} {mL index n : Nat} {rt : Option FieldType} {rm : Room} {As : List Value} {r0 : Int64} (cx : Cx p s m c args cc nL own G) (hw : Wd G A (wd w G ad μ) H0 H locs) (hA : ∀ q : Nat, H0.size ≤ q → A q) (hM : Mt l y bc mL rt rm G As (wd w G ad μ) (eL w G ad r0 μ1)) (h1 : Cond.methodLink own index y ∈ lw_all) (h2 : Cond.static y ∈ lw_all) (h4 : Cond.initialized y.cls ∈ lw_all) (h5 : Cond.code y bc mL rt ∈ lw_all) (hd : y.cls ≠ "java/lang/invoke/MethodHandle" ∧ y.cls ≠ "java/lang/invoke/VarHandle" ∧ (parseMethodDescriptor y.desc).map (fun d => d.parameters.length) = some n) (hn : As.length = n) (hRm : rm.frames + 1 ≤ R.frames ∧ 8 + (mL + 11) + rm.locals ≤ R.locals) (hls : ls.size = nL) (hst : st0 = As.reverse ++ rest) (hstk : (rest.map fun v => v.category).sum ≤ 8) (hdg : decode cc pc = .ok (.invokestatic index, 3)) (hf : rm.cells = 0 ∧ rm.slots = 0)
    (kk : ∀ (H1 : Heap) (locs1 : List Loc), Wd G A (wd w G ad μ1) H0 H1 locs1 → W p l e R s m args below meth c H1 locs1 0 0 Q (F0 m (pc + 3) ls (.long r0 :: rest))) : W p l e R s m args below meth c H locs 0 0 Q (F0 m pc ls st0) := by
  refine r_callSL cx hw hA hM (List.range (NC w)) [] (wr := []) wd_all nd_all rfl rfl rfl h1 h2 h4 h5 hd hn hRm hls hst hstk hdg ⟨by rw [hf.1]; exact Nat.zero_le _, by rw [hf.2]; exact Nat.zero_le _⟩ (fun r u H1 locs1 hp hw1 => ?_)
  subst hp
  rw [hf.1, hf.2]
  exact kk H1 locs1 hw1
theorem g_callVV {y : MethodName} {bc : ByteArray} {mL index n : Nat} {rt : Option FieldType} {rm : Room} {C : String} {b : Nat} {As : List Value} (cx : Cx p s m c args cc nL own G) (hw : Wd G A (wd w G ad μ) H0 H locs) (hA : ∀ q : Nat, H0.size ≤ q → A q) (hM : Mt l y bc mL rt rm G (.ref (ad b) :: As) (wd w G ad μ) (eV w G ad μ1)) {ci N0 : Nat} {T0 : u_T} (hb : sh w b = (0, ci)) (hc : vwCl[ci]? = some (C, T0, N0)) (h1 : Cond.methodLink own index y ∈ lw_all) (h2 : Cond.instanceMethod y ∈ lw_all) (h3 : Cond.selects C y y ∈ lw_all) (h4 : Cond.initialized C ∈ lw_all) (h5 : Cond.code y bc mL rt ∈ lw_all) (hC0 : y.cls = C) (hd : y.cls ≠ "java/lang/invoke/MethodHandle" ∧ y.cls ≠ "java/lang/invoke/VarHandle" ∧ (parseMethodDescriptor y.desc).map (fun d => d.parameters.length) = some n) (hn : As.length = n) (hRm : rm.frames + 1 ≤ R.frames ∧ 8 + (mL + 11) + rm.locals ≤ R.locals) (hls : ls.size = nL) (hst : st0 = As.reverse ++ .ref (ad b) :: rest) (hstk : (rest.map fun v => v.category).sum ≤ 8) (hdg : decode cc pc = .ok (.invokevirtual index, 3)) (hf : rm.cells = 0 ∧ rm.slots = 0)
    (kk : ∀ (H1 : Heap) (locs1 : List Loc), Wd G A (wd w G ad μ1) H0 H1 locs1 → W p l e R s m args below meth c H1 locs1 0 0 Q (F0 m (pc + 3) ls rest)) : W p l e R s m args below meth c H locs 0 0 Q (F0 m pc ls st0) := by
  refine r_callVV cx hw hA hM (List.range (NC w)) [] (wr := []) wd_all nd_all rfl rfl rfl b (wd_ob hb) hc h1 h2 h3 h4 h5 hC0 hd hn hRm hls hst hstk hdg ⟨by rw [hf.1]; exact Nat.zero_le _, by rw [hf.2]; exact Nat.zero_le _⟩ (fun u H1 locs1 hp hw1 => ?_)
  rw [hf.1, hf.2]
  exact kk H1 locs1 hw1
theorem g_callSV {y : MethodName} {bc : ByteArray} {mL index n : Nat} {rt : Option FieldType} {rm : Room} {As : List Value} (cx : Cx p s m c args cc nL own G) (hw : Wd G A (wd w G ad μ) H0 H locs) (hA : ∀ q : Nat, H0.size ≤ q → A q) (hM : Mt l y bc mL rt rm G As (wd w G ad μ) (eV w G ad μ1)) (h1 : Cond.methodLink own index y ∈ lw_all) (h2 : Cond.static y ∈ lw_all) (h4 : Cond.initialized y.cls ∈ lw_all) (h5 : Cond.code y bc mL rt ∈ lw_all) (hd : y.cls ≠ "java/lang/invoke/MethodHandle" ∧ y.cls ≠ "java/lang/invoke/VarHandle" ∧ (parseMethodDescriptor y.desc).map (fun d => d.parameters.length) = some n) (hn : As.length = n) (hRm : rm.frames + 1 ≤ R.frames ∧ 8 + (mL + 11) + rm.locals ≤ R.locals) (hls : ls.size = nL) (hst : st0 = As.reverse ++ rest) (hstk : (rest.map fun v => v.category).sum ≤ 8) (hdg : decode cc pc = .ok (.invokestatic index, 3)) (hf : rm.cells = 0 ∧ rm.slots = 0)
    (kk : ∀ (H1 : Heap) (locs1 : List Loc), Wd G A (wd w G ad μ1) H0 H1 locs1 → W p l e R s m args below meth c H1 locs1 0 0 Q (F0 m (pc + 3) ls rest)) : W p l e R s m args below meth c H locs 0 0 Q (F0 m pc ls st0) := by
  refine r_callSV cx hw hA hM (List.range (NC w)) [] (wr := []) wd_all nd_all rfl rfl rfl h1 h2 h4 h5 hd hn hRm hls hst hstk hdg ⟨by rw [hf.1]; exact Nat.zero_le _, by rw [hf.2]; exact Nat.zero_le _⟩ (fun u H1 locs1 hp hw1 => ?_)
  rw [hf.1, hf.2]
  exact kk H1 locs1 hw1
theorem g_callVR {y : MethodName} {bc : ByteArray} {mL index n : Nat} {rt : Option FieldType} {rm : Room} {C : String} {b r0 : Nat} {As : List Value} (cx : Cx p s m c args cc nL own G) (hw : Wd G A (wd w G ad μ) H0 H locs) (hA : ∀ q : Nat, H0.size ≤ q → A q) (hM : Mt l y bc mL rt rm G (.ref (ad b) :: As) (wd w G ad μ) (eR w G ad r0 μ1)) {ci N0 : Nat} {T0 : u_T} (hb : sh w b = (0, ci)) (hc : vwCl[ci]? = some (C, T0, N0)) (h1 : Cond.methodLink own index y ∈ lw_all) (h2 : Cond.instanceMethod y ∈ lw_all) (h3 : Cond.selects C y y ∈ lw_all) (h4 : Cond.initialized C ∈ lw_all) (h5 : Cond.code y bc mL rt ∈ lw_all) (hC0 : y.cls = C) (hd : y.cls ≠ "java/lang/invoke/MethodHandle" ∧ y.cls ≠ "java/lang/invoke/VarHandle" ∧ (parseMethodDescriptor y.desc).map (fun d => d.parameters.length) = some n) (hn : As.length = n) (hRm : rm.frames + 1 ≤ R.frames ∧ 8 + (mL + 11) + rm.locals ≤ R.locals) (hls : ls.size = nL) (hst : st0 = As.reverse ++ .ref (ad b) :: rest) (hstk : (rest.map fun v => v.category).sum ≤ 8) (hdg : decode cc pc = .ok (.invokevirtual index, 3)) (hf : rm.cells = 0 ∧ rm.slots = 0)
    (kk : ∀ (H1 : Heap) (locs1 : List Loc), Wd G A (wd w G ad μ1) H0 H1 locs1 → W p l e R s m args below meth c H1 locs1 0 0 Q (F0 m (pc + 3) ls (.ref (ad r0) :: rest))) : W p l e R s m args below meth c H locs 0 0 Q (F0 m pc ls st0) := by
  have hPc := hw.1.maps (List.range (NC w)) wd_all
  have hDc := (hw.2.1.sub (List.range (NC w)) nd_all wd_all).weaken (B := fun _ => True) (fun _ _ _ _ => trivial)
  have hFc := va_free hw.2.1 hw.2.2 hA (List.range (NC w)) wd_all
  refine va_callr (va_runV (As := As) (rest := rest) ⟨cx.1, cx.2.1, cx.2.2.1, cx.2.2.2.1, cx.2.2.2.2.1⟩ (hM H.size) (cwV n cx.2.2.2.2.1 (lw_V h1 h2 h3 h4 h5) rfl rfl rfl ⟨hC0, hd⟩ hRm) ⟨cl_blind, va_recv cx.2.2.2.2.2.1 hw.1 (ci := ci) (q := (C, T0, N0)) (q0 := b) hc (wd_ob hb), fun U hU hW => ⟨rfl, by rw [hU], by rw [hU]; exact hPc, KK.moved hW.alike cx.2.2.2.2.2, hDc⟩⟩ rfl hn hls hst (lv_room hstk) hdg ⟨by rw [hf.1]; exact Nat.zero_le _, by rw [hf.2]; exact Nat.zero_le _⟩) hw.2.2 (fun q _ h => hFc q h) hFc (fun u ra t H1 locs1 ht hvm hp hB hz1 hk1 hS => ?_)
  obtain ⟨e1, hB⟩ := hB
  subst e1
  rw [hf.1, hf.2]
  exact kk H1 locs1 (cl_join (wr := []) hw hA (List.range (NC w)) [] wd_all rfl rfl rfl ht hB hk1 hS)
theorem s_callI {y : MethodName} {bc : ByteArray} {mL index n : Nat} {rt : Option FieldType} {rm : Room} {As : List Value} {r0 : Int32} (cx : Cx p s m c args cc nL own G) (hw : Wd G A ws H0 H locs) (hA : ∀ q : Nat, H0.size ≤ q → A q) (hM : Mt l y bc mL rt rm G As [] (sI G r0)) (h1 : Cond.methodLink own index y ∈ lw_all) (h2 : Cond.static y ∈ lw_all) (h4 : Cond.initialized y.cls ∈ lw_all) (h5 : Cond.code y bc mL rt ∈ lw_all) (hd : y.cls ≠ "java/lang/invoke/MethodHandle" ∧ y.cls ≠ "java/lang/invoke/VarHandle" ∧ (parseMethodDescriptor y.desc).map (fun d => d.parameters.length) = some n) (hn : As.length = n) (hRm : rm.frames + 1 ≤ R.frames ∧ 8 + (mL + 11) + rm.locals ≤ R.locals) (hls : ls.size = nL) (hst : st0 = As.reverse ++ rest) (hstk : (rest.map fun v => v.category).sum ≤ 8) (hdg : decode cc pc = .ok (.invokestatic index, 3)) (hf : (rm.cells, rm.slots) = (0, 0))
    (kk : ∀ (H1 : Heap) (locs1 : List Loc), Wd G A ws H0 H1 locs1 → W p l e R s m args below meth c H1 locs1 0 0 Q (F0 m (pc + 3) ls (.int r0 :: rest))) : W p l e R s m args below meth c H locs 0 0 Q (F0 m pc ls st0) := by
  have f1 : rm.cells = 0 := congrArg Prod.fst hf
  have f2 : rm.slots = 0 := congrArg Prod.snd hf
  refine r_callS0I cx hw hA hM h1 h2 h4 h5 hd hn hRm hls hst hstk hdg ⟨by rw [f1]; exact Nat.zero_le _, by rw [f2]; exact Nat.zero_le _⟩ (fun r H1 locs1 hp hw1 => ?_)
  subst hp
  rw [f1, f2]
  exact kk H1 locs1 hw1
theorem s_callL {y : MethodName} {bc : ByteArray} {mL index n : Nat} {rt : Option FieldType} {rm : Room} {As : List Value} {r0 : Int64} (cx : Cx p s m c args cc nL own G) (hw : Wd G A ws H0 H locs) (hA : ∀ q : Nat, H0.size ≤ q → A q) (hM : Mt l y bc mL rt rm G As [] (sJ G r0)) (h1 : Cond.methodLink own index y ∈ lw_all) (h2 : Cond.static y ∈ lw_all) (h4 : Cond.initialized y.cls ∈ lw_all) (h5 : Cond.code y bc mL rt ∈ lw_all) (hd : y.cls ≠ "java/lang/invoke/MethodHandle" ∧ y.cls ≠ "java/lang/invoke/VarHandle" ∧ (parseMethodDescriptor y.desc).map (fun d => d.parameters.length) = some n) (hn : As.length = n) (hRm : rm.frames + 1 ≤ R.frames ∧ 8 + (mL + 11) + rm.locals ≤ R.locals) (hls : ls.size = nL) (hst : st0 = As.reverse ++ rest) (hstk : (rest.map fun v => v.category).sum ≤ 8) (hdg : decode cc pc = .ok (.invokestatic index, 3)) (hf : (rm.cells, rm.slots) = (0, 0))
    (kk : ∀ (H1 : Heap) (locs1 : List Loc), Wd G A ws H0 H1 locs1 → W p l e R s m args below meth c H1 locs1 0 0 Q (F0 m (pc + 3) ls (.long r0 :: rest))) : W p l e R s m args below meth c H locs 0 0 Q (F0 m pc ls st0) := by
  have f1 : rm.cells = 0 := congrArg Prod.fst hf
  have f2 : rm.slots = 0 := congrArg Prod.snd hf
  refine r_callS0L cx hw hA hM h1 h2 h4 h5 hd hn hRm hls hst hstk hdg ⟨by rw [f1]; exact Nat.zero_le _, by rw [f2]; exact Nat.zero_le _⟩ (fun r H1 locs1 hp hw1 => ?_)
  subst hp
  rw [f1, f2]
  exact kk H1 locs1 hw1
theorem va_ldcwF {cells slots : Nat} {T : State} (X : Stand p l e R s m args below meth c T locs cells slots) (hexec : p.tables.exec = Jvm.exec) {own : String} {index : Nat} {v : UInt32} (hown : s.vm.findClass own = some m.cls)
    (hconst : (Cond.constantFloat own index v).before args s = true) {g : JFrame} (hg : g.method = m) (hdg : decode c.code g.pc = .ok (.ldc_w index, 3)) :
    ∀ target, Steps p.tables e below (T.setTop { g with pc := g.pc + 3, stack := .float v :: g.stack }) target → Steps p.tables e below (T.setTop g) target := by
  obtain ⟨k, cf, hk, hcf, hcp⟩ := Cond.constantFloat_spec hown hconst
  obtain ⟨k', hk', he⟩ := X.warmed.alike.2.2 _ _ hk
  intro target hrest
  subst hg
  jvm_step X.here [hexec, hdg, ldc_w.wp_float (s := T) (f := g) X.here.top hk' (by rw [he]; exact hcf) hcp]
  exact hrest
theorem lv_ldcwf {cells slots : Nat} (hexec : p.tables.exec = Jvm.exec) (hb : c.code = cc) {own : String} {index : Nat} {v : UInt32} (hown : s.vm.findClass own = some m.cls) (hconst : (Jvm.Cond.constantFloat own index v).before args s = true) (hdg : decode cc pc = .ok (.ldc_w index, 3)) (k : W p l e R s m args below meth c H locs cells slots Q (F0 m (pc + 3) ls (.float v :: rest))) : W p l e R s m args below meth c H locs cells slots Q (F0 m pc ls rest) := by
  intro T hT X
  obtain ⟨t, a, b⟩ := k T hT X
  exact ⟨t, va_ldcwF X hexec hown hconst (g := F0 m pc ls rest) rfl (by rw [hb]; exact hdg) t a, b⟩
theorem g_aret {v r : Nat} {cn : String} {mc ms : Nat} (cx : Cx p s m c args cc nL own G) (hr : meth.sig.returnType = some (.object cn)) (hlk : meth.locks = false) (hw : Wd G A (wd w G ad μ) s.heap H locs) (h : some (v, μ) = some (r, μ1)) (hdg : decode cc pc = .ok (.areturn, 1)) : W p l e R s m args below meth c H locs 0 0 (MQ below (eR w G ad r μ1 A) args s mc ms A) (F0 m pc ls [.ref (ad v)]) := by
  cases h
  refine W.widen (k := mc) (n := ms) (Nat.zero_le _) (Nat.zero_le _) ?_
  exact W.aret cx.1 cx.2.1 hr (Or.inl ⟨cn, rfl⟩) (Or.inr ⟨ad v, rfl⟩) (fun t ht hW => ⟨⟨(), ad v, rfl, trivial, rfl, by rw [ht]; exact hw.1, hw.2.1⟩, hw.2.2.F ht⟩) hw.2.2.2.2 hdg hlk
/-- a field that always holds the one object -/
theorem g_putC (cx : Cx p s m c args cc nL own G) (hw : Wd G A (wd w G ad μ) H0 H locs) {C : String} {T : u_T} {N ci index i j : Nat} (hin : ∀ w ∈ u_ws C T N, w ∈ lw_all) (hc : vwCl[ci]? = some (C, T, N)) {ty0 : Nat → FieldType} (hty : ∀ k, k < N → parseFieldDescriptor (T k).2.2.1 = some (ty0 k)) (hnm : ∀ a, a < N → ∀ b, b < N → a ≠ b → (T a).2.1 ≠ (T b).2.1) (k : Nat) (hk : k < N) (ht : (sk ci)[k]? = some (2, j)) (hfin : (T k).2.2.2 = false) (hn : narrow (ty0 k) (.ref (ad j)) = .ref (ad j)) (hfit : fits (ty0 k) (.ref (ad j)) = true) (hi : sh w i = (0, ci)) (hlink : Cond.fieldLink own index (T k).1 (T k).2.1 (T k).2.2.1 ∈ lw_all) (hdg : decode cc pc = .ok (.putfield index, 3))
    (kk : ∀ (H1 : Heap) (locs1 : List Loc), Wd G A (wd w G ad μ) H0 H1 locs1 → W p l e R s m args below meth c H1 locs1 0 0 Q (F0 m (pc + 3) ls rest)) : W p l e R s m args below meth c H locs 0 0 Q (F0 m pc ls (.ref (ad j) :: .ref (ad i) :: rest)) := by
  have e1 : (fsOf ad μ i ci).set k (.ref (ad j)) = fsOf ad μ i ci := by
    apply List.ext_getElem?
    intro q
    rw [List.getElem?_set]
    by_cases z : k = q
    · subst z
      rw [if_pos rfl, fs_len, if_pos (List.getElem?_eq_some_iff.mp ht).1, fs_at ht]; rfl
    · rw [if_neg z]
  have e2 : (wd w G ad μ).set i (ad i, .inr (ci, (fsOf ad μ i ci).set k (.ref (ad j)))) = wd w G ad μ := by
    rw [e1]
    refine wd_set (sh_lt hi (by simp)) ?_ (fun _ _ => rfl)
    rw [hi]; rfl
  exact r_put cx hw hin hc hty hnm i (wd_ob hi) k hk hlink hfin hn hfit (by rw [fs_len]; exact (List.getElem?_eq_some_iff.mp ht).1) e2 hdg (fun H1 locs1 hw1 => kk H1 locs1 hw1)
end MemCalls
theorem Met.ofWF {l : Launch} {y : MethodName} {ws ws' : List Cond} {rm : Room} {Pc : Array Value → State → Prop} {Qc : Array Value → State → Outcome → State → Prop} {mc ms : Nat} {free : Addr → Prop} {cc : ByteArray} {maxL : Nat} {ret : Option FieldType}
    (hy : plainFor y = true) (hw : ws = Cond.code y cc maxL ret :: ws')
    (body : ∀ p e s m args below meth c s₁, BodyLoose p l y (headSpec ws rm) cc maxL ret e s m args below meth c s₁ → c.maxLocals = maxL → Pc args s →
      W p l e (headSpec ws rm).room s m args below meth c s.heap [] 0 0 (MQ below Qc args s mc ms free) (entryFrame m args maxL)) : Met l y ws rm Pc Qc mc ms free := by
  refine MetFree.of_bodySF (code := cc) (maxLocals := maxL) (ret := ret) hy ?_ ?_
  · intro args s m h hn
    obtain ⟨meth, c, h1, h2, h3, h4, h5, h6, -, -⟩ := Cond.code_spec hn (atoms_spec (ws := ws) h _ (by rw [hw]; exact List.mem_cons_self))
    exact ⟨meth, c, h1, h2, h3, h4, h5, h6⟩
  · intro p e s m args below meth c s₁ B hml hP _
    have hh0 : s₁.heap = s.heap := by rw [B.state]; rfl
    obtain ⟨t, a1, o, b1, b2, b3⟩ := body p e s m args below meth c s₁ B hml hP s₁ hh0 (Stand.of_body B)
    exact ⟨t, o, a1, b1, b2, ⟨b3.1, b3.2⟩⟩
section Rows
variable {p : Program} {l : Launch} {e : Env} {R : Room} {s : State} {m : MethodId} {args : Array Value} {below : List Frame} {meth : Method} {c : Code} {H : Heap} {locs : List Loc} {cells slots : Nat} {Q : State → Prop}
variable {cc : ByteArray} {pc : Nat} {ls : Array Slot} {rest : List Value} {A : Nat → Prop} {H0 : Heap} {ws ws' : va_W} {a nL : Nat} {own : String} {G : Gt}
theorem Mt.ofF {y : MethodName} {mL : Nat} {rt : Option FieldType} {rm : Room} {av : List Value} {W0 : va_W} {Qf : (Nat → Prop) → Array Value → State → Outcome → State → Prop} (hy : plainFor y = true) (hown : y.cls = own) (hav : (lg_sl av).length ≤ mL)
    (body : ∀ (p : Program) (e : Env) (s : State) (m : MethodId) (below : List Frame) (meth : Method) (c : Code) (A : Nat → Prop) (ls : Array Slot), Cx p s m c av.toArray cc mL own G → meth.sig.returnType = rt → meth.locks = false → meth.name = y.name → (∀ q : Nat, s.heap.size ≤ q → A q) → lv_has ls mL (lv_args 0 av) → Wd G A W0 s.heap s.heap [] →
      W p l e rm s m av.toArray below meth c s.heap [] 0 0 (MQ below (Qf A) av.toArray s rm.cells rm.slots A) (F0 m 0 ls [])) : Mt l y cc mL rt rm G av W0 Qf := by
  intro sz
  refine Met.ofWF (cc := cc) (maxL := mL) (ret := rt) hy rfl ?_
  intro p e s m args below meth c s₁ B hml hv
  obtain ⟨rfl, hsz, hP, hK, hD0⟩ := hv
  have hts := atoms_spec (ws := ws_ y cc mL rt) B.pre
  have hts : ∀ w ∈ lw_all, w.before _ s = true := fun w h => hts w (List.mem_cons_of_mem _ h)
  subst hsz
  have hD := hD0.self (sz := s.heap.size)
  have hl := lv_entry av (n := mL) hav
  rw [lg_entry_eq]
  generalize (lg_sl av ++ List.replicate (mL - (lg_sl av).length) Slot.unset).toArray = ls at hl ⊢
  exact body p e s m below meth c (va_A W0 s.heap.size) ls ⟨B.exec, B.bytes, hml, hown ▸ findClass_of_methodNamed B.named, hts, hK⟩ B.returns B.notSynchronized (name_of_methodNamed B.named B.method).1 (fun q h => Or.inr h) hl ⟨hP, hD, va_S.rf⟩
end Rows
abbrev yF_i2f : MethodName := ⟨"java/lang/Float", "intBitsToFloat", "(I)F"⟩
abbrev yF_f2i : MethodName := ⟨"java/lang/Float", "floatToRawIntBits", "(F)I"⟩
theorem na_i2f : Cond.native yF_i2f ∈ lw_all := lw_t9 (i := 39) (by decide +kernel) rfl
theorem sF_i2f : Cond.static yF_i2f ∈ lw_all := lw_t9 (i := 38) (by decide +kernel) rfl
theorem ml_X12_296 : Cond.methodLink RX12 296 yF_i2f ∈ lw_all := lw_t9 (i := 37) (by decide +kernel) rfl
theorem na_f2i : Cond.native yF_f2i ∈ lw_all := lw_t9 (i := 58) (by decide +kernel) rfl
theorem sF_f2i : Cond.static yF_f2i ∈ lw_all := lw_t9 (i := 57) (by decide +kernel) rfl
theorem ml_Jxf58ca_74 : Cond.methodLink RJxf58ca 74 yF_f2i ∈ lw_all := lw_t9 (i := 56) (by decide +kernel) rfl
section Nat4
variable {p : Program} {l : Launch} {e : Env} {R : Room} {s : State} {m : MethodId} {args : Array Value} {below : List Frame} {meth : Method} {c : Code} {H : Heap} {locs : List Loc} {cells slots : Nat} {Q : State → Prop} {cc : ByteArray} {pc nL : Nat} {ls : Array Slot} {rest : List Value} {own : String} {G : Gt}
theorem r_i2f {index : Nat} {b : Int32} (cx : Cx p s m c args cc nL own G) (hlink : Cond.methodLink own index yF_i2f ∈ lw_all) (hls : ls.size = nL) (hv : vn_sni2f b = false) (hframes : 1 ≤ R.frames) (hlocals : (rest.map fun v => v.category).sum + 15 ≤ R.locals) (hdg : decode cc pc = .ok (.invokestatic index, 3))
    (k : W p l e R s m args below meth c H locs cells slots Q (F0 m (pc + 3) ls (.float b.toUInt32 :: rest))) : W p l e R s m args below meth c H locs cells slots Q (F0 m pc ls (.int b :: rest)) :=
  vn_i2f cx.1 cx.2.1 (cx.2.2.1.trans hls.symm) cx.2.2.2.1 (cx.2.2.2.2.1 _ hlink) (cx.2.2.2.2.1 _ na_i2f) (cx.2.2.2.2.1 _ sF_i2f) (cx.2.2.2.2.1 _ in_Jxf58ca) hv hframes hlocals hdg k
theorem r_f2i {index : Nat} {b : UInt32} (cx : Cx p s m c args cc nL own G) (hlink : Cond.methodLink own index yF_f2i ∈ lw_all) (hls : ls.size = nL) (hframes : 1 ≤ R.frames) (hlocals : (rest.map fun v => v.category).sum + 15 ≤ R.locals) (hdg : decode cc pc = .ok (.invokestatic index, 3))
    (k : W p l e R s m args below meth c H locs cells slots Q (F0 m (pc + 3) ls (.int b.toInt32 :: rest))) : W p l e R s m args below meth c H locs cells slots Q (F0 m pc ls (.float b :: rest)) :=
  vn_f2i cx.1 cx.2.1 (cx.2.2.1.trans hls.symm) cx.2.2.2.1 (cx.2.2.2.2.1 _ hlink) (cx.2.2.2.2.1 _ na_f2i) (cx.2.2.2.2.1 _ sF_f2i) (cx.2.2.2.2.1 _ in_Jxf58ca) hframes hlocals hdg k
end Nat4
theorem Bk.mtF {l : Launch} {cc : ByteArray} {own : String} {G : Gt} {y : MethodName} {mL : Nat} {rt : Option FieldType} {rm : Room} {av : List Value} {W0 : va_W} {Qf : (Nat → Prop) → Array Value → State → Outcome → State → Prop} (hy : plainFor y = true) (hown : y.cls = own) (hav : (lg_sl av).length ≤ mL) (hB : Bk l cc mL own rt rm G av Qf W0 0 (lv_args 0 av) []) : Mt l y cc mL rt rm G av W0 Qf :=
  Mt.ofF hy hown hav (fun p e s m below meth c A ls cx hr hlk _ hA hl hw => hB p e s m below meth c A ls s.heap [] cx hr hlk hA hl hw)
