theorem sh_0 : sh 0 = (0, 10) := by decide +kernel
theorem sh_1 : sh 1 = (1, 800) := by decide +kernel
theorem sh_2 : sh 2 = (0, 2) := by decide +kernel
theorem sh_3 : sh 3 = (1, 432) := by decide +kernel
theorem sh_4 : sh 4 = (1, 72) := by decide +kernel
theorem sh_5 : sh 5 = (1, 72) := by decide +kernel
theorem sh_6 : sh 6 = (1, 2472) := by decide +kernel
theorem sh_7 : sh 7 = (1, 2472) := by decide +kernel
theorem sh_8 : sh 8 = (1, 2472) := by decide +kernel
theorem sh_9 : sh 9 = (0, 2) := by decide +kernel
theorem sh_10 : sh 10 = (1, 432) := by decide +kernel
theorem sh_11 : sh 11 = (1, 72) := by decide +kernel
theorem sh_12 : sh 12 = (1, 72) := by decide +kernel
theorem sh_13 : sh 13 = (1, 2472) := by decide +kernel
theorem sh_14 : sh 14 = (1, 2472) := by decide +kernel
theorem sh_15 : sh 15 = (1, 2472) := by decide +kernel
theorem sh_16 : sh 16 = (0, 3) := by decide +kernel
theorem sh_17 : sh 17 = (1, 32) := by decide +kernel
theorem sh_18 : sh 18 = (0, 1) := by decide +kernel
theorem sh_19 : sh 19 = (3, 30) := by decide +kernel
theorem sh_20 : sh 20 = (3, 30) := by decide +kernel
theorem sh_21 : sh 21 = (0, 1) := by decide +kernel
theorem sh_22 : sh 22 = (3, 30) := by decide +kernel
theorem sh_23 : sh 23 = (3, 30) := by decide +kernel
theorem sh_24 : sh 24 = (0, 1) := by decide +kernel
theorem sh_25 : sh 25 = (3, 30) := by decide +kernel
theorem sh_26 : sh 26 = (3, 30) := by decide +kernel
theorem sh_27 : sh 27 = (0, 1) := by decide +kernel
theorem sh_28 : sh 28 = (3, 30) := by decide +kernel
theorem sh_29 : sh 29 = (3, 30) := by decide +kernel
theorem sh_30 : sh 30 = (0, 7) := by decide +kernel
theorem sh_31 : sh 31 = (3, 30200) := by decide +kernel
theorem sh_32 : sh 32 = (3, 30200) := by decide +kernel
theorem sh_33 : sh 33 = (1, 30200) := by decide +kernel
theorem sh_34 : sh 34 = (1, 30200) := by decide +kernel
theorem sh_35 : sh 35 = (3, 264) := by decide +kernel
theorem sh_36 : sh 36 = (3, 2480) := by decide +kernel
theorem sh_37 : sh 37 = (3, 992) := by decide +kernel
theorem sh_38 : sh 38 = (1, 31) := by decide +kernel
theorem sh_39 : sh 39 = (0, 4) := by decide +kernel
theorem sh_40 : sh 40 = (1, 2400) := by decide +kernel
theorem sh_41 : sh 41 = (3, 3000) := by decide +kernel
theorem sh_42 : sh 42 = (1, 672) := by decide +kernel
theorem sh_43 : sh 43 = (1, 672) := by decide +kernel
theorem sh_44 : sh 44 = (3, 672) := by decide +kernel
theorem sh_45 : sh 45 = (1, 96) := by decide +kernel
theorem sh_46 : sh 46 = (4, 24) := by decide +kernel
theorem sh_47 : sh 47 = (0, 1) := by decide +kernel
theorem sh_48 : sh 48 = (3, 200) := by decide +kernel
theorem sh_49 : sh 49 = (3, 200) := by decide +kernel
theorem sh_50 : sh 50 = (0, 1) := by decide +kernel
theorem sh_51 : sh 51 = (3, 200) := by decide +kernel
theorem sh_52 : sh 52 = (3, 200) := by decide +kernel
theorem sh_53 : sh 53 = (0, 1) := by decide +kernel
theorem sh_54 : sh 54 = (3, 200) := by decide +kernel
theorem sh_55 : sh 55 = (3, 200) := by decide +kernel
theorem sh_56 : sh 56 = (0, 1) := by decide +kernel
theorem sh_57 : sh 57 = (3, 200) := by decide +kernel
theorem sh_58 : sh 58 = (3, 200) := by decide +kernel
theorem sh_59 : sh 59 = (0, 1) := by decide +kernel
theorem sh_60 : sh 60 = (3, 200) := by decide +kernel
theorem sh_61 : sh 61 = (3, 200) := by decide +kernel
theorem sh_62 : sh 62 = (0, 1) := by decide +kernel
theorem sh_63 : sh 63 = (3, 200) := by decide +kernel
theorem sh_64 : sh 64 = (3, 200) := by decide +kernel
theorem sh_65 : sh 65 = (0, 1) := by decide +kernel
theorem sh_66 : sh 66 = (3, 200) := by decide +kernel
theorem sh_67 : sh 67 = (3, 200) := by decide +kernel
theorem sh_68 : sh 68 = (0, 1) := by decide +kernel
theorem sh_69 : sh 69 = (3, 200) := by decide +kernel
theorem sh_70 : sh 70 = (3, 200) := by decide +kernel
theorem sh_71 : sh 71 = (0, 1) := by decide +kernel
theorem sh_72 : sh 72 = (3, 200) := by decide +kernel
theorem sh_73 : sh 73 = (3, 200) := by decide +kernel
theorem sh_74 : sh 74 = (0, 1) := by decide +kernel
theorem sh_75 : sh 75 = (3, 200) := by decide +kernel
theorem sh_76 : sh 76 = (3, 200) := by decide +kernel
theorem sh_77 : sh 77 = (0, 1) := by decide +kernel
theorem sh_78 : sh 78 = (3, 200) := by decide +kernel
theorem sh_79 : sh 79 = (3, 200) := by decide +kernel
theorem sh_80 : sh 80 = (0, 1) := by decide +kernel
theorem sh_81 : sh 81 = (3, 200) := by decide +kernel
theorem sh_82 : sh 82 = (3, 200) := by decide +kernel
theorem sh_83 : sh 83 = (0, 1) := by decide +kernel
theorem sh_84 : sh 84 = (3, 200) := by decide +kernel
theorem sh_85 : sh 85 = (3, 200) := by decide +kernel
theorem sh_86 : sh 86 = (0, 1) := by decide +kernel
theorem sh_87 : sh 87 = (3, 200) := by decide +kernel
theorem sh_88 : sh 88 = (3, 200) := by decide +kernel
theorem sh_89 : sh 89 = (0, 1) := by decide +kernel
theorem sh_90 : sh 90 = (3, 200) := by decide +kernel
theorem sh_91 : sh 91 = (3, 200) := by decide +kernel
theorem sh_92 : sh 92 = (0, 1) := by decide +kernel
theorem sh_93 : sh 93 = (3, 200) := by decide +kernel
theorem sh_94 : sh 94 = (3, 200) := by decide +kernel
theorem sh_95 : sh 95 = (0, 1) := by decide +kernel
theorem sh_96 : sh 96 = (3, 200) := by decide +kernel
theorem sh_97 : sh 97 = (3, 200) := by decide +kernel
theorem sh_98 : sh 98 = (0, 1) := by decide +kernel
theorem sh_99 : sh 99 = (3, 200) := by decide +kernel
theorem sh_100 : sh 100 = (3, 200) := by decide +kernel
theorem sh_101 : sh 101 = (0, 1) := by decide +kernel
theorem sh_102 : sh 102 = (3, 200) := by decide +kernel
theorem sh_103 : sh 103 = (3, 200) := by decide +kernel
theorem sh_104 : sh 104 = (0, 1) := by decide +kernel
theorem sh_105 : sh 105 = (3, 200) := by decide +kernel
theorem sh_106 : sh 106 = (3, 200) := by decide +kernel
theorem sh_107 : sh 107 = (0, 1) := by decide +kernel
theorem sh_108 : sh 108 = (3, 200) := by decide +kernel
theorem sh_109 : sh 109 = (3, 200) := by decide +kernel
theorem sh_110 : sh 110 = (0, 1) := by decide +kernel
theorem sh_111 : sh 111 = (3, 200) := by decide +kernel
theorem sh_112 : sh 112 = (3, 200) := by decide +kernel
theorem sh_113 : sh 113 = (0, 1) := by decide +kernel
theorem sh_114 : sh 114 = (3, 200) := by decide +kernel
theorem sh_115 : sh 115 = (3, 200) := by decide +kernel
theorem sh_116 : sh 116 = (0, 1) := by decide +kernel
theorem sh_117 : sh 117 = (3, 200) := by decide +kernel
theorem sh_118 : sh 118 = (3, 200) := by decide +kernel
theorem sh_119 : sh 119 = (0, 0) := by decide +kernel
theorem sh_120 : sh 120 = (3, 60) := by decide +kernel
theorem sh_121 : sh 121 = (1, 8) := by decide +kernel
theorem sh_122 : sh 122 = (0, 1) := by decide +kernel
theorem sh_123 : sh 123 = (3, 40) := by decide +kernel
theorem sh_124 : sh 124 = (3, 40) := by decide +kernel
theorem sh_125 : sh 125 = (0, 0) := by decide +kernel
theorem sh_126 : sh 126 = (3, 60) := by decide +kernel
theorem sh_127 : sh 127 = (1, 8) := by decide +kernel
theorem sh_128 : sh 128 = (0, 1) := by decide +kernel
theorem sh_129 : sh 129 = (3, 40) := by decide +kernel
theorem sh_130 : sh 130 = (3, 40) := by decide +kernel
theorem sh_131 : sh 131 = (0, 0) := by decide +kernel
theorem sh_132 : sh 132 = (3, 60) := by decide +kernel
theorem sh_133 : sh 133 = (1, 8) := by decide +kernel
theorem sh_134 : sh 134 = (0, 1) := by decide +kernel
theorem sh_135 : sh 135 = (3, 40) := by decide +kernel
theorem sh_136 : sh 136 = (3, 40) := by decide +kernel
theorem sh_137 : sh 137 = (0, 9) := by decide +kernel
theorem sh_138 : sh 138 = (1, 780) := by decide +kernel
theorem sh_139 : sh 139 = (3, 260) := by decide +kernel
theorem sh_140 : sh 140 = (3, 8) := by decide +kernel
theorem sh_141 : sh 141 = (3, 8) := by decide +kernel
theorem sh_142 : sh 142 = (0, 1) := by decide +kernel
theorem sh_143 : sh 143 = (3, 200) := by decide +kernel
theorem sh_144 : sh 144 = (3, 200) := by decide +kernel
theorem sh_145 : sh 145 = (0, 1) := by decide +kernel
theorem sh_146 : sh 146 = (3, 200) := by decide +kernel
theorem sh_147 : sh 147 = (3, 200) := by decide +kernel
theorem sh_148 : sh 148 = (0, 6) := by decide +kernel
theorem sh_149 : sh 149 = (3, 8) := by decide +kernel
theorem sh_150 : sh 150 = (3, 5) := by decide +kernel
theorem sh_151 : sh 151 = (0, 5) := by decide +kernel
theorem sh_152 : sh 152 = (3, 9548) := by decide +kernel
theorem sh_153 : sh 153 = (3, 8) := by decide +kernel
theorem sh_154 : sh 154 = (1, 744) := by decide +kernel
theorem sh_155 : sh 155 = (1, 744) := by decide +kernel
theorem sh_156 : sh 156 = (0, 1) := by decide +kernel
theorem sh_157 : sh 157 = (3, 40) := by decide +kernel
theorem sh_158 : sh 158 = (3, 40) := by decide +kernel
theorem sh_159 : sh 159 = (0, 8) := by decide +kernel
theorem sh_160 : sh 160 = (2, 40000) := by decide +kernel
theorem sh_161 : sh 161 = (0, 11) := by decide +kernel
theorem sh_162 : sh 162 = (2, 800) := by decide +kernel
theorem sh_163 : sh 163 = (1, 73) := by decide +kernel
theorem sh_164 : sh 164 = (1, 73) := by decide +kernel
theorem sh_165 : sh 165 = (1, 365) := by decide +kernel
theorem sh_166 : sh 166 = (1, 73) := by decide +kernel
theorem sh_167 : sh 167 = (1, 73) := by decide +kernel
theorem sh_168 : sh 168 = (1, 800) := by decide +kernel
theorem sh_169 : sh 169 = (1, 800) := by decide +kernel
theorem sh_170 : sh 170 = (1, 800) := by decide +kernel
theorem sh_171 : sh 171 = (1, 800) := by decide +kernel
theorem sh_172 : sh 172 = (1, 73) := by decide +kernel
theorem sh_173 : sh 173 = (1, 73) := by decide +kernel
theorem sh_174 : sh 174 = (1, 365) := by decide +kernel
theorem sh_175 : sh 175 = (1, 73) := by decide +kernel
theorem sh_176 : sh 176 = (1, 73) := by decide +kernel
theorem sh_177 : sh 177 = (1, 800) := by decide +kernel
theorem sh_178 : sh 178 = (1, 800) := by decide +kernel
theorem sh_179 : sh 179 = (1, 800) := by decide +kernel
theorem sh_180 : sh 180 = (1, 20) := by decide +kernel
theorem sh_181 : sh 181 = (1, 20) := by decide +kernel
theorem sh_182 : sh 182 = (1, 14) := by decide +kernel
theorem sh_183 : sh 183 = (1, 30) := by decide +kernel
theorem sh_184 : sh 184 = (1, 30) := by decide +kernel
theorem sh_185 : sh 185 = (1, 30) := by decide +kernel
theorem sh_186 : sh 186 = (1, 30) := by decide +kernel
theorem sh_187 : sh 187 = (1, 30) := by decide +kernel
theorem sh_188 : sh 188 = (1, 30) := by decide +kernel
theorem sh_189 : sh 189 = (1, 30) := by decide +kernel
theorem sh_190 : sh 190 = (1, 3) := by decide +kernel
theorem sh_191 : sh 191 = (1, 100000) := by decide +kernel
theorem sh_192 : sh 192 = (1, 100000) := by decide +kernel
theorem sh_193 : sh 193 = (1, 100000) := by decide +kernel
theorem sh_194 : sh 194 = (1, 100000) := by decide +kernel
theorem sh_195 : sh 195 = (1, 100000) := by decide +kernel
theorem sh_196 : sh 196 = (1, 300) := by decide +kernel
theorem sh_197 : sh 197 = (1, 8) := by decide +kernel
theorem sh_198 : sh 198 = (1, 6000) := by decide +kernel
theorem sh_199 : sh 199 = (1, 6000) := by decide +kernel
theorem sh_200 : sh 200 = (1, 6000) := by decide +kernel
theorem sh_201 : sh 201 = (1, 6000) := by decide +kernel
theorem sh_202 : sh 202 = (1, 500) := by decide +kernel
theorem sh_203 : sh 203 = (1, 8) := by decide +kernel
theorem sh_204 : sh 204 = (1, 60) := by decide +kernel
theorem sh_205 : sh 205 = (1, 60) := by decide +kernel
theorem sh_206 : sh 206 = (1, 5) := by decide +kernel
theorem sh_207 : sh 207 = (1, 960) := by decide +kernel
theorem sh_208 : sh 208 = (1, 960) := by decide +kernel
theorem sh_209 : sh 209 = (1, 960) := by decide +kernel
theorem sh_210 : sh 210 = (1, 960) := by decide +kernel
theorem sh_211 : sh 211 = (1, 960) := by decide +kernel
theorem sh_212 : sh 212 = (1, 960) := by decide +kernel
theorem sh_213 : sh 213 = (1, 960) := by decide +kernel
theorem sh_214 : sh 214 = (1, 4200) := by decide +kernel
theorem sh_215 : sh 215 = (1, 4200) := by decide +kernel
theorem sh_216 : sh 216 = (1, 200) := by decide +kernel
theorem sh_217 : sh 217 = (1, 200) := by decide +kernel
theorem sh_218 : sh 218 = (1, 25) := by decide +kernel
theorem sh_219 : sh 219 = (1, 25) := by decide +kernel
theorem sh_220 : sh 220 = (1, 25) := by decide +kernel
theorem sh_221 : sh 221 = (1, 5250) := by decide +kernel
theorem sh_222 : sh 222 = (1, 5250) := by decide +kernel
theorem sh_223 : sh 223 = (1, 25) := by decide +kernel
theorem sh_224 : sh 224 = (1, 25) := by decide +kernel
theorem sh_225 : sh 225 = (1, 25) := by decide +kernel
theorem sh_226 : sh 226 = (1, 25) := by decide +kernel
theorem sh_227 : sh 227 = (1, 25) := by decide +kernel
theorem sh_228 : sh 228 = (1, 210) := by decide +kernel
theorem sh_229 : sh 229 = (1, 210) := by decide +kernel
theorem sh_230 : sh 230 = (1, 210) := by decide +kernel
theorem sh_231 : sh 231 = (1, 210) := by decide +kernel
theorem sh_232 : sh 232 = (1, 210) := by decide +kernel
theorem sh_233 : sh 233 = (1, 210) := by decide +kernel
theorem sh_234 : sh 234 = (1, 6) := by decide +kernel
theorem sh_235 : sh 235 = (1, 41) := by decide +kernel
theorem sh_236 : sh 236 = (1, 41) := by decide +kernel
theorem sh_237 : sh 237 = (1, 10000) := by decide +kernel
theorem sh_238 : sh 238 = (1, 31) := by decide +kernel
theorem sh_239 : sh 239 = (1, 31) := by decide +kernel
theorem sh_240 : sh 240 = (1, 60) := by decide +kernel
theorem sh_241 : sh 241 = (1, 60) := by decide +kernel
theorem sh_242 : sh 242 = (1, 8) := by decide +kernel
theorem sh_243 : sh 243 = (1, 41) := by decide +kernel
theorem sh_244 : sh 244 = (1, 41) := by decide +kernel
theorem sh_245 : sh 245 = (1, 101) := by decide +kernel
theorem sh_246 : sh 246 = (1, 101) := by decide +kernel
theorem sh_247 : sh 247 = (1, 8) := by decide +kernel
theorem sh_248 : sh 248 = (1, 6) := by decide +kernel
theorem sh_249 : sh 249 = (2, 50000) := by decide +kernel
theorem sh_250 : sh 250 = (1, 210) := by decide +kernel
theorem sh_k {j k : Nat} (h : (sh j).1 = k) : sh j = (k, (sh j).2) := by rw [← h]
theorem sh_f {j k n : Nat} (h : sh j = (k, n)) : (sh j).1 = k := by rw [h]
theorem sh_all {P : Nat → Bool} (h : (List.range NC).all P = true) {i : Nat} (hi : i < NC) : P i = true := List.all_eq_true.mp h i (List.mem_range.mpr hi)
theorem rl_X1_7 {i : Nat} (h : sh i = (0, 0)) : sh (i + 1) = (3, 60) := by
  have h1 := sh_all (P := fun i => !decide (sh i = (0, 0)) || decide (sh (i + 1) = (3, 60))) (by decide +kernel) (sh_lt h (by decide))
  simpa [h] using h1
theorem rl_X1_8 {i : Nat} (h : sh i = (0, 0)) : sh (i + 2) = (1, 8) := by
  have h1 := sh_all (P := fun i => !decide (sh i = (0, 0)) || decide (sh (i + 2) = (1, 8))) (by decide +kernel) (sh_lt h (by decide))
  simpa [h] using h1
theorem rl_X1_9 {i : Nat} (h : sh i = (0, 0)) : sh (i + 3) = (0, 1) := by
  have h1 := sh_all (P := fun i => !decide (sh i = (0, 0)) || decide (sh (i + 3) = (0, 1))) (by decide +kernel) (sh_lt h (by decide))
  simpa [h] using h1
theorem rl_X2_0 {i : Nat} (h : sh i = (0, 1)) : sh (i + 1) = (3, (sh (i + 1)).2) := by
  have h1 := sh_all (P := fun i => !decide (sh i = (0, 1)) || decide ((sh (i + 1)).1 = 3)) (by decide +kernel) (sh_lt h (by decide))
  exact sh_k (by simpa [h] using h1)
theorem rl_X2_1 {i : Nat} (h : sh i = (0, 1)) : sh (i + 2) = (3, (sh (i + 2)).2) := by
  have h1 := sh_all (P := fun i => !decide (sh i = (0, 1)) || decide ((sh (i + 2)).1 = 3)) (by decide +kernel) (sh_lt h (by decide))
  exact sh_k (by simpa [h] using h1)
theorem rl_X3_3 {i : Nat} (h : sh i = (0, 2)) : sh (i + 1) = (1, 432) := by
  have h1 := sh_all (P := fun i => !decide (sh i = (0, 2)) || decide (sh (i + 1) = (1, 432))) (by decide +kernel) (sh_lt h (by decide))
  simpa [h] using h1
theorem rl_X3_4 {i : Nat} (h : sh i = (0, 2)) : sh (i + 2) = (1, 72) := by
  have h1 := sh_all (P := fun i => !decide (sh i = (0, 2)) || decide (sh (i + 2) = (1, 72))) (by decide +kernel) (sh_lt h (by decide))
  simpa [h] using h1
theorem rl_X3_5 {i : Nat} (h : sh i = (0, 2)) : sh (i + 3) = (1, 72) := by
  have h1 := sh_all (P := fun i => !decide (sh i = (0, 2)) || decide (sh (i + 3) = (1, 72))) (by decide +kernel) (sh_lt h (by decide))
  simpa [h] using h1
theorem rl_X3_6 {i : Nat} (h : sh i = (0, 2)) : sh (i + 4) = (1, 2472) := by
  have h1 := sh_all (P := fun i => !decide (sh i = (0, 2)) || decide (sh (i + 4) = (1, 2472))) (by decide +kernel) (sh_lt h (by decide))
  simpa [h] using h1
theorem rl_X3_7 {i : Nat} (h : sh i = (0, 2)) : sh (i + 5) = (1, 2472) := by
  have h1 := sh_all (P := fun i => !decide (sh i = (0, 2)) || decide (sh (i + 5) = (1, 2472))) (by decide +kernel) (sh_lt h (by decide))
  simpa [h] using h1
theorem rl_X3_8 {i : Nat} (h : sh i = (0, 2)) : sh (i + 6) = (1, 2472) := by
  have h1 := sh_all (P := fun i => !decide (sh i = (0, 2)) || decide (sh (i + 6) = (1, 2472))) (by decide +kernel) (sh_lt h (by decide))
  simpa [h] using h1
theorem sel_2 (n : Nat) : sh (sel 2 n) = (0, 2) := by
  unfold sel
  split
  · assumption
  · exact sh_2
theorem sel_1 (n : Nat) : sh (sel 1 n) = (0, 1) := by
  unfold sel
  split
  · assumption
  · exact sh_18
theorem sel_0 (n : Nat) : sh (sel 0 n) = (0, 0) := by
  unfold sel
  split
  · assumption
  · exact sh_119
theorem ptc_ok (n : Nat) : sh (ptc n) = (0, 1) := by
  have h : ∀ k, k < 24 → sh (47 + 3 * k) = (0, 1) := by decide +kernel
  exact h (n % 24) (Nat.mod_lt _ (by decide))
def isB (v : Int32) : Bool := v == 0 || v == 1
theorem isB_n {v : Int32} (h : isB v = true) : narrow .boolean (.int v) = .int v := by
  unfold isB at h
  rw [Bool.or_eq_true, beq_iff_eq, beq_iff_eq] at h
  rcases h with h | h <;> subst h <;> rfl
def n32 (r : UInt32) : Bool := decide (r &&& 0x7fffffff ≤ 0x7f800000)
theorem nz_of {α : Type} {v z : α} [BEq α] [LawfulBEq α] (h : (!(v == z)) = true) : v ≠ z := by
  intro q
  subst q
  simp at h
theorem nb_of {b : Bool} (h : (!b) = true) : b = false := by simpa using h
theorem sw_out {x : Int32} {L : List Int32} {lo hi : Int} (hL : ((List.range (hi - lo + 1).toNat).all (fun k => L.contains (Int32.ofInt (lo + k))) && decide (-2147483648 ≤ lo) && decide (hi ≤ 2147483647)) = true) (h : ∀ k ∈ L, ¬ x = k) : x.toInt < lo ∨ hi < x.toInt := by
  rw [Bool.and_eq_true, Bool.and_eq_true, decide_eq_true_eq, decide_eq_true_eq] at hL
  obtain ⟨⟨h1, h2⟩, h3⟩ := hL
  rcases Int.lt_or_le x.toInt lo with q | q
  · exact Or.inl q
  · rcases Int.lt_or_le hi x.toInt with q2 | q2
    · exact Or.inr q2
    · exfalso
      have h4 := List.all_eq_true.mp h1 (x.toInt - lo).toNat (List.mem_range.mpr (by omega))
      have e1 : lo + ((x.toInt - lo).toNat : Int) = x.toInt := by omega
      rw [e1, Int32.ofInt_toInt, List.contains_iff_mem] at h4
      exact h x h4 rfl
theorem sw_ne {x k : Int32} (h : ¬ x = k) : ¬ x.toInt = k.toInt := fun q => h (Int32.toInt_inj.mp q)
abbrev FUEL : Nat := 2000000
theorem wd_all {G : Gt} {ad : Nat → Nat} {μ : Mem} : (List.range NC).map (fun i => (wd G ad μ)[i]?) = (wd G ad μ).map some := by
  apply List.ext_getElem?
  intro j
  rw [List.getElem?_map, List.getElem?_map]
  rcases Nat.lt_or_ge j NC with q | q
  · rw [List.getElem?_range q]
    show some ((wd G ad μ)[j]?) = _
    have e1 : (wd G ad μ).length = NC := by unfold wd; rw [List.length_map, List.length_range]
    rw [List.getElem?_eq_getElem (by rw [e1]; exact q)]; rfl
  · have e1 : (wd G ad μ).length = NC := by unfold wd; rw [List.length_map, List.length_range]
    rw [List.getElem?_eq_none (by rw [List.length_range]; exact q), List.getElem?_eq_none (by rw [e1]; exact q)]; rfl
theorem nd_all : va_nd (List.range NC) = true := by decide +kernel
section MemCalls
variable {p : Program} {l : Launch} {e : Env} {R : Room} {s : State} {m : MethodId} {args : Array Value} {below : List Frame} {meth : Method} {c : Code} {H : Heap} {locs : List Loc} {Q : State → Prop}
variable {cc : ByteArray} {pc : Nat} {ls : Array Slot} {rest st0 : List Value} {A : Nat → Prop} {H0 : Heap} {ws : va_W} {nL : Nat} {own : String} {G : Gt} {ad : Nat → Nat} {μ μ1 : Mem}
theorem g_callVI {y : MethodName} {bc : ByteArray} {mL index n : Nat} {rt : Option FieldType} {rm : Room} {C : String} {b : Nat} {As : List Value} {r0 : Int32} (cx : Cx p s m c args cc nL own G) (hw : Wd G A (wd G ad μ) H0 H locs) (hA : ∀ q : Nat, H0.size ≤ q → A q) (hM : Mt l y bc mL rt rm G (.ref (ad b) :: As) (wd G ad μ) (eI G ad r0 μ1)) {ci N0 : Nat} {T0 : u_T} (hb : sh b = (0, ci)) (hc : vwCl[ci]? = some (C, T0, N0)) (h1 : Cond.methodLink own index y ∈ lw_all) (h2 : Cond.instanceMethod y ∈ lw_all) (h3 : Cond.selects C y y ∈ lw_all) (h4 : Cond.initialized C ∈ lw_all) (h5 : Cond.code y bc mL rt ∈ lw_all) (hC0 : y.cls = C) (hd : y.cls ≠ "java/lang/invoke/MethodHandle" ∧ y.cls ≠ "java/lang/invoke/VarHandle" ∧ (parseMethodDescriptor y.desc).map (fun d => d.parameters.length) = some n) (hn : As.length = n) (hRm : rm.frames + 1 ≤ R.frames ∧ 8 + (mL + 11) + rm.locals ≤ R.locals) (hls : ls.size = nL) (hst : st0 = As.reverse ++ .ref (ad b) :: rest) (hstk : (rest.map fun v => v.category).sum ≤ 8) (hdg : decode cc pc = .ok (.invokevirtual index, 3)) (hf : rm.cells = 0 ∧ rm.slots = 0)
    (kk : ∀ (H1 : Heap) (locs1 : List Loc), Wd G A (wd G ad μ1) H0 H1 locs1 → W p l e R s m args below meth c H1 locs1 0 0 Q (F0 m (pc + 3) ls (.int r0 :: rest))) : W p l e R s m args below meth c H locs 0 0 Q (F0 m pc ls st0) := by
  refine r_callVI cx hw hA hM (List.range NC) [] (wr := []) wd_all nd_all rfl rfl rfl b (wd_ob hb) hc h1 h2 h3 h4 h5 hC0 hd hn hRm hls hst hstk hdg ⟨by rw [hf.1]; exact Nat.zero_le _, by rw [hf.2]; exact Nat.zero_le _⟩ (fun r u H1 locs1 hp hw1 => ?_)
  subst hp
  rw [hf.1, hf.2]
  exact kk H1 locs1 hw1
theorem g_callSI {y : MethodName} {bc : ByteArray} {mL index n : Nat} {rt : Option FieldType} {rm : Room} {As : List Value} {r0 : Int32} (cx : Cx p s m c args cc nL own G) (hw : Wd G A (wd G ad μ) H0 H locs) (hA : ∀ q : Nat, H0.size ≤ q → A q) (hM : Mt l y bc mL rt rm G As (wd G ad μ) (eI G ad r0 μ1)) (h1 : Cond.methodLink own index y ∈ lw_all) (h2 : Cond.static y ∈ lw_all) (h4 : Cond.initialized y.cls ∈ lw_all) (h5 : Cond.code y bc mL rt ∈ lw_all) (hd : y.cls ≠ "java/lang/invoke/MethodHandle" ∧ y.cls ≠ "java/lang/invoke/VarHandle" ∧ (parseMethodDescriptor y.desc).map (fun d => d.parameters.length) = some n) (hn : As.length = n) (hRm : rm.frames + 1 ≤ R.frames ∧ 8 + (mL + 11) + rm.locals ≤ R.locals) (hls : ls.size = nL) (hst : st0 = As.reverse ++ rest) (hstk : (rest.map fun v => v.category).sum ≤ 8) (hdg : decode cc pc = .ok (.invokestatic index, 3)) (hf : rm.cells = 0 ∧ rm.slots = 0)
    (kk : ∀ (H1 : Heap) (locs1 : List Loc), Wd G A (wd G ad μ1) H0 H1 locs1 → W p l e R s m args below meth c H1 locs1 0 0 Q (F0 m (pc + 3) ls (.int r0 :: rest))) : W p l e R s m args below meth c H locs 0 0 Q (F0 m pc ls st0) := by
  refine r_callSI cx hw hA hM (List.range NC) [] (wr := []) wd_all nd_all rfl rfl rfl h1 h2 h4 h5 hd hn hRm hls hst hstk hdg ⟨by rw [hf.1]; exact Nat.zero_le _, by rw [hf.2]; exact Nat.zero_le _⟩ (fun r u H1 locs1 hp hw1 => ?_)
  subst hp
  rw [hf.1, hf.2]
  exact kk H1 locs1 hw1
theorem g_callVL {y : MethodName} {bc : ByteArray} {mL index n : Nat} {rt : Option FieldType} {rm : Room} {C : String} {b : Nat} {As : List Value} {r0 : Int64} (cx : Cx p s m c args cc nL own G) (hw : Wd G A (wd G ad μ) H0 H locs) (hA : ∀ q : Nat, H0.size ≤ q → A q) (hM : Mt l y bc mL rt rm G (.ref (ad b) :: As) (wd G ad μ) (eL G ad r0 μ1)) {ci N0 : Nat} {T0 : u_T} (hb : sh b = (0, ci)) (hc : vwCl[ci]? = some (C, T0, N0)) (h1 : Cond.methodLink own index y ∈ lw_all) (h2 : Cond.instanceMethod y ∈ lw_all) (h3 : Cond.selects C y y ∈ lw_all) (h4 : Cond.initialized C ∈ lw_all) (h5 : Cond.code y bc mL rt ∈ lw_all) (hC0 : y.cls = C) (hd : y.cls ≠ "java/lang/invoke/MethodHandle" ∧ y.cls ≠ "java/lang/invoke/VarHandle" ∧ (parseMethodDescriptor y.desc).map (fun d => d.parameters.length) = some n) (hn : As.length = n) (hRm : rm.frames + 1 ≤ R.frames ∧ 8 + (mL + 11) + rm.locals ≤ R.locals) (hls : ls.size = nL) (hst : st0 = As.reverse ++ .ref (ad b) :: rest) (hstk : (rest.map fun v => v.category).sum ≤ 8) (hdg : decode cc pc = .ok (.invokevirtual index, 3)) (hf : rm.cells = 0 ∧ rm.slots = 0)
    (kk : ∀ (H1 : Heap) (locs1 : List Loc), Wd G A (wd G ad μ1) H0 H1 locs1 → W p l e R s m args below meth c H1 locs1 0 0 Q (F0 m (pc + 3) ls (.long r0 :: rest))) : W p l e R s m args below meth c H locs 0 0 Q (F0 m pc ls st0) := by
  refine r_callVL cx hw hA hM (List.range NC) [] (wr := []) wd_all nd_all rfl rfl rfl b (wd_ob hb) hc h1 h2 h3 h4 h5 hC0 hd hn hRm hls hst hstk hdg ⟨by rw [hf.1]; exact Nat.zero_le _, by rw [hf.2]; exact Nat.zero_le _⟩ (fun r u H1 locs1 hp hw1 => ?_)
  subst hp
  rw [hf.1, hf.2]
  exact kk H1 locs1 hw1
theorem g_callSL {y : MethodName} {bc : ByteArray} {mL index n : Nat} {rt : Option FieldType} {rm : Room} {As : List Value} {r0 : Int64} (cx : Cx p s m c args cc nL own G) (hw : Wd G A (wd G ad μ) H0 H locs) (hA : ∀ q : Nat, H0.size ≤ q → A q) (hM : Mt l y bc mL rt rm G As (wd G ad μ) (eL G ad r0 μ1)) (h1 : Cond.methodLink own index y ∈ lw_all) (h2 : Cond.static y ∈ lw_all) (h4 : Cond.initialized y.cls ∈ lw_all) (h5 : Cond.code y bc mL rt ∈ lw_all) (hd : y.cls ≠ "java/lang/invoke/MethodHandle" ∧ y.cls ≠ "java/lang/invoke/VarHandle" ∧ (parseMethodDescriptor y.desc).map (fun d => d.parameters.length) = some n) (hn : As.length = n) (hRm : rm.frames + 1 ≤ R.frames ∧ 8 + (mL + 11) + rm.locals ≤ R.locals) (hls : ls.size = nL) (hst : st0 = As.reverse ++ rest) (hstk : (rest.map fun v => v.category).sum ≤ 8) (hdg : decode cc pc = .ok (.invokestatic index, 3)) (hf : rm.cells = 0 ∧ rm.slots = 0)
    (kk : ∀ (H1 : Heap) (locs1 : List Loc), Wd G A (wd G ad μ1) H0 H1 locs1 → W p l e R s m args below meth c H1 locs1 0 0 Q (F0 m (pc + 3) ls (.long r0 :: rest))) : W p l e R s m args below meth c H locs 0 0 Q (F0 m pc ls st0) := by
  refine r_callSL cx hw hA hM (List.range NC) [] (wr := []) wd_all nd_all rfl rfl rfl h1 h2 h4 h5 hd hn hRm hls hst hstk hdg ⟨by rw [hf.1]; exact Nat.zero_le _, by rw [hf.2]; exact Nat.zero_le _⟩ (fun r u H1 locs1 hp hw1 => ?_)
  subst hp
  rw [hf.1, hf.2]
  exact kk H1 locs1 hw1
theorem g_callVV {y : MethodName} {bc : ByteArray} {mL index n : Nat} {rt : Option FieldType} {rm : Room} {C : String} {b : Nat} {As : List Value} (cx : Cx p s m c args cc nL own G) (hw : Wd G A (wd G ad μ) H0 H locs) (hA : ∀ q : Nat, H0.size ≤ q → A q) (hM : Mt l y bc mL rt rm G (.ref (ad b) :: As) (wd G ad μ) (eV G ad μ1)) {ci N0 : Nat} {T0 : u_T} (hb : sh b = (0, ci)) (hc : vwCl[ci]? = some (C, T0, N0)) (h1 : Cond.methodLink own index y ∈ lw_all) (h2 : Cond.instanceMethod y ∈ lw_all) (h3 : Cond.selects C y y ∈ lw_all) (h4 : Cond.initialized C ∈ lw_all) (h5 : Cond.code y bc mL rt ∈ lw_all) (hC0 : y.cls = C) (hd : y.cls ≠ "java/lang/invoke/MethodHandle" ∧ y.cls ≠ "java/lang/invoke/VarHandle" ∧ (parseMethodDescriptor y.desc).map (fun d => d.parameters.length) = some n) (hn : As.length = n) (hRm : rm.frames + 1 ≤ R.frames ∧ 8 + (mL + 11) + rm.locals ≤ R.locals) (hls : ls.size = nL) (hst : st0 = As.reverse ++ .ref (ad b) :: rest) (hstk : (rest.map fun v => v.category).sum ≤ 8) (hdg : decode cc pc = .ok (.invokevirtual index, 3)) (hf : rm.cells = 0 ∧ rm.slots = 0)
    (kk : ∀ (H1 : Heap) (locs1 : List Loc), Wd G A (wd G ad μ1) H0 H1 locs1 → W p l e R s m args below meth c H1 locs1 0 0 Q (F0 m (pc + 3) ls rest)) : W p l e R s m args below meth c H locs 0 0 Q (F0 m pc ls st0) := by
  refine r_callVV cx hw hA hM (List.range NC) [] (wr := []) wd_all nd_all rfl rfl rfl b (wd_ob hb) hc h1 h2 h3 h4 h5 hC0 hd hn hRm hls hst hstk hdg ⟨by rw [hf.1]; exact Nat.zero_le _, by rw [hf.2]; exact Nat.zero_le _⟩ (fun u H1 locs1 hp hw1 => ?_)
  rw [hf.1, hf.2]
  exact kk H1 locs1 hw1
theorem g_callSV {y : MethodName} {bc : ByteArray} {mL index n : Nat} {rt : Option FieldType} {rm : Room} {As : List Value} (cx : Cx p s m c args cc nL own G) (hw : Wd G A (wd G ad μ) H0 H locs) (hA : ∀ q : Nat, H0.size ≤ q → A q) (hM : Mt l y bc mL rt rm G As (wd G ad μ) (eV G ad μ1)) (h1 : Cond.methodLink own index y ∈ lw_all) (h2 : Cond.static y ∈ lw_all) (h4 : Cond.initialized y.cls ∈ lw_all) (h5 : Cond.code y bc mL rt ∈ lw_all) (hd : y.cls ≠ "java/lang/invoke/MethodHandle" ∧ y.cls ≠ "java/lang/invoke/VarHandle" ∧ (parseMethodDescriptor y.desc).map (fun d => d.parameters.length) = some n) (hn : As.length = n) (hRm : rm.frames + 1 ≤ R.frames ∧ 8 + (mL + 11) + rm.locals ≤ R.locals) (hls : ls.size = nL) (hst : st0 = As.reverse ++ rest) (hstk : (rest.map fun v => v.category).sum ≤ 8) (hdg : decode cc pc = .ok (.invokestatic index, 3)) (hf : rm.cells = 0 ∧ rm.slots = 0)
    (kk : ∀ (H1 : Heap) (locs1 : List Loc), Wd G A (wd G ad μ1) H0 H1 locs1 → W p l e R s m args below meth c H1 locs1 0 0 Q (F0 m (pc + 3) ls rest)) : W p l e R s m args below meth c H locs 0 0 Q (F0 m pc ls st0) := by
  refine r_callSV cx hw hA hM (List.range NC) [] (wr := []) wd_all nd_all rfl rfl rfl h1 h2 h4 h5 hd hn hRm hls hst hstk hdg ⟨by rw [hf.1]; exact Nat.zero_le _, by rw [hf.2]; exact Nat.zero_le _⟩ (fun u H1 locs1 hp hw1 => ?_)
  rw [hf.1, hf.2]
  exact kk H1 locs1 hw1
theorem g_callVR {y : MethodName} {bc : ByteArray} {mL index n : Nat} {rt : Option FieldType} {rm : Room} {C : String} {b r0 : Nat} {As : List Value} (cx : Cx p s m c args cc nL own G) (hw : Wd G A (wd G ad μ) H0 H locs) (hA : ∀ q : Nat, H0.size ≤ q → A q) (hM : Mt l y bc mL rt rm G (.ref (ad b) :: As) (wd G ad μ) (eR G ad r0 μ1)) {ci N0 : Nat} {T0 : u_T} (hb : sh b = (0, ci)) (hc : vwCl[ci]? = some (C, T0, N0)) (h1 : Cond.methodLink own index y ∈ lw_all) (h2 : Cond.instanceMethod y ∈ lw_all) (h3 : Cond.selects C y y ∈ lw_all) (h4 : Cond.initialized C ∈ lw_all) (h5 : Cond.code y bc mL rt ∈ lw_all) (hC0 : y.cls = C) (hd : y.cls ≠ "java/lang/invoke/MethodHandle" ∧ y.cls ≠ "java/lang/invoke/VarHandle" ∧ (parseMethodDescriptor y.desc).map (fun d => d.parameters.length) = some n) (hn : As.length = n) (hRm : rm.frames + 1 ≤ R.frames ∧ 8 + (mL + 11) + rm.locals ≤ R.locals) (hls : ls.size = nL) (hst : st0 = As.reverse ++ .ref (ad b) :: rest) (hstk : (rest.map fun v => v.category).sum ≤ 8) (hdg : decode cc pc = .ok (.invokevirtual index, 3)) (hf : rm.cells = 0 ∧ rm.slots = 0)
    (kk : ∀ (H1 : Heap) (locs1 : List Loc), Wd G A (wd G ad μ1) H0 H1 locs1 → W p l e R s m args below meth c H1 locs1 0 0 Q (F0 m (pc + 3) ls (.ref (ad r0) :: rest))) : W p l e R s m args below meth c H locs 0 0 Q (F0 m pc ls st0) := by
  have hPc := hw.1.maps (List.range NC) wd_all
  have hDc := (hw.2.1.sub (List.range NC) nd_all wd_all).weaken (B := fun _ => True) (fun _ _ _ _ => trivial)
  have hFc := va_free hw.2.1 hw.2.2 hA (List.range NC) wd_all
  refine va_callr (va_runV (As := As) (rest := rest) ⟨cx.1, cx.2.1, cx.2.2.1, cx.2.2.2.1, cx.2.2.2.2.1⟩ (hM H.size) (cwV n cx.2.2.2.2.1 (lw_V h1 h2 h3 h4 h5) rfl rfl rfl ⟨hC0, hd⟩ hRm) ⟨cl_blind, va_recv cx.2.2.2.2.2.1 hw.1 (ci := ci) (q := (C, T0, N0)) (q0 := b) hc (wd_ob hb), fun U hU hW => ⟨rfl, by rw [hU], by rw [hU]; exact hPc, KK.moved hW.alike cx.2.2.2.2.2, hDc⟩⟩ rfl hn hls hst (lv_room hstk) hdg ⟨by rw [hf.1]; exact Nat.zero_le _, by rw [hf.2]; exact Nat.zero_le _⟩) hw.2.2 (fun q _ h => hFc q h) hFc (fun u ra t H1 locs1 ht hvm hp hB hz1 hk1 hS => ?_)
  obtain ⟨e1, hB⟩ := hB
  subst e1
  rw [hf.1, hf.2]
  exact kk H1 locs1 (cl_join (wr := []) hw hA (List.range NC) [] wd_all rfl rfl rfl ht hB hk1 hS)
theorem s_callI {y : MethodName} {bc : ByteArray} {mL index n : Nat} {rt : Option FieldType} {rm : Room} {As : List Value} {r0 : Int32} (cx : Cx p s m c args cc nL own G) (hw : Wd G A ws H0 H locs) (hA : ∀ q : Nat, H0.size ≤ q → A q) (hM : Mt l y bc mL rt rm G As [] (sI G r0)) (h1 : Cond.methodLink own index y ∈ lw_all) (h2 : Cond.static y ∈ lw_all) (h4 : Cond.initialized y.cls ∈ lw_all) (h5 : Cond.code y bc mL rt ∈ lw_all) (hd : y.cls ≠ "java/lang/invoke/MethodHandle" ∧ y.cls ≠ "java/lang/invoke/VarHandle" ∧ (parseMethodDescriptor y.desc).map (fun d => d.parameters.length) = some n) (hn : As.length = n) (hRm : rm.frames + 1 ≤ R.frames ∧ 8 + (mL + 11) + rm.locals ≤ R.locals) (hls : ls.size = nL) (hst : st0 = As.reverse ++ rest) (hstk : (rest.map fun v => v.category).sum ≤ 8) (hdg : decode cc pc = .ok (.invokestatic index, 3)) (hf : (rm.cells, rm.slots) = (0, 0))
    (kk : ∀ (H1 : Heap) (locs1 : List Loc), Wd G A ws H0 H1 locs1 → W p l e R s m args below meth c H1 locs1 0 0 Q (F0 m (pc + 3) ls (.int r0 :: rest))) : W p l e R s m args below meth c H locs 0 0 Q (F0 m pc ls st0) := by
  have f1 : rm.cells = 0 := congrArg Prod.fst hf
  have f2 : rm.slots = 0 := congrArg Prod.snd hf
  refine r_callS0I cx hw hA hM h1 h2 h4 h5 hd hn hRm hls hst hstk hdg ⟨by rw [f1]; exact Nat.zero_le _, by rw [f2]; exact Nat.zero_le _⟩ (fun r H1 locs1 hp hw1 => ?_)
  subst hp
  rw [f1, f2]
  exact kk H1 locs1 hw1
theorem s_callL {y : MethodName} {bc : ByteArray} {mL index n : Nat} {rt : Option FieldType} {rm : Room} {As : List Value} {r0 : Int64} (cx : Cx p s m c args cc nL own G) (hw : Wd G A ws H0 H locs) (hA : ∀ q : Nat, H0.size ≤ q → A q) (hM : Mt l y bc mL rt rm G As [] (sJ G r0)) (h1 : Cond.methodLink own index y ∈ lw_all) (h2 : Cond.static y ∈ lw_all) (h4 : Cond.initialized y.cls ∈ lw_all) (h5 : Cond.code y bc mL rt ∈ lw_all) (hd : y.cls ≠ "java/lang/invoke/MethodHandle" ∧ y.cls ≠ "java/lang/invoke/VarHandle" ∧ (parseMethodDescriptor y.desc).map (fun d => d.parameters.length) = some n) (hn : As.length = n) (hRm : rm.frames + 1 ≤ R.frames ∧ 8 + (mL + 11) + rm.locals ≤ R.locals) (hls : ls.size = nL) (hst : st0 = As.reverse ++ rest) (hstk : (rest.map fun v => v.category).sum ≤ 8) (hdg : decode cc pc = .ok (.invokestatic index, 3)) (hf : (rm.cells, rm.slots) = (0, 0))
    (kk : ∀ (H1 : Heap) (locs1 : List Loc), Wd G A ws H0 H1 locs1 → W p l e R s m args below meth c H1 locs1 0 0 Q (F0 m (pc + 3) ls (.long r0 :: rest))) : W p l e R s m args below meth c H locs 0 0 Q (F0 m pc ls st0) := by
  have f1 : rm.cells = 0 := congrArg Prod.fst hf
  have f2 : rm.slots = 0 := congrArg Prod.snd hf
  refine r_callS0L cx hw hA hM h1 h2 h4 h5 hd hn hRm hls hst hstk hdg ⟨by rw [f1]; exact Nat.zero_le _, by rw [f2]; exact Nat.zero_le _⟩ (fun r H1 locs1 hp hw1 => ?_)
  subst hp
  rw [f1, f2]
  exact kk H1 locs1 hw1
theorem g_aret {v r : Nat} {rt : FieldType} {mc ms : Nat} (cx : Cx p s m c args cc nL own G) (hr : meth.sig.returnType = some rt) (hlk : meth.locks = false) (hw : Wd G A (wd G ad μ) s.heap H locs) (h : some (v, μ) = some (r, μ1)) (hdg : decode cc pc = .ok (.areturn, 1)) : W p l e R s m args below meth c H locs 0 0 (MQ below (eR G ad r μ1 A) args s mc ms A) (F0 m pc ls [.ref (ad v)]) := by
  cases h
  refine W.widen (k := mc) (n := ms) (Nat.zero_le _) (Nat.zero_le _) ?_
  exact W.aret cx.1 cx.2.1 hr (fun t ht hW => ⟨⟨(), ad v, rfl, trivial, rfl, by rw [ht]; exact hw.1, hw.2.1⟩, hw.2.2.F ht⟩) hw.2.2.2.2 hdg hlk
/-- a field that always holds the one object -/
theorem g_putC (cx : Cx p s m c args cc nL own G) (hw : Wd G A (wd G ad μ) H0 H locs) {C : String} {T : u_T} {N ci index i j : Nat} (hin : ∀ w ∈ u_ws C T N, w ∈ lw_all) (hc : vwCl[ci]? = some (C, T, N)) {ty0 : Nat → FieldType} (hty : ∀ k, k < N → parseFieldDescriptor (T k).2.2.1 = some (ty0 k)) (hnm : ∀ a, a < N → ∀ b, b < N → a ≠ b → (T a).2.1 ≠ (T b).2.1) (k : Nat) (hk : k < N) (ht : (sk ci)[k]? = some (2, j)) (hfin : (T k).2.2.2 = false) (hn : narrow (ty0 k) (.ref (ad j)) = .ref (ad j)) (hfit : fits (ty0 k) (.ref (ad j)) = true) (hi : sh i = (0, ci)) (hlink : Cond.fieldLink own index (T k).1 (T k).2.1 (T k).2.2.1 ∈ lw_all) (hdg : decode cc pc = .ok (.putfield index, 3))
    (kk : ∀ (H1 : Heap) (locs1 : List Loc), Wd G A (wd G ad μ) H0 H1 locs1 → W p l e R s m args below meth c H1 locs1 0 0 Q (F0 m (pc + 3) ls rest)) : W p l e R s m args below meth c H locs 0 0 Q (F0 m pc ls (.ref (ad j) :: .ref (ad i) :: rest)) := by
  have e1 : (fsOf ad μ i ci).set k (.ref (ad j)) = fsOf ad μ i ci := by
    apply List.ext_getElem?
    intro q
    rw [List.getElem?_set]
    by_cases z : k = q
    · subst z
      rw [if_pos rfl, fs_len, if_pos (List.getElem?_eq_some_iff.mp ht).1, fs_at ht]; rfl
    · rw [if_neg z]
  have e2 : (wd G ad μ).set i (ad i, .inr (ci, (fsOf ad μ i ci).set k (.ref (ad j)))) = wd G ad μ := by
    rw [e1]
    refine wd_set (sh_lt hi (by decide)) ?_ (fun _ _ => rfl)
    rw [hi]; rfl
  exact r_put cx hw hin hc hty hnm i (wd_ob hi) k hk hlink hfin hn hfit (by rw [fs_len]; exact (List.getElem?_eq_some_iff.mp ht).1) e2 hdg (fun H1 locs1 hw1 => kk H1 locs1 hw1)
end MemCalls
theorem Met.ofWF {l : Launch} {y : MethodName} {ws ws' : List Cond} {rm : Room} {Pc : Array Value → State → Prop} {Qc : Array Value → State → Outcome → State → Prop} {mc ms : Nat} {free : Addr → Prop} {cc : ByteArray} {maxL : Nat} {ret : Option FieldType}
    (hy : plainFor y = true) (hw : ws = Cond.code y cc maxL ret :: ws')
    (body : ∀ p e s m args below meth c s₁, BodyLoose p l y (headSpec ws rm) cc maxL ret e s m args below meth c s₁ → c.maxLocals = maxL → Pc args s →
      W p l e (headSpec ws rm).room s m args below meth c s.heap [] 0 0 (MQ below Qc args s mc ms free) (entryFrame m args maxL)) : Met l y ws rm Pc Qc mc ms free := by
  refine MetFree.of_bodySF (code := cc) (maxLocals := maxL) (ret := ret) hy ?_ ?_
  · intro args s m h hn
    obtain ⟨meth, c, h1, h2, h3, h4, h5, h6, -, -⟩ := Cond.code_spec hn (atoms_spec (ws := ws) h _ (by rw [hw]; exact List.mem_cons_self))
    exact ⟨meth, c, h1, h2, h3, h4, h5, h6⟩
  · intro p e s m args below meth c s₁ B hml hP _
    have hh0 : s₁.heap = s.heap := by rw [B.state]; rfl
    obtain ⟨t, a1, o, b1, b2, b3⟩ := body p e s m args below meth c s₁ B hml hP s₁ hh0 (Stand.of_body B)
    exact ⟨t, o, a1, b1, b2, ⟨b3.1, b3.2⟩⟩
section Rows
variable {p : Program} {l : Launch} {e : Env} {R : Room} {s : State} {m : MethodId} {args : Array Value} {below : List Frame} {meth : Method} {c : Code} {H : Heap} {locs : List Loc} {cells slots : Nat} {Q : State → Prop}
variable {cc : ByteArray} {pc : Nat} {ls : Array Slot} {rest : List Value} {A : Nat → Prop} {H0 : Heap} {ws ws' : va_W} {a nL : Nat} {own : String} {G : Gt}
theorem Mt.ofF {y : MethodName} {mL : Nat} {rt : Option FieldType} {rm : Room} {av : List Value} {W0 : va_W} {Qf : (Nat → Prop) → Array Value → State → Outcome → State → Prop} (hy : plainFor y = true) (hown : y.cls = own) (hav : (lg_sl av).length ≤ mL)
    (body : ∀ (p : Program) (e : Env) (s : State) (m : MethodId) (below : List Frame) (meth : Method) (c : Code) (A : Nat → Prop) (ls : Array Slot), Cx p s m c av.toArray cc mL own G → meth.sig.returnType = rt → meth.locks = false → meth.name = y.name → (∀ q : Nat, s.heap.size ≤ q → A q) → lv_has ls mL (lv_args 0 av) → Wd G A W0 s.heap s.heap [] →
      W p l e rm s m av.toArray below meth c s.heap [] 0 0 (MQ below (Qf A) av.toArray s rm.cells rm.slots A) (F0 m 0 ls [])) : Mt l y cc mL rt rm G av W0 Qf := by
  intro sz
  refine Met.ofWF (cc := cc) (maxL := mL) (ret := rt) hy rfl ?_
  intro p e s m args below meth c s₁ B hml hv
  obtain ⟨rfl, hsz, hP, hK, hD0⟩ := hv
  have hts := atoms_spec (ws := ws_ y cc mL rt) B.pre
  have hts : ∀ w ∈ lw_all, w.before _ s = true := fun w h => hts w (List.mem_cons_of_mem _ h)
  subst hsz
  have hD := hD0.self (sz := s.heap.size)
  have hl := lv_entry av (n := mL) hav
  rw [lg_entry_eq]
  generalize (lg_sl av ++ List.replicate (mL - (lg_sl av).length) Slot.unset).toArray = ls at hl ⊢
  exact body p e s m below meth c (va_A W0 s.heap.size) ls ⟨B.exec, B.bytes, hml, hown ▸ findClass_of_methodNamed B.named, hts, hK⟩ B.returns B.notSynchronized (name_of_methodNamed B.named B.method).1 (fun q h => Or.inr h) hl ⟨hP, hD, va_S.rf⟩
end Rows
abbrev yF_i2f : MethodName := ⟨"java/lang/Float", "intBitsToFloat", "(I)F"⟩
abbrev yF_f2i : MethodName := ⟨"java/lang/Float", "floatToRawIntBits", "(F)I"⟩
theorem na_i2f : Cond.native yF_i2f ∈ lw_all := lw_t9 (i := 39) (by decide +kernel) rfl
theorem sF_i2f : Cond.static yF_i2f ∈ lw_all := lw_t9 (i := 38) (by decide +kernel) rfl
theorem ml_X12_296 : Cond.methodLink RX12 296 yF_i2f ∈ lw_all := lw_t9 (i := 37) (by decide +kernel) rfl
theorem na_f2i : Cond.native yF_f2i ∈ lw_all := lw_t9 (i := 58) (by decide +kernel) rfl
theorem sF_f2i : Cond.static yF_f2i ∈ lw_all := lw_t9 (i := 57) (by decide +kernel) rfl
theorem ml_Jxf58ca_74 : Cond.methodLink RJxf58ca 74 yF_f2i ∈ lw_all := lw_t9 (i := 56) (by decide +kernel) rfl
section Nat4
variable {p : Program} {l : Launch} {e : Env} {R : Room} {s : State} {m : MethodId} {args : Array Value} {below : List Frame} {meth : Method} {c : Code} {H : Heap} {locs : List Loc} {cells slots : Nat} {Q : State → Prop} {cc : ByteArray} {pc nL : Nat} {ls : Array Slot} {rest : List Value} {own : String} {G : Gt}
theorem r_i2f {index : Nat} {b : Int32} (cx : Cx p s m c args cc nL own G) (hlink : Cond.methodLink own index yF_i2f ∈ lw_all) (hls : ls.size = nL) (hv : vn_sni2f b = false) (hframes : 1 ≤ R.frames) (hlocals : (rest.map fun v => v.category).sum + 15 ≤ R.locals) (hdg : decode cc pc = .ok (.invokestatic index, 3))
    (k : W p l e R s m args below meth c H locs cells slots Q (F0 m (pc + 3) ls (.float b.toUInt32 :: rest))) : W p l e R s m args below meth c H locs cells slots Q (F0 m pc ls (.int b :: rest)) :=
  vn_i2f cx.1 cx.2.1 (cx.2.2.1.trans hls.symm) cx.2.2.2.1 (cx.2.2.2.2.1 _ hlink) (cx.2.2.2.2.1 _ na_i2f) (cx.2.2.2.2.1 _ sF_i2f) (cx.2.2.2.2.1 _ in_Jxf58ca) hv hframes hlocals hdg k
theorem r_f2i {index : Nat} {b : UInt32} (cx : Cx p s m c args cc nL own G) (hlink : Cond.methodLink own index yF_f2i ∈ lw_all) (hls : ls.size = nL) (hframes : 1 ≤ R.frames) (hlocals : (rest.map fun v => v.category).sum + 15 ≤ R.locals) (hdg : decode cc pc = .ok (.invokestatic index, 3))
    (k : W p l e R s m args below meth c H locs cells slots Q (F0 m (pc + 3) ls (.int b.toInt32 :: rest))) : W p l e R s m args below meth c H locs cells slots Q (F0 m pc ls (.float b :: rest)) :=
  vn_f2i cx.1 cx.2.1 (cx.2.2.1.trans hls.symm) cx.2.2.2.1 (cx.2.2.2.2.1 _ hlink) (cx.2.2.2.2.1 _ na_f2i) (cx.2.2.2.2.1 _ sF_f2i) (cx.2.2.2.2.1 _ in_Jxf58ca) hframes hlocals hdg k
end Nat4
theorem Bk.mtF {l : Launch} {cc : ByteArray} {own : String} {G : Gt} {y : MethodName} {mL : Nat} {rt : Option FieldType} {rm : Room} {av : List Value} {W0 : va_W} {Qf : (Nat → Prop) → Array Value → State → Outcome → State → Prop} (hy : plainFor y = true) (hown : y.cls = own) (hav : (lg_sl av).length ≤ mL) (hB : Bk l cc mL own rt rm G av Qf W0 0 (lv_args 0 av) []) : Mt l y cc mL rt rm G av W0 Qf :=
  Mt.ofF hy hown hav (fun p e s m below meth c A ls cx hr hlk _ hA hl hw => hB p e s m below meth c A ls s.heap [] cx hr hlk hA hl hw)
