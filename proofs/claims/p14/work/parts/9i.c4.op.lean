theorem lx_pack (sg : Int32) (wd : Int64) (qe : Int32) : s_X0_pack sg wd qe = x_pack sg wd qe := by
  have e1 : imax ((qe + ((64 : Int32) - (x_nlz64 wd))) - (24 : Int32)) (-149 : Int32) = x_pack_j1 wd qe := by rw [x_pack_j1_eq]; rfl
  have b124 : s_X0_pack_b124 sg (x_pack_j1 wd qe) (x_pack_j3 wd qe) = (if ((x_pack_j4b wd qe) + (150 : Int32)) < (255 : Int32) then ((((sg <<< ((31 : Int32) &&& 31)) ||| ((x_pack_j5 wd qe) <<< ((23 : Int32) &&& 31))) ||| ((x_pack_j4a wd qe).toInt32 &&& (8388607 : Int32)))) else (((sg <<< ((31 : Int32) &&& 31)) ||| (2139095040 : Int32)))) := by
    rw [s_X0_pack_b124_eq]
    by_cases h : lg_cmp (x_pack_j3 wd qe) (16777216 : Int64) < 0
    · have ea : x_pack_j4a wd qe = x_pack_j3 wd qe := by rw [x_pack_j4a_eq, if_pos h]
      have eb : x_pack_j4b wd qe = x_pack_j1 wd qe := by rw [x_pack_j4b_eq, if_pos h]
      rw [if_pos h, s_X0_pack_b142_eq, x_pack_j5_eq, ea, eb]
      by_cases h2 : x_pack_j1 wd qe + 150 < 255
      · rw [if_pos h2, if_pos h2]
        by_cases h3 : 0 ≤ lg_cmp (x_pack_j3 wd qe) (8388608 : Int64)
        · rw [if_pos h3, if_pos h3, s_X0_pack_b181_eq]
        · rw [if_neg h3, if_neg h3, s_X0_pack_b181_eq]
      · rw [if_neg h2, if_neg h2]
    · have ea : x_pack_j4a wd qe = (x_pack_j3 wd qe) >>> ((1 : Int32).toInt64 &&& 63) := by rw [x_pack_j4a_eq, if_neg h]
      have eb : x_pack_j4b wd qe = x_pack_j1 wd qe + 1 := by rw [x_pack_j4b_eq, if_neg h]
      rw [if_neg h]
      show s_X0_pack_b142 sg (x_pack_j1 wd qe + 1) ((x_pack_j3 wd qe) >>> ((1 : Int32).toInt64 &&& 63)) = _
      rw [← ea, ← eb, s_X0_pack_b142_eq, x_pack_j5_eq]
      by_cases h2 : x_pack_j4b wd qe + 150 < 255
      · rw [if_pos h2, if_pos h2]
        by_cases h3 : 0 ≤ lg_cmp (x_pack_j4a wd qe) (8388608 : Int64)
        · rw [if_pos h3, if_pos h3, s_X0_pack_b181_eq]
        · rw [if_neg h3, if_neg h3, s_X0_pack_b181_eq]
      · rw [if_neg h2, if_neg h2]
  rw [s_X0_pack_eq, x_pack_eq]
  by_cases h : lg_cmp wd (0 : Int64) = 0
  · rw [if_pos h, if_pos h]
  · rw [if_neg h, if_neg h, ← b124]
    simp only [lx_nlz64, bv, e1, ← x_pack_j2_eq]
    rw [x_pack_j3_eq]
    generalize x_pack_j2 wd qe = J
    by_cases h1 : 0 < J
    · rw [if_pos h1, if_pos h1]
      by_cases h2 : 62 < J
      · rw [if_pos h2, if_pos h2]
      · rw [if_neg h2, if_neg h2]
        by_cases h3 : 0 < lg_cmp (wd - ((wd >>> (J.toInt64 &&& 63)) <<< (J.toInt64 &&& 63))) ((1 : Int64) <<< ((J - (1 : Int32)).toInt64 &&& 63))
        · rw [if_pos h3, if_pos h3, s_X0_pack_b116_eq, s_X0_pack_b121_eq]; rfl
        · rw [if_neg h3, if_neg h3]
          by_cases h4 : lg_cmp (wd - ((wd >>> (J.toInt64 &&& 63)) <<< (J.toInt64 &&& 63))) ((1 : Int64) <<< ((J - (1 : Int32)).toInt64 &&& 63)) = 0
          · rw [if_pos h4, if_pos h4]
            by_cases h5 : lg_cmp ((wd >>> (J.toInt64 &&& 63)) &&& (1 : Int64)) (1 : Int64) = 0
            · rw [if_pos h5, if_pos h5, s_X0_pack_b116_eq, s_X0_pack_b121_eq]; rfl
            · rw [if_neg h5, if_neg h5, s_X0_pack_b120_eq, s_X0_pack_b121_eq]; rfl
          · rw [if_neg h4, if_neg h4, s_X0_pack_b120_eq, s_X0_pack_b121_eq]; rfl
    · rw [if_neg h1, if_neg h1]
theorem lx_add (x y : Int32) : s_X0_add x y = x_add x y := by
  rw [s_X0_add_eq, x_add_eq]
  by_cases h1 : (x &&& 2147483647) = 2139095040
  · rw [if_pos h1, if_pos h1, s_X0_add_b14_eq, if_neg (by decide), s_X0_add_b28_eq]
    by_cases h2 : (x ^^^ y) = -2147483648
    · rw [if_pos h2, if_pos h2, s_X0_add_b41_eq, if_neg (by decide)]
    · rw [if_neg h2, if_neg h2, s_X0_add_b41_eq, if_pos rfl, if_neg (by decide)]
  · rw [if_neg h1, if_neg h1, s_X0_add_b14_eq, if_pos rfl]
    by_cases h3 : (y &&& 2147483647) = 2139095040
    · rw [if_pos h3, if_pos h3, s_X0_add_b28_eq]
      by_cases h2 : (x ^^^ y) = -2147483648
      · rw [if_pos h2, if_pos h2, s_X0_add_b41_eq, if_neg (by decide)]
      · rw [if_neg h2, if_neg h2, s_X0_add_b41_eq, if_pos rfl, if_pos rfl]
    · rw [if_neg h3, if_neg h3]
      have b88 : ∀ k a : Int32, k = x_add_j1 x y → a = x_add_j2 x y → s_X0_add_b88 x y k a = (if (x_add_j3 x y) ≤ (36 : Int32) then (if (0 : Int32) ≤ (x ^^^ y) then (if (lg_cmp (((x_wholeOf (x_add_j1 x y)) <<< ((x_add_j3 x y).toInt64 &&& 63)) + (x_wholeOf (x_add_j2 x y))) (0 : Int64)) = (0 : Int32) then (((x &&& y) &&& (-2147483648 : Int32))) else ((x_pack ((x_add_j1 x y).toUInt32 >>> ((31 : Int32).toUInt32 &&& Int32.toUInt32 31)).toInt32 (((x_wholeOf (x_add_j1 x y)) <<< ((x_add_j3 x y).toInt64 &&& 63)) + (x_wholeOf (x_add_j2 x y))) (x_lastBitOf (x_add_j2 x y))))) else (if (lg_cmp (((x_wholeOf (x_add_j1 x y)) <<< ((x_add_j3 x y).toInt64 &&& 63)) - (x_wholeOf (x_add_j2 x y))) (0 : Int64)) = (0 : Int32) then (((x &&& y) &&& (-2147483648 : Int32))) else ((x_pack ((x_add_j1 x y).toUInt32 >>> ((31 : Int32).toUInt32 &&& Int32.toUInt32 31)).toInt32 (((x_wholeOf (x_add_j1 x y)) <<< ((x_add_j3 x y).toInt64 &&& 63)) - (x_wholeOf (x_add_j2 x y))) (x_lastBitOf (x_add_j2 x y)))))) else ((x_add_j1 x y))) := by
        intro k a hk ha
        rw [s_X0_add_b88_eq, hk, ha]
        simp only [lx_lastBitOf, lx_wholeOf, bv, s_X0_add_b145_eq, lx_pack, ← x_add_j3_eq]
      have fin : ∀ Z : Int32, (∀ k a : Int32, k = x_add_j1 x y → a = x_add_j2 x y → s_X0_add_b88 x y k a = Z) → (if (x &&& 2147483647) < (y &&& 2147483647) then s_X0_add_b77 x y y else s_X0_add_b77 x y x) = Z := by
        intro Z b88
        have b77 : ∀ k : Int32, k = x_add_j1 x y → s_X0_add_b77 x y k = Z := fun k hk => by
          rw [s_X0_add_b77_eq]
          by_cases h5 : k = x
          · rw [if_pos h5]; exact b88 k y hk (by rw [x_add_j2_eq, ← hk, if_pos h5])
          · rw [if_neg h5]; exact b88 k x hk (by rw [x_add_j2_eq, ← hk, if_neg h5])
        by_cases h4 : (x &&& 2147483647) < (y &&& 2147483647)
        · rw [if_pos h4]; exact b77 y (by rw [x_add_j1_eq, if_pos h4])
        · rw [if_neg h4]; exact b77 x (by rw [x_add_j1_eq, if_neg h4])
      exact fin _ b88
theorem lx_mul (x y : Int32) : s_X0_multiply x y = x_mul x y := by
  rw [s_X0_multiply_eq, x_mul_eq]
  simp only [bv, s_X0_multiply_b25_eq, s_X0_multiply_b30_eq, s_X0_multiply_b45_eq, s_X0_multiply_b50_eq, lx_pack, lx_wholeOf, lx_lastBitOf]
  repeat' split
  all_goals first | rfl | contradiction | (simp_all; done)
theorem lx_div (x y : Int32) : s_X0_divide x y = x_div x y := by
  rw [s_X0_divide_eq, x_div_eq]
  have hj : ∀ s : Int32, (if (lg_cmp ((x_wholeOf x <<< ((x_nlz64 (x_wholeOf x) - 3).toInt64 &&& 63)) - (x_wholeOf x <<< ((x_nlz64 (x_wholeOf x) - 3).toInt64 &&& 63)) / x_wholeOf y * x_wholeOf y) (0 : Int64)) = 0 then x_pack s (((x_wholeOf x <<< ((x_nlz64 (x_wholeOf x) - 3).toInt64 &&& 63)) / x_wholeOf y) ||| (0 : Int64)) (((x_lastBitOf x) - (x_lastBitOf y)) - (x_nlz64 (x_wholeOf x) - 3)) else x_pack s (((x_wholeOf x <<< ((x_nlz64 (x_wholeOf x) - 3).toInt64 &&& 63)) / x_wholeOf y) ||| (1 : Int64)) (((x_lastBitOf x) - (x_lastBitOf y)) - (x_nlz64 (x_wholeOf x) - 3))) = x_pack s (((x_div_j2 x) / (x_wholeOf y)) ||| (x_div_j3 x y)) (((x_lastBitOf x) - (x_lastBitOf y)) - (x_div_j1 x)) := by
    intro s
    rw [x_div_j3_eq, x_div_j2_eq, x_div_j1_eq]
    split <;> rfl
  by_cases h1 : (x &&& 2147483647) = 2139095040
  · simp only [bv, if_pos h1, s_X0_divide_b21_eq]
    by_cases h2 : (y &&& 2147483647) = 2139095040
    · rw [if_pos h2, if_pos h2, s_X0_divide_b36_eq]; rfl
    · rw [if_neg h2, if_neg h2, s_X0_divide_b36_eq]; rfl
  · simp only [bv, if_neg h1, s_X0_divide_b21_eq]
    by_cases h2 : (y &&& 2147483647) = 2139095040
    · rw [if_pos h2, if_pos h2, s_X0_divide_b36_eq]; rfl
    · rw [if_neg h2, if_neg h2, s_X0_divide_b36_eq]
      simp only [bv, lx_wholeOf, lx_nlz64, s_X0_divide_b159_eq, lx_lastBitOf, lx_pack]
      rw [if_pos trivial, if_pos trivial]
      by_cases h3 : lg_cmp (x_wholeOf y) (0 : Int64) = 0
      · rw [if_pos h3, if_pos h3]
      · rw [if_neg h3, if_neg h3]
        by_cases h4 : lg_cmp (x_wholeOf x) (0 : Int64) = 0
        · rw [if_pos h4, if_pos h4]
        · rw [if_neg h4, if_neg h4]; exact hj _
