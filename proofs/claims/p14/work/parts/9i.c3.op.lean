theorem lx_isNan (x : Int32) : s_X0_isNan x = x_isNan x := by rw [s_X0_isNan_eq, x_isNan_eq]
theorem lx_ordered (x : Int32) : s_X0_ordered x = x_ordered x := by rw [s_X0_ordered_eq, x_ordered_eq]
theorem lx_wholeOf (x : Int32) : s_X0_wholeOf x = x_wholeOf x := by rw [s_X0_wholeOf_eq, x_wholeOf_eq]; rfl
theorem lx_lastBitOf (x : Int32) : s_X0_lastBitOf x = x_lastBitOf x := by rw [s_X0_lastBitOf_eq, x_lastBitOf_eq]; rfl
theorem lx_isBelow (x y : Int32) : s_X0_isBelow x y = x_isBelow x y := by rw [s_X0_isBelow_eq, x_isBelow_eq]; simp only [lx_isNan, lx_ordered]
theorem lx_isEqual (x y : Int32) : s_X0_isEqual x y = x_isEqual x y := by rw [s_X0_isEqual_eq, x_isEqual_eq]; simp only [lx_isNan, lx_ordered]
theorem lx_rest (x y : Int32) : s_X0_rest x y = x_rest x y := by rw [s_X0_rest_eq, x_rest_eq]
theorem lx_nlz32 (x : Int32) : s_J6_numberOfLeadingZeros_0f7a4 x = x_nlz32 x := by
  simp only [s_J6_numberOfLeadingZeros_0f7a4_eq, s_J6_numberOfLeadingZeros_0f7a4_b33_eq, s_J6_numberOfLeadingZeros_0f7a4_b48_eq, s_J6_numberOfLeadingZeros_0f7a4_b61_eq, x_nlz32_eq, x_nlz32_j4a_eq, x_nlz32_j4b_eq, x_nlz32_j3a_eq, x_nlz32_j3b_eq, x_nlz32_j2a_eq, x_nlz32_j2b_eq, x_nlz32_j1a_eq, x_nlz32_j1b_eq, bv]
  repeat' split
  all_goals first | rfl | contradiction | (simp_all; done)
theorem lx_nlz64 (x : Int64) : s_J13_numberOfLeadingZeros_95d88 x = x_nlz64 x := by
  rw [s_J13_numberOfLeadingZeros_95d88_eq, x_nlz64_eq]; simp only [lx_nlz32, bv]
