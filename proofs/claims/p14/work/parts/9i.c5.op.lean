theorem lx_make (a b : Int32) : s_X0_make a b = x_make a b := by rw [s_X0_make_eq]; rfl
theorem lx_kind1 (k : Int32) : s_X0_kind (s_X0_make 1 k) = 1 := by rw [s_X0_kind_eq, lx_make]; exact x_kind_make k
theorem lx_bits1 (k : Int32) : s_X0_bits (s_X0_make 1 k) = k := by rw [s_X0_bits_eq, lx_make, x_bits_make]
theorem lx_bits0 (k : Int32) : s_X0_bits (s_X0_make 0 k) = k := by rw [s_X0_bits_eq, lx_make, x_bits_make0]
theorem lx_fb (k : Int32) : s_X0_floatBits (s_X0_make 1 k) = x_floatBits k := by
  rw [s_X0_floatBits_eq, x_floatBits_eq]
  simp only [bv, lx_bits1, lx_kind1, lx_isNan]
  rw [if_pos trivial]
theorem lx_cut (k : Int32) : s_X0_cut (s_X0_make 1 k) = x_cut k := by
  rw [s_X0_cut_eq, x_cut_eq]
  simp only [bv, lx_bits1, lx_kind1, lx_isNan, lx_lastBitOf, lx_wholeOf, s_X0_cut_b75_eq]
  rw [if_pos trivial]
theorem lx_b53 (g a d : Int32) (hg : ¬ g = 37) : s_X0_apply g (s_X0_make 1 a) (s_X0_make 1 d) = (if x_isNan (x_floatBits a) = 0 then (if x_isNan (x_floatBits d) = 0 then s_X0_apply_b86 g (x_floatBits a) (x_floatBits d) 0 else s_X0_apply_b86 g (x_floatBits a) (x_floatBits d) 1) else s_X0_apply_b86 g (x_floatBits a) (x_floatBits d) 1) := by
  rw [s_X0_apply_eq, if_neg hg, lx_kind1, if_neg (by decide), s_X0_apply_b53_eq]
  simp only [bv, lx_fb, lx_isNan, s_X0_apply_b81_eq]
theorem lx_op (g a d : Int32) (h : s_X0_isSign g ≠ 0) : s_X0_bits (s_X0_apply g (s_X0_make 1 a) (s_X0_make 1 d)) = fop a g d := by
  rw [s_X0_isSign_eq] at h
  by_cases h43 : g = 43
  · subst h43
    rw [lx_b53 _ _ _ (by decide)]
    show _ = x_ap43 a d
    rw [x_ap43_eq]
    simp only [s_X0_apply_b86_eq]
    repeat' split
    all_goals first | contradiction | (rw [lx_bits1, lx_add]; done) | (rw [lx_bits1]; done)
  by_cases h45 : g = 45
  · subst h45
    rw [lx_b53 _ _ _ (by decide)]
    show _ = x_ap45 a d
    rw [x_ap45_eq]
    simp only [s_X0_apply_b86_eq]
    repeat' split
    all_goals first | contradiction | (rw [lx_bits1, lx_add]; done) | (rw [lx_bits1]; done)
  by_cases h42 : g = 42
  · subst h42
    rw [lx_b53 _ _ _ (by decide)]
    show _ = x_ap42 a d
    rw [x_ap42_eq]
    simp only [s_X0_apply_b86_eq]
    repeat' split
    all_goals first | contradiction | (rw [lx_bits1, lx_mul]; done) | (rw [lx_bits1]; done)
  by_cases h47 : g = 47
  · subst h47
    rw [lx_b53 _ _ _ (by decide)]
    show _ = x_ap47 a d
    rw [x_ap47_eq]
    simp only [s_X0_apply_b86_eq]
    repeat' split
    all_goals first | contradiction | (rw [lx_bits1, lx_div]; done) | (rw [lx_bits1]; done)
  by_cases h37 : g = 37
  · subst h37
    show _ = x_ap37 a d
    rw [s_X0_apply_eq, if_pos rfl, lx_bits0, x_ap37_eq, lx_rest, lx_cut, lx_cut]
  by_cases h60 : g = 60
  · subst h60
    rw [lx_b53 _ _ _ (by decide)]
    show _ = x_ap60 a d
    rw [x_ap60_eq]
    simp only [s_X0_apply_b86_eq, lx_isBelow]
    repeat' split
    all_goals first | contradiction | (rw [lx_bits0]; done)
  by_cases h61 : g = 61
  · subst h61
    rw [lx_b53 _ _ _ (by decide)]
    show _ = x_ap61 a d
    rw [x_ap61_eq]
    simp only [s_X0_apply_b86_eq, lx_isEqual]
    repeat' split
    all_goals first | contradiction | (rw [lx_bits0]; done)
  rw [if_neg h43, if_neg h45, if_neg h42, if_neg h47, if_neg h37, if_neg h60, if_neg h61] at h
  exact absurd rfl h
