theorem xm_nan (x : Int32) : x_isNan x = m_isNan x := by rw [x_isNan_eq, m_isNan_eq]
theorem xm_fb (x : Int32) : x_floatBits x = m_floatOf x := by rw [x_floatBits_eq, m_floatOf_eq, xm_nan]
theorem ti_eqq (x : Int32) : x.toInt = if nn x < 2147483648 then (nn x : Int) else (nn x : Int) - 4294967296 := by
  show x.toBitVec.toInt = if x.toBitVec.toNat < 2147483648 then ((x.toBitVec.toNat : Nat) : Int) else ((x.toBitVec.toNat : Nat) : Int) - 4294967296
  rw [BitVec.toInt_eq_toNat_cond]
  split <;> split <;> omega
def so (n : Nat) : Int := if 2147483648 ≤ n then -((n % 2147483648 : Nat) : Int) else ((n % 2147483648 : Nat) : Int)
theorem ord_toInt (x : Int32) : (x_ordered x).toInt = so (nn x) := by
  have hx := nn_lt x
  have e := ti_eqq x
  rw [x_ordered_eq]
  unfold so
  by_cases h : (0 : Int32) ≤ x
  · rw [if_pos h]
    have h2 : (0 : Int32).toInt ≤ x.toInt := (fa_le _ _).mp h
    have h3 : (0 : Int32).toInt = 0 := by decide
    split at e <;> split <;> omega
  · rw [if_neg h, and_size]
    have h2 : ¬ (0 : Int32).toInt ≤ x.toInt := fun z => h ((fa_le _ _).mpr z)
    have h3 : (0 : Int32).toInt = 0 := by decide
    have h4 : (nI (nn x % 2147483648)).toInt = ((nn x % 2147483648 : Nat) : Int) := nI_toInt (by omega)
    rw [fb_negI (by rw [h4]; omega), h4]
    split at e <;> split <;> omega
def mg (n : Nat) : Nat := fc n * 2 ^ (fq n + 149).toNat
theorem fq_lo (n : Nat) : -149 ≤ fq n := by
  unfold fq; split <;> omega
theorem mg_eq (n : Nat) : mg n = if fE n = 0 then fT n else (fT n + 8388608) * 2 ^ (fE n - 1) := by
  unfold mg fc fq
  by_cases h : fE n = 0
  · rw [if_pos h, if_pos h, if_pos h]; simp
  · rw [if_neg h, if_neg h, if_neg h, show ((fE n : Int) - 150 + 149).toNat = fE n - 1 by omega]
theorem mg_lt {m n : Nat} (h : m % 2147483648 < n % 2147483648) : mg m < mg n := by
  have a1 := size_split m; have a2 := fT_lt m
  have b1 := size_split n; have b2 := fT_lt n
  rw [mg_eq, mg_eq]
  by_cases hm : fE m = 0
  · rw [if_pos hm]
    by_cases hn : fE n = 0
    · rw [if_pos hn]; omega
    · rw [if_neg hn]
      have : fT n + 8388608 ≤ (fT n + 8388608) * 2 ^ (fE n - 1) := Nat.le_mul_of_pos_right _ (Nat.two_pow_pos _)
      omega
  · have hn : ¬ fE n = 0 := by
      intro z; omega
    rw [if_neg hm, if_neg hn]
    by_cases he : fE m = fE n
    · rw [he]
      exact Nat.mul_lt_mul_of_pos_right (by omega) (Nat.two_pow_pos _)
    · have hlt : fE m < fE n := by omega
      have e1 : (2 : Nat) ^ (fE n - 1) = 2 ^ (fE m - 1) * 2 ^ (fE n - fE m) := by rw [← Nat.pow_add]; congr 1; omega
      have e2 : 2 ≤ 2 ^ (fE n - fE m) := by
        have := Nat.pow_le_pow_right (show 0 < 2 by decide) (show 1 ≤ fE n - fE m by omega)
        simpa using this
      rw [e1]
      calc (fT m + 8388608) * 2 ^ (fE m - 1) < (8388608 * 2) * 2 ^ (fE m - 1) := Nat.mul_lt_mul_of_pos_right (by omega) (Nat.two_pow_pos _)
        _ = 8388608 * (2 ^ (fE m - 1) * 2) := by rw [Nat.mul_assoc, Nat.mul_comm 2]
        _ ≤ (fT n + 8388608) * (2 ^ (fE m - 1) * 2 ^ (fE n - fE m)) := Nat.mul_le_mul (by omega) (Nat.mul_le_mul (Nat.le_refl _) e2)
theorem mg_iff {m n : Nat} : mg m < mg n ↔ m % 2147483648 < n % 2147483648 := by
  constructor
  · intro h
    rcases Nat.lt_trichotomy (m % 2147483648) (n % 2147483648) with a | a | a
    · exact a
    · have h1 := size_split m; have h2 := size_split n; have h3 := fT_lt m; have h4 := fT_lt n
      have e1 : fE m = fE n := by omega
      have e2 : fT m = fT n := by omega
      rw [mg_eq, mg_eq, e1, e2] at h
      exact absurd h (Nat.lt_irrefl _)
    · exact absurd (mg_lt a) (by omega)
  · exact mg_lt
theorem mg_zero (n : Nat) : mg n = 0 ↔ n % 2147483648 = 0 := by
  rw [← fc_zero]
  unfold mg
  constructor
  · intro h
    rcases Nat.mul_eq_zero.mp h with a | a
    · exact a
    · have := Nat.two_pow_pos (fq n + 149).toNat; omega
  · intro h; rw [h, Nat.zero_mul]
theorem iu_mg (n : Nat) {e : Int} (h1 : -149 ≤ e) (h2 : e ≤ fq n) : Jvm.FP.Core.inUnits (fc n) (fq n) e * 2 ^ (e + 149).toNat = mg n := by
  unfold Jvm.FP.Core.inUnits mg
  rw [Nat.mul_assoc, ← Nat.pow_add]
  congr 2
  omega
theorem cmp_of {a b c d : Int} (h1 : a < b ↔ c < d) (h2 : b < a ↔ d < c) : compare a b = compare c d := by
  rcases Int.lt_trichotomy a b with h | h | h
  · rw [Int.compare_eq_lt.mpr h, Int.compare_eq_lt.mpr (h1.mp h)]
  · have : c = d := by omega
    rw [h, this, Int.compare_eq_eq.mpr rfl, Int.compare_eq_eq.mpr rfl]
  · rw [Int.compare_eq_gt.mpr h, Int.compare_eq_gt.mpr (h2.mp h)]
theorem ord_fin {m n : Nat} (hm : m < 4294967296) (hn : n < 4294967296) (s t : Bool) (hs : s = decide (2147483648 ≤ m)) (ht : t = decide (2147483648 ≤ n)) : compare (Jvm.FP.Core.signed s (Jvm.FP.Core.inUnits (fc m) (fq m) (min (fq m) (fq n)))) (Jvm.FP.Core.signed t (Jvm.FP.Core.inUnits (fc n) (fq n) (min (fq m) (fq n)))) = compare (so m) (so n) := by
  have q1 := fq_lo m; have q2 := fq_lo n
  have i1 := iu_mg m (e := min (fq m) (fq n)) (by omega) (by omega)
  have i2 := iu_mg n (e := min (fq m) (fq n)) (by omega) (by omega)
  have hp := Nat.two_pow_pos (min (fq m) (fq n) + 149).toNat
  generalize Jvm.FP.Core.inUnits (fc m) (fq m) (min (fq m) (fq n)) = I1 at i1 ⊢
  generalize Jvm.FP.Core.inUnits (fc n) (fq n) (min (fq m) (fq n)) = I2 at i2 ⊢
  generalize (2 : Nat) ^ (min (fq m) (fq n) + 149).toNat = P at i1 i2 hp
  have k1 : I1 < I2 ↔ m % 2147483648 < n % 2147483648 := by
    rw [← mg_iff, ← i1, ← i2]; exact (Nat.mul_lt_mul_right hp).symm
  have k2 : I2 < I1 ↔ n % 2147483648 < m % 2147483648 := by
    rw [← mg_iff, ← i1, ← i2]; exact (Nat.mul_lt_mul_right hp).symm
  have z1 : I1 = 0 ↔ m % 2147483648 = 0 := by
    rw [← mg_zero, ← i1]
    constructor
    · intro h; rw [h, Nat.zero_mul]
    · intro h
      rcases Nat.mul_eq_zero.mp h with a | a
      · exact a
      · omega
  have z2 : I2 = 0 ↔ n % 2147483648 = 0 := by
    rw [← mg_zero, ← i2]
    constructor
    · intro h; rw [h, Nat.zero_mul]
    · intro h
      rcases Nat.mul_eq_zero.mp h with a | a
      · exact a
      · omega
  unfold Jvm.FP.Core.signed so
  subst hs; subst ht
  apply cmp_of
  · by_cases a : 2147483648 ≤ m <;> by_cases b : 2147483648 ≤ n <;> simp only [a, b, decide_true, decide_false, if_true, if_false, Bool.false_eq_true] <;> omega
  · by_cases a : 2147483648 ≤ m <;> by_cases b : 2147483648 ≤ n <;> simp only [a, b, decide_true, decide_false, if_true, if_false, Bool.false_eq_true] <;> omega
theorem ord_dat {m n : Nat} (hm : m < 4294967296) (hn : n < 4294967296) (h1 : m % 2147483648 ≤ 2139095040) (h2 : n % 2147483648 ≤ 2139095040) : Jvm.FP.Core.order (Jvm.FP.Core.decode B m) (Jvm.FP.Core.decode B n) = some (compare (so m) (so n)) := by
  rcases Nat.lt_or_ge (m % 2147483648) 2139095040 with a | a <;> rcases Nat.lt_or_ge (n % 2147483648) 2139095040 with b | b
  · rw [dec_fin a, dec_fin b]
    exact congrArg some (ord_fin hm hn _ _ (fS_eq hm) (fS_eq hn))
  · rw [dec_fin a, dec_inf (by omega), fS_eq hn]
    show some (compare 0 (Jvm.FP.Core.signed _ 1)) = _
    unfold Jvm.FP.Core.signed so
    congr 1
    by_cases z : 2147483648 ≤ n <;> by_cases y : 2147483648 ≤ m <;> simp only [z, y, decide_true, decide_false, if_true, if_false, Bool.false_eq_true] <;> apply cmp_of <;> omega
  · rw [dec_inf (by omega), dec_fin b, fS_eq hm]
    show some (compare (Jvm.FP.Core.signed _ 1) 0) = _
    unfold Jvm.FP.Core.signed so
    congr 1
    by_cases z : 2147483648 ≤ n <;> by_cases y : 2147483648 ≤ m <;> simp only [z, y, decide_true, decide_false, if_true, if_false, Bool.false_eq_true] <;> apply cmp_of <;> omega
  · rw [dec_inf (by omega), dec_inf (by omega), fS_eq hm, fS_eq hn]
    show some (compare (Jvm.FP.Core.signed _ 1) (Jvm.FP.Core.signed _ 1)) = _
    unfold Jvm.FP.Core.signed so
    congr 1
    by_cases z : 2147483648 ≤ n <;> by_cases y : 2147483648 ≤ m <;> simp only [z, y, decide_true, decide_false, if_true, if_false, Bool.false_eq_true] <;> apply cmp_of <;> omega
theorem fcmp_ord {x y : Int32} (h1 : nn x % 2147483648 ≤ 2139095040) (h2 : nn y % 2147483648 ≤ 2139095040) : FP.fcmp x.toUInt32 y.toUInt32 = some (compare (x_ordered x).toInt (x_ordered y).toInt) := by
  rw [ord_toInt, ord_toInt]
  exact ord_dat (nn_lt x) (nn_lt y) h1 h2
theorem less_below (x y : Int32) : m_isLess x y = x_isBelow x y := by
  rw [m_isLess_eq, x_isBelow_eq, xm_nan, xm_nan]
  by_cases a : m_isNan x = 0
  · rw [if_pos a, if_pos a]
    by_cases b : m_isNan y = 0
    · rw [if_pos b, if_pos b, fcmp_ord ((mNq x).mp a) ((mNq y).mp b)]
      have e : (x_ordered y ≤ x_ordered x) ↔ (x_ordered y).toInt ≤ (x_ordered x).toInt := fa_le _ _
      rcases Int.lt_trichotomy (x_ordered x).toInt (x_ordered y).toInt with h | h | h
      · rw [Int.compare_eq_lt.mpr h, if_neg (by decide), if_neg (by rw [e]; omega)]
      · rw [Int.compare_eq_eq.mpr h, if_pos (by decide), if_pos (by rw [e]; omega)]
      · rw [Int.compare_eq_gt.mpr h, if_pos (by decide), if_pos (by rw [e]; omega)]
    · rw [if_neg b, if_neg b]
  · rw [if_neg a, if_neg a]
theorem same_equal (x y : Int32) : m_isSame x y = x_isEqual x y := by
  rw [m_isSame_eq, x_isEqual_eq, xm_nan, xm_nan]
  by_cases a : m_isNan x = 0
  · rw [if_pos a, if_pos a]
    by_cases b : m_isNan y = 0
    · rw [if_pos b, if_pos b, fcmp_ord ((mNq x).mp a) ((mNq y).mp b)]
      have e : (x_ordered x = x_ordered y) ↔ (x_ordered x).toInt = (x_ordered y).toInt := fa_eq _ _
      rcases Int.lt_trichotomy (x_ordered x).toInt (x_ordered y).toInt with h | h | h
      · rw [Int.compare_eq_lt.mpr h, if_neg (by decide), if_neg (by rw [e]; omega)]
      · rw [Int.compare_eq_eq.mpr h, if_pos (by decide), if_pos (by rw [e]; omega)]
      · rw [Int.compare_eq_gt.mpr h, if_neg (by decide), if_neg (by rw [e]; omega)]
    · rw [if_neg b, if_neg b]
  · rw [if_neg a, if_neg a]
theorem eq60 (a d : Int32) : m_ap60 a d = fop a 60 d := by
  have e : fop a 60 d = x_ap60 a d := rfl
  rw [e, m_ap60_eq, x_ap60_eq, less_below, xm_fb, xm_fb]
  simp only [ite_self]
theorem eq61 (a d : Int32) : m_ap61 a d = fop a 61 d := by
  have e : fop a 61 d = x_ap61 a d := rfl
  rw [e, m_ap61_eq, x_ap61_eq, same_equal, xm_fb, xm_fb]
  simp only [ite_self]
