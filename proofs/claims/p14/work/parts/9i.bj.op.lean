theorem isInf_iff (x : Int32) : x &&& (2147483647 : Int32) = (2139095040 : Int32) ↔ nn x % 2147483648 = 2139095040 := by
  have hx := nn_lt x
  rw [and_size]
  exact nI_eq (a := nn x % 2147483648) (b := 2139095040) (by omega) (by decide)
theorem bits_ok {e : Nat} (h : e % 2147483648 ≤ 2139095040) (h2 : e < 4294967296) : m_bitsOf (UInt32.ofNat e) = nI e := by
  have e1 : (UInt32.ofNat e).toNat = e := by
    show e % 2 ^ 32 = e
    omega
  have e2 : FP.fcmp (UInt32.ofNat e) (UInt32.ofNat e) = some .eq := by
    show Jvm.FP.Core.order (Jvm.FP.Core.decode B (UInt32.ofNat e).toNat) (Jvm.FP.Core.decode B (UInt32.ofNat e).toNat) = _
    rw [e1, ord_dat h2 h2 h h, Int.compare_eq_eq.mpr rfl]
  rw [m_bitsOf_eq, m_f2ib_eq, m_isNaNF_eq, e2, if_pos (by decide)]
  rfl
theorem sgn_xor (x y : Int32) : nn (x ^^^ y) / 2147483648 = (fS (nn x) != fS (nn y)).toNat := by
  have hx := nn_lt x; have hy := nn_lt y
  rw [nn_xor, fS_eq hx, fS_eq hy]
  have e : (nn x ^^^ nn y) / 2147483648 = (nn x / 2147483648) ^^^ (nn y / 2147483648) := by
    have := Nat.shiftRight_xor_distrib (a := nn x) (b := nn y) (i := 31)
    rw [Nat.shiftRight_eq_div_pow, Nat.shiftRight_eq_div_pow, Nat.shiftRight_eq_div_pow] at this
    exact this
  rw [e]
  by_cases a : 2147483648 ≤ nn x <;> by_cases b : 2147483648 ≤ nn y
  · rw [show nn x / 2147483648 = 1 by omega, show nn y / 2147483648 = 1 by omega, decide_eq_true a, decide_eq_true b]; rfl
  · rw [show nn x / 2147483648 = 1 by omega, show nn y / 2147483648 = 0 by omega, decide_eq_true a, decide_eq_false b]; rfl
  · rw [show nn x / 2147483648 = 0 by omega, show nn y / 2147483648 = 1 by omega, decide_eq_false a, decide_eq_true b]; rfl
  · rw [show nn x / 2147483648 = 0 by omega, show nn y / 2147483648 = 0 by omega, decide_eq_false a, decide_eq_false b]; rfl
theorem or_inf {b : Nat} (hb : b < 2) : nI b <<< ((31 : Int32) &&& 31) ||| (2139095040 : Int32) = nI (b * 2147483648 + 2139095040) := by
  rw [pk_shlN ((31 : Int32) &&& 31) 31 (by decide) (by omega), Nat.mul_comm b]
  show nI (2 ^ 31 * b) ||| nI 2139095040 = _
  rw [fa_or_sum b (by decide)]
  all_goals exact congrArg nI (by omega)
theorem tn_lt (s : Bool) : s.toNat < 2 := by cases s <;> decide
theorem mulD_bits {D : Jvm.FP.Core.Datum} (h : D ≠ .nan) : m_bitsOf (UInt32.ofNat (Jvm.FP.Core.encode B (Jvm.FP.Core.round B D))) = nI (Jvm.FP.Core.encode B (Jvm.FP.Core.round B D)) := bits_ok (enc_dat h).1 (enc_dat h).2
theorem noN42_iff (a b : Int32) (h1 : nn a % 2147483648 ≤ 2139095040) (h2 : nn b % 2147483648 ≤ 2139095040) (h3 : nn a % 2147483648 = 2139095040 → ¬ nn b % 2147483648 = 0) (h4 : nn b % 2147483648 = 2139095040 → ¬ nn a % 2147483648 = 0) : m_noN42 a b = 0 := by
  rw [m_noN42_eq]
  simp only [mNq, mIq, mZq]
  repeat' split
  all_goals first | rfl | omega
theorem mul_ok (x y : Int32) (h1 : nn x % 2147483648 ≤ 2139095040) (h2 : nn y % 2147483648 ≤ 2139095040) : x_mul x y = m_br42 x y := by
  have hx := nn_lt x; have hy := nn_lt y
  rw [m_br42_eq]
  by_cases hb : (nn x % 2147483648 = 2139095040 ∧ nn y % 2147483648 = 0) ∨ (nn y % 2147483648 = 2139095040 ∧ nn x % 2147483648 = 0)
  · rw [if_neg (fun z => by have := noN42q z; omega), x_mul_eq]
    rcases hb with ⟨a, b⟩ | ⟨a, b⟩
    · rw [if_pos ((isInf_iff x).mpr a), if_neg (fun z => by have := (mZq x).mp z; omega), if_pos ((mZq y).mpr b)]
    · rw [if_neg (fun z => by have := (isInf_iff x).mp z; omega), if_pos ((isInf_iff y).mpr a), if_pos ((mZq x).mpr b)]
  · rw [if_pos (noN42_iff x y h1 h2 (by omega) (by omega))]
    show _ = m_bitsOf (UInt32.ofNat (Jvm.FP.Core.encode B (Jvm.FP.Core.round B (Jvm.FP.Core.exactProduct (Jvm.FP.Core.decode B (nn x)) (Jvm.FP.Core.decode B (nn y))))))
    rw [mulD_bits (n32_mul h1 h2 (by omega) (by omega)), x_mul_eq, ushr31, sgn_xor]
    by_cases a : nn x % 2147483648 = 2139095040
    · rw [if_pos ((isInf_iff x).mpr a), if_neg (fun z => by have := (mZq x).mp z; omega), if_neg (fun z => by have := (mZq y).mp z; omega), or_inf (tn_lt _), dec_inf a]
      by_cases b : nn y % 2147483648 = 2139095040
      · rw [dec_inf b]
        show _ = nI (Jvm.FP.Core.encode B (.inf _))
        rw [enc_inf]
      · rw [dec_fin (by omega)]
        show _ = nI (Jvm.FP.Core.encode B (Jvm.FP.Core.round B (if fc (nn y) = 0 then _ else .inf _)))
        rw [if_neg (fun z => by have := (fc_zero (nn y)).mp z; omega)]
        show _ = nI (Jvm.FP.Core.encode B (.inf _))
        rw [enc_inf]
    · rw [if_neg (fun z => a ((isInf_iff x).mp z))]
      by_cases b : nn y % 2147483648 = 2139095040
      · rw [if_pos ((isInf_iff y).mpr b), if_neg (fun z => by have := (mZq x).mp z; omega), if_neg (fun z => by have := (mZq y).mp z; omega), or_inf (tn_lt _), dec_inf b, dec_fin (by omega)]
        show _ = nI (Jvm.FP.Core.encode B (Jvm.FP.Core.round B (if fc (nn x) = 0 then _ else .inf _)))
        rw [if_neg (fun z => by have := (fc_zero (nn x)).mp z; omega)]
        show _ = nI (Jvm.FP.Core.encode B (.inf _))
        rw [enc_inf]
      · rw [if_neg (fun z => b ((isInf_iff y).mp z)), dec_fin (by omega), dec_fin (by omega)]
        have key : x_pack (nI ((fS (nn x) != fS (nn y)).toNat)) (x_wholeOf x * x_wholeOf y) (x_lastBitOf x + x_lastBitOf y) = nI (Jvm.FP.Core.encode B (Jvm.FP.Core.roundRatio B (fS (nn x) != fS (nn y)) (fc (nn x) * fc (nn y)) 1 (fq (nn x) + fq (nn y)))) := by
          have q1 := fq_lo (nn x); have q2 := fq_hi (nn x); have q3 := fq_lo (nn y); have q4 := fq_hi (nn y)
          have c1 := fc_lt (nn x); have c2 := fc_lt (nn y)
          have l1 := last_toInt x; have l2 := last_toInt y
          have hm : fc (nn x) * fc (nn y) ≤ 16777215 * 16777215 := Nat.mul_le_mul (by omega) (by omega)
          rw [whole_eq, whole_eq, lN_mul]
          refine pack_ok (tn_lt _) (by omega) ?_ (by omega) _ rfl
          rw [fb_addI (by rw [l1, l2]; omega) (by rw [l1, l2]; omega), l1, l2]
        rw [key]
        split
        · rfl
        · split <;> rfl
theorem eq42 (a d : Int32) : m_ap42 a d = fop a 42 d := by
  have e : fop a 42 d = x_ap42 a d := rfl
  rw [e, m_ap42_eq, x_ap42_eq, xm_fb, xm_fb, xm_nan, xm_nan]
  generalize m_floatOf a = A
  generalize m_floatOf d = D
  by_cases h1 : m_isNan A = 0
  · rw [if_pos h1]
    by_cases h2 : m_isNan D = 0
    · rw [if_pos h2, mul_ok A D ((mNq A).mp h1) ((mNq D).mp h2)]
    · rw [if_neg h2, m_br42_eq, if_neg (fun z => h2 ((mNq D).mpr (noN42q z).2.1))]
  · rw [if_neg h1, m_br42_eq, if_neg (fun z => h1 ((mNq A).mpr (noN42q z).1))]
