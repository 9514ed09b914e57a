theorem or_1 (n : Nat) : n ||| 1 = n / 2 * 2 + 1 := by
  have h1 : (n ||| 1) / 2 = n / 2 := by rw [Nat.or_div_two]; simp
  have h2 : (n ||| 1) % 2 = 1 := by rw [Nat.or_mod_two_eq_one]; simp
  omega
theorem noN47_iff (a b : Int32) (h1 : nn a % 2147483648 ≤ 2139095040) (h2 : nn b % 2147483648 ≤ 2139095040) (h3 : ¬ (nn a % 2147483648 = 2139095040 ∧ nn b % 2147483648 = 2139095040)) (h4 : ¬ (nn a % 2147483648 = 0 ∧ nn b % 2147483648 = 0)) : m_noN47 a b = 0 := by
  rw [m_noN47_eq]
  simp only [mNq, mIq, mZq]
  repeat' split
  all_goals first | rfl | omega
theorem whole_zero (x : Int32) : (lg_cmp (x_wholeOf x) (0 : Int64) = 0) ↔ nn x % 2147483648 = 0 := by
  have c1 := fc_lt (nn x)
  rw [lg_cmp_eq, whole_eq, ← fc_zero]
  exact pk_lEQ (a := fc (nn x)) (b := 0) (by omega) (by decide)
theorem shl31 {b : Nat} (hb : b < 2) : nI b <<< ((31 : Int32) &&& 31) = nI (b * 2147483648) := pk_shlN ((31 : Int32) &&& 31) 31 (by decide) (by omega)
theorem div_pack {x y : Int32} (s : Bool) (hx : 0 < fc (nn x)) (hy : 0 < fc (nn y)) : x_pack (nI s.toNat) ((x_div_j2 x / x_wholeOf y) ||| x_div_j3 x y) ((x_lastBitOf x - x_lastBitOf y) - x_div_j1 x) = nI (Jvm.FP.Core.encode B (Jvm.FP.Core.roundRatio B s (fc (nn x)) (fc (nn y)) (fq (nn x) - fq (nn y)))) := by
  have q1 := fq_lo (nn x); have q2 := fq_hi (nn x); have q3 := fq_lo (nn y); have q4 := fq_hi (nn y)
  have c1 := fc_lt (nn x); have c2 := fc_lt (nn y)
  have l1 := last_toInt x; have l2 := last_toInt y
  have hl := (Nat.log2_eq_iff (n := fc (nn x)) (by omega)).mp rfl
  have hl24 : (fc (nn x)).log2 < 24 := (Nat.log2_lt (by omega)).mpr (by omega)
  obtain ⟨sh, hsh⟩ : ∃ sh, sh = 60 - (fc (nn x)).log2 := ⟨_, rfl⟩
  have j1 : x_div_j1 x = nI sh := by
    rw [x_div_j1_eq, whole_eq, nlz64_ok hx (by omega)]
    show nI (63 - (fc (nn x)).log2) - nI 3 = nI sh
    rw [pk_sub (by omega)]
    exact congrArg nI (by omega)
  have j2 : x_div_j2 x = lN (fc (nn x) * 2 ^ sh) := by
    rw [x_div_j2_eq, whole_eq, j1, wb_shl _ (by omega)]
  have hA1 : 2 ^ 60 ≤ fc (nn x) * 2 ^ sh := by
    have := Nat.mul_le_mul_right (2 ^ sh) hl.1
    rw [← Nat.pow_add, show (fc (nn x)).log2 + sh = 60 by omega] at this
    exact this
  have hA2 : fc (nn x) * 2 ^ sh < 2 ^ 61 := by
    have := Nat.mul_lt_mul_of_pos_right hl.2 (Nat.two_pow_pos sh)
    rw [← Nat.pow_add, show (fc (nn x)).log2 + 1 + sh = 61 by omega] at this
    exact this
  have hdl : fc (nn x) * 2 ^ sh / fc (nn y) ≤ fc (nn x) * 2 ^ sh := Nat.div_le_self _ _
  have e1 : x_div_j2 x / x_wholeOf y = lN (fc (nn x) * 2 ^ sh / fc (nn y)) := by
    rw [j2, whole_eq, pk_lDiv (by omega) hy (by omega)]
  have e2 : (x_div_j2 x / x_wholeOf y) ||| x_div_j3 x y = lN (sZ (fc (nn x) * 2 ^ sh) (fc (nn y))) := by
    have hr : (lg_cmp (lN (fc (nn x) * 2 ^ sh % fc (nn y))) (0 : Int64) = 0) ↔ fc (nn x) * 2 ^ sh % fc (nn y) = 0 := by
      have := Nat.mod_lt (fc (nn x) * 2 ^ sh) hy
      rw [lg_cmp_eq]
      exact pk_lEQ (a := fc (nn x) * 2 ^ sh % fc (nn y)) (b := 0) (by omega) (by decide)
    rw [x_div_j3_eq, e1, j2, whole_eq]
    have e3 : lN (fc (nn x) * 2 ^ sh) - lN (fc (nn x) * 2 ^ sh / fc (nn y)) * lN (fc (nn y)) = lN (fc (nn x) * 2 ^ sh % fc (nn y)) := by
      rw [← pk_lDiv (by omega) hy (by omega)]
      exact pk_lRem (by omega) hy (by omega)
    have e4 : lN (fc (nn x) * 2 ^ sh) / lN (fc (nn y)) = lN (fc (nn x) * 2 ^ sh / fc (nn y)) := pk_lDiv (by omega) hy (by omega)
    rw [e3]
    unfold sZ
    by_cases c : fc (nn x) * 2 ^ sh % fc (nn y) = 0
    · rw [if_pos (hr.mpr c), if_pos c]
      show lN _ ||| lN 0 = _
      rw [fb_orL, Nat.or_zero]
    · rw [if_neg (fun z => c (hr.mp z)), if_neg c]
      show lN _ ||| lN 1 = _
      rw [fb_orL, or_1]
  rw [e2, rr_div s hx hy (by omega) hA1 (by omega)]
  have hZ : sZ (fc (nn x) * 2 ^ sh) (fc (nn y)) < 2 ^ 62 := by unfold sZ; split <;> omega
  refine pack_ok (tn_lt s) hZ ?_ (by omega) s rfl
  have e5 : (x_lastBitOf x - x_lastBitOf y).toInt = fq (nn x) - fq (nn y) := by rw [fb_subI (by rw [l1, l2]; omega) (by rw [l1, l2]; omega), l1, l2]
  have e6 : (nI sh).toInt = (sh : Int) := nI_toInt (by omega)
  rw [j1, fb_subI (by rw [e5, e6]; omega) (by rw [e5, e6]; omega), e5, e6]
theorem div_ok (x y : Int32) (h1 : nn x % 2147483648 ≤ 2139095040) (h2 : nn y % 2147483648 ≤ 2139095040) : x_div x y = m_br47 x y := by
  have hx := nn_lt x; have hy := nn_lt y
  rw [m_br47_eq]
  by_cases hb : (nn x % 2147483648 = 2139095040 ∧ nn y % 2147483648 = 2139095040) ∨ (nn x % 2147483648 = 0 ∧ nn y % 2147483648 = 0)
  · rw [if_neg (fun z => by have := noN47q z; omega), x_div_eq]
    rcases hb with ⟨a, b⟩ | ⟨a, b⟩
    · rw [if_pos ((isInf_iff x).mpr a), if_pos ((isInf_iff y).mpr b)]
    · rw [if_neg (fun z => by have := (isInf_iff x).mp z; omega), if_neg (fun z => by have := (isInf_iff y).mp z; omega), if_pos ((whole_zero y).mpr b), if_pos ((whole_zero x).mpr a)]
  · have hq := n32_div (m := nn x) (n := nn y) h1 h2 (by omega) (by omega)
    rw [if_pos (noN47_iff x y h1 h2 (by omega) (by omega))]
    show _ = m_bitsOf (UInt32.ofNat (Jvm.FP.Core.encode B (Jvm.FP.Core.quotient B (Jvm.FP.Core.decode B (nn x)) (Jvm.FP.Core.decode B (nn y)))))
    rw [bits_ok hq.1 hq.2, x_div_eq, ushr31, sgn_xor]
    by_cases a : nn x % 2147483648 = 2139095040
    · rw [if_pos ((isInf_iff x).mpr a), if_neg (fun z => by have := (isInf_iff y).mp z; omega), or_inf (tn_lt _), dec_inf a, dec_fin (by omega)]
      show _ = nI (Jvm.FP.Core.encode B (.inf _))
      rw [enc_inf]
    · rw [if_neg (fun z => a ((isInf_iff x).mp z))]
      by_cases b : nn y % 2147483648 = 2139095040
      · rw [if_pos ((isInf_iff y).mpr b), shl31 (tn_lt _), dec_inf b, dec_fin (by omega)]
        show _ = nI (Jvm.FP.Core.encode B (.fin _ 0 _))
        rw [enc_fin, if_pos (by decide)]
        exact congrArg nI (by omega)
      · rw [if_neg (fun z => b ((isInf_iff y).mp z)), dec_fin (n := nn x) (by omega), dec_fin (n := nn y) (by omega)]
        show _ = nI (Jvm.FP.Core.encode B (if fc (nn y) = 0 then (if fc (nn x) = 0 then _ else .inf _) else Jvm.FP.Core.roundRatio B _ _ _ _))
        by_cases c : fc (nn y) = 0
        · rw [if_pos ((whole_zero y).mpr ((fc_zero _).mp c)), if_neg (fun z => by have h3 := (whole_zero x).mp z; have h4 := (fc_zero (nn y)).mp c; omega), or_inf (tn_lt _), if_pos c, if_neg (fun z => by have h3 := (fc_zero (nn x)).mp z; have h4 := (fc_zero (nn y)).mp c; omega), enc_inf]
        · rw [if_neg (fun z => c ((fc_zero _).mpr ((whole_zero y).mp z))), if_neg c]
          by_cases d : fc (nn x) = 0
          · rw [if_pos ((whole_zero x).mpr ((fc_zero _).mp d)), shl31 (tn_lt _), d]
            show _ = nI (Jvm.FP.Core.encode B (.fin _ 0 _))
            rw [enc_fin, if_pos (by decide)]
            exact congrArg nI (by omega)
          · rw [if_neg (fun z => d ((fc_zero _).mpr ((whole_zero x).mp z))), div_pack _ (by omega) (by omega)]
theorem eq47 (a d : Int32) : m_ap47 a d = fop a 47 d := by
  have e : fop a 47 d = x_ap47 a d := rfl
  rw [e, m_ap47_eq, x_ap47_eq, xm_fb, xm_fb, xm_nan, xm_nan]
  generalize m_floatOf a = A
  generalize m_floatOf d = D
  by_cases h1 : m_isNan A = 0
  · rw [if_pos h1]
    by_cases h2 : m_isNan D = 0
    · rw [if_pos h2, div_ok A D ((mNq A).mp h1) ((mNq D).mp h2)]
    · rw [if_neg h2, m_br47_eq, if_neg (fun z => h2 ((mNq D).mpr (noN47q z).2.1))]
  · rw [if_neg h1, m_br47_eq, if_neg (fun z => h1 ((mNq A).mpr (noN47q z).1))]
