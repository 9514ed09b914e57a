theorem fc_lt (n : Nat) : fc n < 16777216 := by
  have := fT_lt n
  unfold fc; split <;> omega
theorem fq_hi (n : Nat) : fq n ≤ 105 := by
  have := fE_lt n
  unfold fq; split <;> omega
theorem whole_eq (x : Int32) : x_wholeOf x = lN (fc (nn x)) := by
  have h1 := fT_lt (nn x); have h2 := fE_lt (nn x)
  rw [x_wholeOf_eq, and_inf, and_tail]
  have e : nI (fE (nn x) * 8388608) = (0 : Int32) ↔ fE (nn x) * 8388608 = 0 := nI_eq (a := fE (nn x) * 8388608) (b := 0) (by omega) (by decide)
  unfold fc
  by_cases h : fE (nn x) = 0
  · rw [if_pos (e.mpr (by omega)), if_pos h, nI_l (by omega)]
  · rw [if_neg (fun z => h (by have := e.mp z; omega)), if_neg h, Int32.or_comm]
    have e2 : (8388608 : Int32) ||| nI (fT (nn x)) = nI (2 ^ 23 * 1 + fT (nn x)) := fa_or_sum (k := 23) 1 h1
    rw [e2, nI_l (by omega)]
    congr 1
    omega
theorem last_toInt (x : Int32) : (x_lastBitOf x).toInt = fq (nn x) := by
  have h2 := fE_lt (nn x)
  rw [x_lastBitOf_eq, and_inf, pk_ushrN (by omega) 23 23 (by decide), show fE (nn x) * 8388608 / 2 ^ 23 = fE (nn x) by omega]
  have e : nI (fE (nn x)) = (0 : Int32) ↔ fE (nn x) = 0 := nI_eq (a := fE (nn x)) (b := 0) (by omega) (by decide)
  unfold fq
  by_cases h : fE (nn x) = 0
  · rw [if_pos (e.mpr h), if_pos h]; decide
  · rw [if_neg (fun z => h (e.mp z)), if_neg h]
    have e3 : (nI (fE (nn x))).toInt = (fE (nn x) : Int) := nI_toInt (by omega)
    have e4 : (150 : Int32).toInt = 150 := by decide
    rw [fb_subI (by rw [e3, e4]; omega) (by rw [e3, e4]; omega), e3, e4]
theorem of_ti {x : Int32} {n : Nat} (h : x.toInt = (n : Int)) (hn : n < 2147483648) : x = nI n := (fa_eq _ _).mpr (by rw [h, nI_toInt (by omega)])
theorem shr_lN {a j : Nat} (ha : a < 2 ^ 62) (hj : j < 64) : lN a >>> ((nI j).toInt64 &&& 63) = lN (a / 2 ^ j) := by
  rw [wb_c j hj]
  refine pf_shr ?_ ha
  rw [wb_tb, wb_sm j hj, BitVec.toNat_ofNat]
  omega
theorem nonneg_iff (x : Int32) : (0 : Int32) ≤ x ↔ nn x < 2147483648 := by
  have e := ti_eqq x
  have h3 : (0 : Int32).toInt = 0 := by decide
  have hx := nn_lt x
  rw [fa_le, h3]
  split at e <;> omega
theorem f2i_eq (x : Int32) : FP.f2i x.toUInt32 = Int32.ofInt (Jvm.FP.Core.toInt (-2 ^ 31) (2 ^ 31 - 1) (Jvm.FP.Core.decode B (nn x))) := rfl
theorem cut_int (k : Int32) : x_cut k = m_intOf k := by
  have hk := nn_lt k
  have hl := last_toInt k
  have c7 : (7 : Int32).toInt = 7 := by decide
  have c24 : (-24 : Int32).toInt = -24 := by decide
  have c0 : (0 : Int32).toInt = 0 := by decide
  have hc := fc_lt (nn k)
  have q1 := fq_lo (nn k); have q2 := fq_hi (nn k)
  rw [x_cut_eq, m_intOf_eq, xm_nan]
  by_cases hN : m_isNan k = 0
  · rw [if_pos hN, if_pos hN, f2i_eq]
    have hsz := (mNq k).mp hN
    by_cases h7 : fq (nn k) ≤ 7
    · have hfin : nn k % 2147483648 < 2139095040 := by
        rcases Nat.lt_or_ge (nn k % 2147483648) 2139095040 with a | a
        · exact a
        · have h1 := size_split (nn k); have h2 := fT_lt (nn k); have h3 := fE_lt (nn k)
          have h4 : fE (nn k) = 255 := by omega
          unfold fq at h7
          rw [if_neg (by omega), h4] at h7
          omega
      rw [if_pos ((fa_le _ _).mpr (by rw [hl, c7]; exact h7)), dec_fin hfin, fS_eq hk]
      by_cases h24 : -24 ≤ fq (nn k)
      · rw [if_pos ((fa_le _ _).mpr (by rw [hl, c24]; exact h24)), whole_eq]
        by_cases hneg : fq (nn k) < 0
        · rw [if_pos ((fa_lt _ _).mpr (by rw [hl, c0]; exact hneg))]
          obtain ⟨j, hj⟩ : ∃ j : Nat, fq (nn k) = -(j : Int) := ⟨(-fq (nn k)).toNat, by omega⟩
          have e1 : -(x_lastBitOf k) = nI j := of_ti (by rw [fb_negI (by rw [hl]; omega), hl, hj]; omega) (by omega)
          have hd : fc (nn k) / 2 ^ j ≤ fc (nn k) := Nat.div_le_self _ _
          rw [e1, shr_lN (by omega) (by omega), lN_i]
          have e2 : Jvm.FP.Core.truncate (decide (2147483648 ≤ nn k)) (fc (nn k)) (fq (nn k)) = if 2147483648 ≤ nn k then -((fc (nn k) / 2 ^ j : Nat) : Int) else ((fc (nn k) / 2 ^ j : Nat) : Int) := by
            unfold Jvm.FP.Core.truncate Jvm.FP.Core.signed
            rw [show (fq (nn k)).toNat = 0 by omega, show (-fq (nn k)).toNat = j by omega, Nat.pow_zero, Nat.mul_one]
            by_cases a : 2147483648 ≤ nn k <;> simp [a]
          show _ = Int32.ofInt (max (-2 ^ 31) (min (2 ^ 31 - 1) (Jvm.FP.Core.truncate _ _ _)))
          rw [e2]
          generalize fc (nn k) / 2 ^ j = X at hd
          have hX : (nI X).toInt = (X : Int) := nI_toInt (by omega)
          by_cases a : 2147483648 ≤ nn k
          · rw [if_neg (fun z => by have := (nonneg_iff k).mp z; omega), if_pos a, show max (-2 ^ 31 : Int) (min (2 ^ 31 - 1) (-(X : Int))) = -(X : Int) by omega]
            exact (fa_eq _ _).mpr (by rw [fb_negI (by rw [hX]; omega), hX, Int32.toInt_ofInt_of_le (by omega) (by omega)])
          · rw [if_pos ((nonneg_iff k).mpr (by omega)), if_neg a, show max (-2 ^ 31 : Int) (min (2 ^ 31 - 1) (X : Int)) = (X : Int) by omega]
            exact (fa_eq _ _).mpr (by rw [hX, Int32.toInt_ofInt_of_le (by omega) (by omega)])
        · rw [if_neg (fun z => hneg (by have := (fa_lt _ _).mp z; rw [hl, c0] at this; exact this))]
          obtain ⟨j, hj⟩ : ∃ j : Nat, fq (nn k) = (j : Int) := ⟨(fq (nn k)).toNat, by omega⟩
          have e1 : x_lastBitOf k = nI j := of_ti (by rw [hl, hj]) (by omega)
          have hp : (2 : Nat) ^ j ≤ 2 ^ 7 := Nat.pow_le_pow_right (by decide) (by omega)
          have hm : fc (nn k) * 2 ^ j ≤ 16777215 * 2 ^ 7 := Nat.mul_le_mul (by omega) hp
          rw [e1, wb_shl _ (by omega), lN_i]
          have e2 : Jvm.FP.Core.truncate (decide (2147483648 ≤ nn k)) (fc (nn k)) (fq (nn k)) = if 2147483648 ≤ nn k then -((fc (nn k) * 2 ^ j : Nat) : Int) else ((fc (nn k) * 2 ^ j : Nat) : Int) := by
            unfold Jvm.FP.Core.truncate Jvm.FP.Core.signed
            rw [show (fq (nn k)).toNat = j by omega, show (-fq (nn k)).toNat = 0 by omega, Nat.pow_zero, Nat.div_one]
            by_cases a : 2147483648 ≤ nn k <;> simp [a]
          show _ = Int32.ofInt (max (-2 ^ 31) (min (2 ^ 31 - 1) (Jvm.FP.Core.truncate _ _ _)))
          rw [e2]
          generalize fc (nn k) * 2 ^ j = X at hm
          have hX : (nI X).toInt = (X : Int) := nI_toInt (by omega)
          by_cases a : 2147483648 ≤ nn k
          · rw [if_neg (fun z => by have := (nonneg_iff k).mp z; omega), if_pos a, show max (-2 ^ 31 : Int) (min (2 ^ 31 - 1) (-(X : Int))) = -(X : Int) by omega]
            exact (fa_eq _ _).mpr (by rw [fb_negI (by rw [hX]; omega), hX, Int32.toInt_ofInt_of_le (by omega) (by omega)])
          · rw [if_pos ((nonneg_iff k).mpr (by omega)), if_neg a, show max (-2 ^ 31 : Int) (min (2 ^ 31 - 1) (X : Int)) = (X : Int) by omega]
            exact (fa_eq _ _).mpr (by rw [hX, Int32.toInt_ofInt_of_le (by omega) (by omega)])
      · rw [if_neg (fun z => h24 (by have := (fa_le _ _).mp z; rw [hl, c24] at this; exact this))]
        have e2 : Jvm.FP.Core.truncate (decide (2147483648 ≤ nn k)) (fc (nn k)) (fq (nn k)) = 0 := by
          unfold Jvm.FP.Core.truncate Jvm.FP.Core.signed
          have hp : (2 : Nat) ^ 25 ≤ 2 ^ (-fq (nn k)).toNat := Nat.pow_le_pow_right (by decide) (by omega)
          rw [show (fq (nn k)).toNat = 0 by omega, Nat.pow_zero, Nat.mul_one, Nat.div_eq_of_lt (by omega)]
          simp
        show _ = Int32.ofInt (max (-2 ^ 31) (min (2 ^ 31 - 1) (Jvm.FP.Core.truncate _ _ _)))
        rw [e2]; decide
    · rw [if_neg (fun z => h7 (by have := (fa_le _ _).mp z; rw [hl, c7] at this; exact this))]
      have hE : ¬ fE (nn k) = 0 := by
        intro z; unfold fq at h7; rw [if_pos z] at h7; omega
      have key : Jvm.FP.Core.toInt (-2 ^ 31) (2 ^ 31 - 1) (Jvm.FP.Core.decode B (nn k)) = if 2147483648 ≤ nn k then -2 ^ 31 else 2 ^ 31 - 1 := by
        rcases Nat.lt_or_ge (nn k % 2147483648) 2139095040 with a | a
        · rw [dec_fin a, fS_eq hk]
          show max (-2 ^ 31) (min (2 ^ 31 - 1) (Jvm.FP.Core.truncate _ _ _)) = _
          unfold Jvm.FP.Core.truncate Jvm.FP.Core.signed
          have hp : (2 : Nat) ^ 8 ≤ 2 ^ (fq (nn k)).toNat := Nat.pow_le_pow_right (by decide) (by omega)
          have hc2 : 8388608 ≤ fc (nn k) := by unfold fc; rw [if_neg hE]; omega
          have hm : 8388608 * 2 ^ 8 ≤ fc (nn k) * 2 ^ (fq (nn k)).toNat := Nat.mul_le_mul hc2 hp
          rw [show (-fq (nn k)).toNat = 0 by omega, Nat.pow_zero, Nat.div_one]
          generalize fc (nn k) * 2 ^ (fq (nn k)).toNat = X at hm
          by_cases z : 2147483648 ≤ nn k
          · simp only [z, decide_true, if_true]; omega
          · simp only [z, decide_false, if_false, Bool.false_eq_true]; omega
        · rw [dec_inf (by omega), fS_eq hk]
          show (if decide (2147483648 ≤ nn k) = true then _ else _) = _
          simp only [decide_eq_true_eq]
      rw [key]
      by_cases z : 2147483648 ≤ nn k
      · rw [if_neg (fun y => by have := (nonneg_iff k).mp y; omega), if_pos z]; decide
      · rw [if_pos ((nonneg_iff k).mpr (by omega)), if_neg z]; decide
  · rw [if_neg hN, if_neg hN]
