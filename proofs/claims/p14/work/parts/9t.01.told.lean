theorem lx_kind0 (b : Int32) : s_X0_kind (s_X0_make 0 b) = 0 := by
  rw [s_X0_kind_eq, s_X0_make_eq]
  show ((x_make 0 b).toUInt64 >>> ((32 : Int32).toInt64.toUInt64 &&& Int64.toUInt64 63)).toInt64.toInt32 = 0
  have hk := b.toBitVec.isLt
  rw [x_make0, show ((32 : Int32).toInt64.toUInt64 &&& Int64.toUInt64 63) = ((nI 32).toInt64.toUInt64 &&& Int64.toUInt64 63) from rfl, wb_shr (by omega) (by decide), lN_i, show b.toBitVec.toNat / 2 ^ 32 = 0 by omega]
  rfl
theorem i2f_bits (v : Int32) : s_X12_floatOf 0 v = nI (Jvm.FP.Core.encode B (Jvm.FP.Core.roundRatio B (decide (v.toInt < 0)) v.toInt.natAbs 1 0)) := by
  rw [s_X12_floatOf_eq, if_neg (by decide), lm_bitsOf]
  exact mulD_bits (D := .fin (decide (v.toInt < 0)) v.toInt.natAbs 0) (by intro e; cases e)
theorem lN_pos {m : Nat} (h : m < 2 ^ 63) : (lN m).toInt = (m : Int) := by
  show (Int64.ofNat m).toInt = _
  exact Int64.toInt_ofNat_of_lt h
theorem w64_pos {v : Int32} (h : 0 ≤ v.toInt) : v.toInt64 = lN v.toInt.natAbs := by
  apply Int64.toInt_inj.mp
  have hhi := ti_hi v
  rw [Int32.toInt_toInt64, lN_pos (by omega)]
  omega
theorem w64_neg {v : Int32} (h : v.toInt < 0) : -v.toInt64 = lN v.toInt.natAbs := by
  apply Int64.toInt_inj.mp
  have hlo := ti_lo v
  rw [Int64.toInt_neg, Int32.toInt_toInt64, lN_pos (by omega), Int.bmod_eq_of_le (by omega) (by omega)]
  omega
theorem lg0_pos {x : Int64} (h : 0 ≤ x.toInt) : (0 : Int32) ≤ lg_cmp x 0 := by
  unfold lg_cmp
  by_cases c : x > 0
  · rw [if_pos c]; decide
  · rw [if_neg c]
    by_cases c2 : x = 0
    · rw [if_pos c2]; decide
    · have h0 : (0 : Int64).toInt = 0 := by decide
      have c : ¬ (0 : Int64) < x := c
      rw [Int64.lt_iff_toInt_lt, h0] at c
      exact absurd (Int64.toInt_inj.mp (by rw [h0]; omega)) c2
theorem lg0_neg {x : Int64} (h : x.toInt < 0) : ¬ (0 : Int32) ≤ lg_cmp x 0 := by
  have h0 : (0 : Int64).toInt = 0 := by decide
  unfold lg_cmp
  rw [if_neg (show ¬ (0 : Int64) < x by rw [Int64.lt_iff_toInt_lt, h0]; omega), if_neg (fun e => by rw [e, h0] at h; omega)]
  decide
theorem i2f_ok (v : Int32) : s_X0_floatBits (s_X0_make 0 v) = s_X12_floatOf 0 v := by
  rw [i2f_bits, s_X0_floatBits_eq]
  simp only [bv, lx_bits0, lx_kind0]
  rw [if_neg (by decide)]
  have hlo := ti_lo v
  have hhi := ti_hi v
  by_cases c : 0 ≤ v.toInt
  · have c2 : (0 : Int32) ≤ lg_cmp v.toInt64 0 := lg0_pos (by rw [Int32.toInt_toInt64]; exact c)
    rw [if_pos c2, lx_pack, w64_pos c]
    have := pack_ok (W := v.toInt.natAbs) (b := 0) (Q := 0) (qe := 0) (by decide) (by omega) (by decide) (by omega) false rfl
    rw [show (decide (v.toInt < 0)) = false from decide_eq_false (by omega)]
    exact this
  · have c2 : ¬ (0 : Int32) ≤ lg_cmp v.toInt64 0 := lg0_neg (by rw [Int32.toInt_toInt64]; omega)
    rw [if_neg c2, lx_pack, w64_neg (by omega)]
    have := pack_ok (W := v.toInt.natAbs) (b := 1) (Q := 0) (qe := 0) (by decide) (by omega) (by decide) (by omega) true rfl
    rw [show (decide (v.toInt < 0)) = true from decide_eq_true (by omega)]
    exact this
