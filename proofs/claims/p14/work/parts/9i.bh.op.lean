theorem div_m1 (a : Int32) : a / (-1) = -a := Int32.toInt_inj.1 (by rw [Int32.toInt_div, show (-1 : Int32).toInt = -1 by decide, Int.tdiv_neg, Int.tdiv_one, Int32.toInt_neg])
theorem eq37 (a d : Int32) : m_ap37 a d = fop a 37 d := by
  have e : fop a 37 d = x_ap37 a d := rfl
  rw [e, m_ap37_eq, x_ap37_eq, cut_int, cut_int, x_rest_eq]
  by_cases h : m_intOf d = 0
  · rw [if_pos h, if_pos h]
  · rw [if_neg h, if_neg h]
    by_cases h1 : m_intOf d = -1
    · rw [if_pos h1, h1, div_m1, Int32.neg_mul_neg, Int32.mul_one, Int32.sub_self]
    · rw [if_neg h1]
def RR (N A b : Nat) : Prop := 2 ^ (31 - b) * A ≤ N ∧ N < 2 ^ (31 - b) * (A + 1)
theorem RR_step {N A b k : Nat} (h : RR N A b) (hk : k ≤ b) (hb : b ≤ 31) : RR N (A / 2 ^ k) (b - k) := by
  obtain ⟨h1, h2⟩ := h
  have e : (2 : Nat) ^ (31 - (b - k)) = 2 ^ (31 - b) * 2 ^ k := by rw [← Nat.pow_add]; congr 1; omega
  have hp := Nat.two_pow_pos k
  have d1 : 2 ^ k * (A / 2 ^ k) ≤ A := Nat.mul_div_le A _
  have d2 : A < 2 ^ k * (A / 2 ^ k + 1) := by
    have := Nat.lt_mul_div_succ A hp
    exact this
  unfold RR
  rw [e]
  constructor
  · calc 2 ^ (31 - b) * 2 ^ k * (A / 2 ^ k) = 2 ^ (31 - b) * (2 ^ k * (A / 2 ^ k)) := Nat.mul_assoc _ _ _
      _ ≤ 2 ^ (31 - b) * A := Nat.mul_le_mul_left _ d1
      _ ≤ N := h1
  · calc N < 2 ^ (31 - b) * (A + 1) := h2
      _ ≤ 2 ^ (31 - b) * (2 ^ k * (A / 2 ^ k + 1)) := Nat.mul_le_mul_left _ d2
      _ = 2 ^ (31 - b) * 2 ^ k * (A / 2 ^ k + 1) := (Nat.mul_assoc _ _ _).symm
theorem nI_dec {b : Nat} {z : Int32} {k : Nat} (hz : z.toInt = -(k : Int)) (hk : k ≤ b) (hb : b < 2147483648) : nI b + z = nI (b - k) := by
  have e : (nI b).toInt = (b : Int) := nI_toInt (by omega)
  refine of_ti ?_ (by omega)
  rw [fb_addI (by rw [e, hz]; omega) (by rw [e, hz]; omega), e, hz]
  omega
theorem nlz_step {N A b k K : Nat} {z S : Int32} (h : RR N A b) (hk : k ≤ b) (hb : b ≤ 31) (hA : 1 ≤ A) (hA2 : A < K * K) (hK : K = 2 ^ k) (hKb : K < 2147483648) (hz : z.toInt = -(k : Int)) (hS : ((S.toUInt32 &&& Int32.toUInt32 31).toBitVec % 32).toNat = k) (hA3 : A < 2147483648) :
    ∃ A' b' : Nat, (if nI A < nI K then nI A else ((nI A).toUInt32 >>> (S.toUInt32 &&& Int32.toUInt32 31)).toInt32) = nI A' ∧ (if nI A < nI K then nI b else nI b + z) = nI b' ∧ RR N A' b' ∧ 1 ≤ A' ∧ A' < K ∧ b' ≤ 31 ∧ b - k ≤ b' := by
  by_cases c : A < K
  · have c2 : nI A < nI K := (nI_ltI (by omega) (by omega)).mpr c
    exact ⟨A, b, by rw [if_pos c2], by rw [if_pos c2], h, hA, c, hb, by omega⟩
  · have c2 : ¬ nI A < nI K := fun x => c ((nI_ltI (by omega) (by omega)).mp x)
    refine ⟨A / 2 ^ k, b - k, by rw [if_neg c2, pk_ushrN (by omega) S k hS], by rw [if_neg c2, nI_dec hz hk (by omega)], RR_step h hk hb, ?_, ?_, by omega, by omega⟩
    · exact Nat.div_pos (by omega) (Nat.two_pow_pos _)
    · rw [← hK]; exact Nat.div_lt_of_lt_mul hA2
theorem nlz32_ok {N : Nat} (h0 : 0 < N) (h : N < 2147483648) : x_nlz32 (nI N) = nI (31 - N.log2) := by
  have r0 : RR N N 31 := ⟨by simp, by simp⟩
  obtain ⟨A1, b1, e1, f1, r1, p1, l1, u1, w1⟩ := nlz_step (N := N) (A := N) (b := 31) (k := 16) (K := 65536) (z := -16) (S := 16) r0 (by omega) (by omega) h0 (by omega) (by decide) (by omega) (by decide) (by decide) h
  have g1 : x_nlz32_j1a (nI N) = nI A1 := by rw [x_nlz32_j1a_eq]; exact e1
  have g1b : x_nlz32_j1b (nI N) = nI b1 := by rw [x_nlz32_j1b_eq, ← f1]; rfl
  obtain ⟨A2, b2, e2, f2, r2, p2, l2, u2, w2⟩ := nlz_step (N := N) (A := A1) (b := b1) (k := 8) (K := 256) (z := -8) (S := 8) r1 (by omega) u1 p1 (by omega) (by decide) (by omega) (by decide) (by decide) (by omega)
  have g2 : x_nlz32_j2a (nI N) = nI A2 := by rw [x_nlz32_j2a_eq, g1]; exact e2
  have g2b : x_nlz32_j2b (nI N) = nI b2 := by rw [x_nlz32_j2b_eq, g1, g1b]; exact f2
  obtain ⟨A3, b3, e3, f3, r3, p3, l3, u3, w3⟩ := nlz_step (N := N) (A := A2) (b := b2) (k := 4) (K := 16) (z := -4) (S := 4) r2 (by omega) u2 p2 (by omega) (by decide) (by omega) (by decide) (by decide) (by omega)
  have g3 : x_nlz32_j3a (nI N) = nI A3 := by rw [x_nlz32_j3a_eq, g2]; exact e3
  have g3b : x_nlz32_j3b (nI N) = nI b3 := by rw [x_nlz32_j3b_eq, g2, g2b]; exact f3
  obtain ⟨A4, b4, e4, f4, r4, p4, l4, u4, w4⟩ := nlz_step (N := N) (A := A3) (b := b3) (k := 2) (K := 4) (z := -2) (S := 2) r3 (by omega) u3 p3 (by omega) (by decide) (by omega) (by decide) (by decide) (by omega)
  have g4 : x_nlz32_j4a (nI N) = nI A4 := by rw [x_nlz32_j4a_eq, g3]; exact e4
  have g4b : x_nlz32_j4b (nI N) = nI b4 := by rw [x_nlz32_j4b_eq, g3, g3b]; exact f4
  have hpos : (0 : Int32) < nI N := (nI_ltI (a := 0) (b := N) (by decide) (by omega)).mpr h0
  rw [x_nlz32_eq, if_pos hpos, g4, g4b, pk_ushrN (by omega) 1 1 (by decide), pk_sub (by omega)]
  congr 1
  obtain ⟨h1, h2⟩ := r4
  have hp := Nat.two_pow_pos (31 - b4)
  have hlog : N.log2 = 31 - (b4 - A4 / 2 ^ 1) := by
    rw [Nat.log2_eq_iff (by omega)]
    by_cases hA : A4 = 1
    · rw [hA] at h1 h2 ⊢
      rw [show 31 - (b4 - 1 / 2 ^ 1) = 31 - b4 by omega, Nat.pow_succ]
      omega
    · have e : (2 : Nat) ^ (31 - (b4 - A4 / 2 ^ 1)) = 2 ^ (31 - b4) * 2 := by
        rw [← Nat.pow_succ]; congr 1; omega
      have e5 : (2 : Nat) ^ (31 - (b4 - A4 / 2 ^ 1) + 1) = 2 ^ (31 - b4) * 2 * 2 := by
        rw [← e, ← Nat.pow_succ]
      rw [e, e5]
      constructor
      · exact Nat.le_trans (Nat.mul_le_mul_left _ (by omega)) h1
      · calc N < 2 ^ (31 - b4) * (A4 + 1) := h2
          _ ≤ 2 ^ (31 - b4) * (2 * 2) := Nat.mul_le_mul_left _ (by omega)
          _ = 2 ^ (31 - b4) * 2 * 2 := (Nat.mul_assoc _ _ _).symm
  omega
theorem nlz64_ok {W : Nat} (h0 : 0 < W) (h : W < 2 ^ 62) : x_nlz64 (lN W) = nI (63 - W.log2) := by
  have e : ((lN W).toUInt64 >>> ((32 : Int32).toInt64.toUInt64 &&& Int64.toUInt64 63)).toInt64.toInt32 = nI (W / 2 ^ 32) := by
    rw [show ((32 : Int32).toInt64.toUInt64 &&& Int64.toUInt64 63) = ((nI 32).toInt64.toUInt64 &&& Int64.toUInt64 63) from rfl, wb_shr (by omega) (by decide), lN_i]
  have hz : nI (W / 2 ^ 32) = (0 : Int32) ↔ W / 2 ^ 32 = 0 := nI_eq (a := W / 2 ^ 32) (b := 0) (by omega) (by decide)
  have hl := (Nat.log2_eq_iff (n := W) (by omega)).mp rfl
  rw [x_nlz64_eq, e]
  by_cases c : W / 2 ^ 32 = 0
  · rw [if_pos (hz.mpr c), lN_i]
    by_cases c2 : W < 2147483648
    · have hb : W.log2 < 31 := by
        rw [Nat.log2_lt (by omega)]; omega
      rw [nlz32_ok h0 c2, show (32 : Int32) = nI 32 from rfl, nI_add]
      congr 1; omega
    · have hlog : W.log2 = 31 := by
        rw [Nat.log2_eq_iff (by omega)]; omega
      have hneg : ¬ (0 : Int32) < nI W := by
        intro z
        have z2 := (fa_lt _ _).mp z
        have z3 : (0 : Int32).toInt = 0 := by decide
        have z4 := ti_eqq (nI W)
        rw [show nn (nI W) = W from pk_tn (by omega), if_neg (by omega)] at z4
        omega
      have hne : ¬ nI W = (0 : Int32) := by
        intro z
        have z1 := congrArg nn z
        rw [show nn (nI W) = W from pk_tn (by omega)] at z1
        have z2 : nn (0 : Int32) = 0 := by decide
        omega
      rw [x_nlz32_eq, if_neg hneg, if_neg hne, hlog]; rfl
  · rw [if_neg (fun z => c (hz.mp z)), nlz32_ok (by omega) (by omega)]
    have hlog : W.log2 = (W / 2 ^ 32).log2 + 32 := by
      rw [Nat.log2_eq_iff (by omega)]
      have h2 := (Nat.log2_eq_iff (n := W / 2 ^ 32) (by omega)).mp rfl
      have e1 : (2 : Nat) ^ ((W / 2 ^ 32).log2 + 32) = 2 ^ (W / 2 ^ 32).log2 * 2 ^ 32 := Nat.pow_add _ _ _
      have e2 : (2 : Nat) ^ ((W / 2 ^ 32).log2 + 32 + 1) = 2 ^ ((W / 2 ^ 32).log2 + 1) * 2 ^ 32 := by rw [← Nat.pow_add, Nat.add_right_comm]
      rw [e1, e2]
      generalize (2 : Nat) ^ (W / 2 ^ 32).log2 = P at h2
      generalize (2 : Nat) ^ ((W / 2 ^ 32).log2 + 1) = P2 at h2
      omega
    congr 1
    omega
