theorem and_hi {n : Nat} (h : n < 4294967296) : n &&& 2147483648 = n / 2147483648 * 2147483648 := by
  have e : (2147483648 : Nat) = (2 ^ 1 - 1) <<< 31 := by decide
  have e2 : n / 2147483648 * 2147483648 = ((n >>> 31) % 2 ^ 1) <<< 31 := by
    rw [Nat.shiftLeft_eq, Nat.shiftRight_eq_div_pow]
    omega
  rw [e2]
  have e3 : n &&& 2147483648 = n &&& ((2 ^ 1 - 1) <<< 31) := by rw [← e]
  rw [e3]
  apply Nat.eq_of_testBit_eq
  intro i
  rw [Nat.testBit_and, Nat.testBit_shiftLeft, Nat.testBit_shiftLeft, Nat.testBit_mod_two_pow, Nat.testBit_two_pow_sub_one, Nat.testBit_shiftRight]
  by_cases h : 31 ≤ i
  · rw [show 31 + (i - 31) = i by omega]
    simp [h, Bool.and_comm]
  · simp [h]
theorem and_min (x y : Int32) : (x &&& y) &&& (-2147483648 : Int32) = nI ((fS (nn x) && fS (nn y)).toNat * 2147483648) := by
  have hx := nn_lt x; have hy := nn_lt y
  have hxy := nn_lt (x &&& y)
  have ht := tn_lt (fS (nn x) && fS (nn y))
  apply nu_inj
  rw [pk_tn (by omega)]
  have e1 : nn ((x &&& y) &&& (-2147483648 : Int32)) = nn (x &&& y) &&& 2147483648 := by
    rw [nn_and]; rfl
  show nn ((x &&& y) &&& (-2147483648 : Int32)) = _
  rw [e1, and_hi hxy, nn_and, fS_eq hx, fS_eq hy]
  have e4 : (nn x &&& nn y) / 2147483648 = (nn x / 2147483648) &&& (nn y / 2147483648) := Nat.and_div_two_pow (n := 31)
  rw [e4]
  by_cases a : 2147483648 ≤ nn x <;> by_cases b : 2147483648 ≤ nn y
  · rw [show nn x / 2147483648 = 1 by omega, show nn y / 2147483648 = 1 by omega, decide_eq_true a, decide_eq_true b]; decide
  · rw [show nn x / 2147483648 = 1 by omega, show nn y / 2147483648 = 0 by omega, decide_eq_true a, decide_eq_false b]; decide
  · rw [show nn x / 2147483648 = 0 by omega, show nn y / 2147483648 = 1 by omega, decide_eq_false a, decide_eq_true b]; decide
  · rw [show nn x / 2147483648 = 0 by omega, show nn y / 2147483648 = 0 by omega, decide_eq_false a, decide_eq_false b]; decide
theorem xor_sign (x y : Int32) : (0 : Int32) ≤ x ^^^ y ↔ fS (nn x) = fS (nn y) := by
  have h := sgn_xor x y
  rw [nonneg_iff]
  cases hx : fS (nn x) <;> cases hy : fS (nn y) <;> rw [hx, hy] at h
  · have : nn (x ^^^ y) / 2147483648 = 0 := h
    exact ⟨fun _ => rfl, fun _ => by omega⟩
  · have : nn (x ^^^ y) / 2147483648 = 1 := h
    exact ⟨fun z => by omega, fun z => by cases z⟩
  · have : nn (x ^^^ y) / 2147483648 = 1 := h
    exact ⟨fun z => by omega, fun z => by cases z⟩
  · have : nn (x ^^^ y) / 2147483648 = 0 := h
    exact ⟨fun _ => rfl, fun _ => by omega⟩
theorem add_hl {x y h l : Int32} (hj1 : x_add_j1 x y = h) (hj2 : x_add_j2 x y = l) (hf : nn h % 2147483648 < 2139095040) (hk : nn l % 2147483648 ≤ nn h % 2147483648) (hsg : (fS (nn x) = fS (nn y)) ↔ (fS (nn h) = fS (nn l))) (hand : (fS (nn x) && fS (nn y)) = (fS (nn h) && fS (nn l))) (hnx : ¬ x &&& (2147483647 : Int32) = (2139095040 : Int32)) (hny : ¬ y &&& (2147483647 : Int32) = (2139095040 : Int32)) :
    x_add x y = nI (Jvm.FP.Core.encode B (Jvm.FP.Core.round B (Jvm.FP.Core.exactSum (.fin (fS (nn h)) (fc (nn h)) (fq (nn h))) (.fin (fS (nn l)) (fc (nn l)) (fq (nn l)))))) := by
  have hh := nn_lt h
  have hm := fq_mono hk
  obtain ⟨ap, hap⟩ : ∃ ap : Nat, fq (nn h) - fq (nn l) = (ap : Int) := ⟨(fq (nn h) - fq (nn l)).toNat, by omega⟩
  have q1 := fq_lo (nn h); have q2 := fq_hi (nn h); have q3 := fq_lo (nn l); have q4 := fq_hi (nn l)
  have c1 := fc_lt (nn h); have c2 := fc_lt (nn l)
  have l1 := last_toInt h; have l2 := last_toInt l
  have j3 : x_add_j3 x y = nI ap := by
    refine of_ti ?_ (by omega)
    rw [x_add_j3_eq, hj1, hj2, fb_subI (by rw [l1, l2]; omega) (by rw [l1, l2]; omega), l1, l2, hap]
  have hle := mg_le hk hap
  have c36 : (nI ap ≤ (36 : Int32)) ↔ ap ≤ 36 := nI_leI (a := ap) (b := 36) (by omega) (by decide)
  rw [x_add_eq, if_neg hnx, if_neg hny, hj1, hj2, j3, ushr31, and_min, hand, whole_eq, whole_eq]
  have hb : nn h / 2147483648 = (fS (nn h)).toNat := by
    rw [fS_eq hh]
    by_cases a : 2147483648 ≤ nn h
    · rw [decide_eq_true a]; show _ = 1; omega
    · rw [decide_eq_false a]; show _ = 0; omega
  rw [hb]
  by_cases sm : fS (nn h) = fS (nn l)
  · have key := sum_bits hh hf hk hap true (by rw [if_pos rfl]; exact sm.symm)
    simp only [if_true] at key
    rw [key]
    by_cases d : ap ≤ 36
    · rw [if_pos (c36.mpr d), if_pos ((xor_sign x y).mpr (hsg.mpr sm)), wb_shl _ (by omega), lN_add]
      have hp : (2 : Nat) ^ ap ≤ 2 ^ 36 := Nat.pow_le_pow_right (by decide) d
      have hX : fc (nn h) * 2 ^ ap ≤ 16777215 * 2 ^ 36 := Nat.mul_le_mul (by omega) hp
      have z0 : (lg_cmp (lN (fc (nn h) * 2 ^ ap + fc (nn l))) (0 : Int64) = 0) ↔ fc (nn h) * 2 ^ ap + fc (nn l) = 0 := by rw [lg_cmp_eq]; exact pk_lEQ (a := fc (nn h) * 2 ^ ap + fc (nn l)) (b := 0) (by omega) (by decide)
      by_cases w : fc (nn h) * 2 ^ ap + fc (nn l) = 0
      · rw [if_pos (z0.mpr w), if_pos w, ← sm, Bool.and_self]
      · rw [if_neg (fun z => w (z0.mp z)), if_neg w, if_neg (by omega)]
        exact pack_ok (tn_lt _) (by omega) l2 (by omega) _ rfl
    · rw [if_neg (fun z => d (c36.mp z))]
      by_cases w : fc (nn h) * 2 ^ ap + fc (nn l) = 0
      · have p := (dec_pos hf hap (by omega)).1
        have : 0 < fc (nn h) * 2 ^ ap := Nat.mul_pos (by omega) (Nat.two_pow_pos ap)
        omega
      · rw [if_neg w, if_pos (by omega)]
        exact nu_of h
  · have key := sum_bits hh hf hk hap false (by rw [if_neg (by decide)]; cases hx : fS (nn h) <;> cases hy : fS (nn l) <;> simp_all)
    simp only [if_false, Bool.false_eq_true] at key
    rw [key]
    by_cases d : ap ≤ 36
    · rw [if_pos (c36.mpr d), if_neg (fun z => sm (hsg.mp ((xor_sign x y).mp z))), wb_shl _ (by omega), lN_sub hle]
      have hp : (2 : Nat) ^ ap ≤ 2 ^ 36 := Nat.pow_le_pow_right (by decide) d
      have hX : fc (nn h) * 2 ^ ap ≤ 16777215 * 2 ^ 36 := Nat.mul_le_mul (by omega) hp
      have z0 : (lg_cmp (lN (fc (nn h) * 2 ^ ap - fc (nn l))) (0 : Int64) = 0) ↔ fc (nn h) * 2 ^ ap - fc (nn l) = 0 := by rw [lg_cmp_eq]; exact pk_lEQ (a := fc (nn h) * 2 ^ ap - fc (nn l)) (b := 0) (by omega) (by decide)
      by_cases w : fc (nn h) * 2 ^ ap - fc (nn l) = 0
      · rw [if_pos (z0.mpr w), if_pos w, show (fS (nn h) && fS (nn l)) = false by cases hx : fS (nn h) <;> cases hy : fS (nn l) <;> simp_all]
        rfl
      · rw [if_neg (fun z => w (z0.mp z)), if_neg w, if_neg (by omega)]
        exact pack_ok (tn_lt _) (by omega) l2 (by omega) _ rfl
    · rw [if_neg (fun z => d (c36.mp z))]
      by_cases w : fc (nn h) * 2 ^ ap - fc (nn l) = 0
      · have p := (dec_pos hf hap (by omega)).1
        have hp : (2 : Nat) ^ 37 ≤ 2 ^ ap := Nat.pow_le_pow_right (by decide) (by omega)
        have : 8388608 * 2 ^ 37 ≤ fc (nn h) * 2 ^ ap := Nat.mul_le_mul p hp
        omega
      · rw [if_neg w, if_pos (by omega)]
        exact nu_of h
