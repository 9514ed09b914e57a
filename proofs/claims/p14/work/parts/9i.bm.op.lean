set_option maxRecDepth 100000 in
theorem enc_dec {n : Nat} (hn : n < 4294967296) (h : n % 2147483648 < 2139095040) : Jvm.FP.Core.encode B (.fin (fS n) (fc n) (fq n)) = n := by
  have h1 := size_split n; have h2 := fT_lt n; have h3 := fE_lt n
  have hs : (fS n).toNat * 2147483648 + n % 2147483648 = n := by
    rw [fS_eq hn]
    by_cases a : 2147483648 ≤ n
    · rw [decide_eq_true a]; show 1 * 2147483648 + _ = _; omega
    · rw [decide_eq_false a]; show 0 * 2147483648 + _ = _; omega
  rw [enc_fin]
  generalize (fS n).toNat = b at hs
  by_cases z : fE n = 0
  · have hC : fc n = fT n := by unfold fc; rw [if_pos z]
    have hC2 : fc n = n % 2147483648 := by rw [hC, h1, z, Nat.zero_mul, Nat.zero_add]
    have hC3 : fc n < 8388608 := by rw [hC]; exact h2
    rw [if_pos hC3, hC2]; exact hs
  · have hC : fc n = fT n + 8388608 := by unfold fc; rw [if_neg z]
    have hQ : fq n = (fE n : Int) - 150 := by unfold fq; rw [if_neg z]
    have hC3 : ¬ fc n < 8388608 := by rw [hC]; exact Nat.not_lt.mpr (Nat.le_add_left _ _)
    have e1 : (fq n + 149).toNat + 1 = fE n := by rw [hQ]; omega
    have e2 : fc n - 8388608 = fT n := by rw [hC]; exact Nat.add_sub_cancel _ _
    rw [if_neg hC3, e1, e2, Nat.add_assoc, ← h1]; exact hs
theorem log_eq {W k : Nat} (h1 : 2 ^ k ≤ W) (h2 : W < 2 ^ (k + 1)) : W.log2 = k := by
  have := Nat.two_pow_pos k
  exact (Nat.log2_eq_iff (by omega)).mpr ⟨h1, h2⟩
theorem far_add {c l ap : Nat} {Q : Int} (s : Bool) (hc1 : 8388608 ≤ c) (hc2 : c < 16777216) (hl : l < 16777216) (hap : 37 ≤ ap) (hQ : -149 ≤ Q + ap) (hQ2 : Q + ap ≤ 104) : Jvm.FP.Core.roundRatio B s (c * 2 ^ ap + l) 1 Q = .fin s c (Q + ap) := by
  have hp : (2 : Nat) ^ 37 ≤ 2 ^ ap := Nat.pow_le_pow_right (by decide) hap
  have e1 : 8388608 * 2 ^ ap ≤ c * 2 ^ ap := Nat.mul_le_mul_right _ hc1
  have e2 : (c + 1) * 2 ^ ap ≤ 16777216 * 2 ^ ap := Nat.mul_le_mul_right _ hc2
  rw [Nat.add_mul] at e2
  have hlog : (c * 2 ^ ap + l).log2 = 23 + ap := by
    refine log_eq ?_ ?_
    · rw [Nat.pow_add]; omega
    · rw [show 23 + ap + 1 = 24 + ap by omega, Nat.pow_add]; omega
  have hK : pK (c * 2 ^ ap + l) Q = Q + ap := by unfold pK; rw [hlog]; omega
  rw [rr_eq (by omega), settle_eq]
  have hN : pN (c * 2 ^ ap + l) Q = c := by
    unfold pN
    rw [hK, show (Q - (Q + ap)).toNat = 0 by omega, show (Q + ap - Q).toNat = ap by omega, Nat.pow_zero, Nat.mul_one, Nat.one_mul]
    unfold Jvm.FP.Core.nearest
    have m1 : (c * 2 ^ ap + l) % 2 ^ ap = l := by rw [Nat.add_comm, Nat.add_mul_mod_self_right, Nat.mod_eq_of_lt (by omega)]
    have m2 : (c * 2 ^ ap + l) / 2 ^ ap = c := by rw [Nat.add_comm, Nat.add_mul_div_right _ _ (Nat.two_pow_pos ap), Nat.div_eq_of_lt (by omega), Nat.zero_add]
    rw [m1, m2, if_pos (by omega)]
  rw [hN, hK, if_pos hc2, if_pos hQ2]
theorem far_sub {c l ap : Nat} {Q : Int} (s : Bool) (hc1 : 8388608 ≤ c) (hc2 : c < 16777216) (hl : l < 16777216) (hap : 37 ≤ ap) (hQ : -112 ≤ Q + ap) (hQ2 : Q + ap ≤ 104) : Jvm.FP.Core.roundRatio B s (c * 2 ^ ap - l) 1 Q = .fin s c (Q + ap) := by
  by_cases hl0 : l = 0
  · rw [hl0, Nat.sub_zero]
    exact far_add (l := 0) s hc1 hc2 (by decide) hap (by omega) hQ2
  · have hp : (2 : Nat) ^ 37 ≤ 2 ^ ap := Nat.pow_le_pow_right (by decide) hap
    have e2 : c * 2 ^ ap < 16777216 * 2 ^ ap := Nat.mul_lt_mul_of_pos_right hc2 (Nat.two_pow_pos ap)
    by_cases hc : c = 8388608
    · subst hc
      obtain ⟨a1, ha1⟩ : ∃ a1, ap = a1 + 1 := ⟨ap - 1, by omega⟩
      subst ha1
      have hp1 : (2 : Nat) ^ 36 ≤ 2 ^ a1 := Nat.pow_le_pow_right (by decide) (by omega)
      have ep : (2 : Nat) ^ (a1 + 1) = 2 ^ a1 * 2 := Nat.pow_succ _ _
      have eW : 8388608 * 2 ^ (a1 + 1) - l = 16777215 * 2 ^ a1 + (2 ^ a1 - l) := by omega
      rw [eW]
      have hlog : (16777215 * 2 ^ a1 + (2 ^ a1 - l)).log2 = 23 + a1 := by
        refine log_eq ?_ ?_
        · rw [Nat.pow_add]; omega
        · rw [show 23 + a1 + 1 = 24 + a1 by omega, Nat.pow_add]; omega
      have hK : pK (16777215 * 2 ^ a1 + (2 ^ a1 - l)) Q = Q + a1 := by unfold pK; rw [hlog]; omega
      rw [rr_eq (by omega), settle_eq]
      have hN : pN (16777215 * 2 ^ a1 + (2 ^ a1 - l)) Q = 16777216 := by
        unfold pN
        rw [hK, show (Q - (Q + a1)).toNat = 0 by omega, show (Q + a1 - Q).toNat = a1 by omega, Nat.pow_zero, Nat.mul_one, Nat.one_mul]
        unfold Jvm.FP.Core.nearest
        have m1 : (16777215 * 2 ^ a1 + (2 ^ a1 - l)) % 2 ^ a1 = 2 ^ a1 - l := by rw [Nat.add_comm, Nat.add_mul_mod_self_right, Nat.mod_eq_of_lt (by omega)]
        have m2 : (16777215 * 2 ^ a1 + (2 ^ a1 - l)) / 2 ^ a1 = 16777215 := by rw [Nat.add_comm, Nat.add_mul_div_right _ _ (Nat.two_pow_pos a1), Nat.div_eq_of_lt (by omega), Nat.zero_add]
        rw [m1, m2, if_neg (by omega), if_pos (by omega)]
      rw [hN, hK, if_neg (by decide), if_pos (by omega), show Q + (a1 : Int) + 1 = Q + ((a1 + 1 : Nat) : Int) by omega]
    · have e1 : 8388608 * 2 ^ ap ≤ (c - 1) * 2 ^ ap := Nat.mul_le_mul_right _ (by omega)
      have e3 : c * 2 ^ ap = (c - 1) * 2 ^ ap + 2 ^ ap := by
        have : c = (c - 1) + 1 := by omega
        rw [this, Nat.add_mul, Nat.one_mul, Nat.add_sub_cancel]
      have eW : c * 2 ^ ap - l = (c - 1) * 2 ^ ap + (2 ^ ap - l) := by omega
      rw [eW]
      have hlog : ((c - 1) * 2 ^ ap + (2 ^ ap - l)).log2 = 23 + ap := by
        refine log_eq ?_ ?_
        · rw [Nat.pow_add]; omega
        · rw [show 23 + ap + 1 = 24 + ap by omega, Nat.pow_add]; omega
      have hK : pK ((c - 1) * 2 ^ ap + (2 ^ ap - l)) Q = Q + ap := by unfold pK; rw [hlog]; omega
      rw [rr_eq (by omega), settle_eq]
      have hN : pN ((c - 1) * 2 ^ ap + (2 ^ ap - l)) Q = c := by
        unfold pN
        rw [hK, show (Q - (Q + ap)).toNat = 0 by omega, show (Q + ap - Q).toNat = ap by omega, Nat.pow_zero, Nat.mul_one, Nat.one_mul]
        unfold Jvm.FP.Core.nearest
        have m1 : ((c - 1) * 2 ^ ap + (2 ^ ap - l)) % 2 ^ ap = 2 ^ ap - l := by rw [Nat.add_comm, Nat.add_mul_mod_self_right, Nat.mod_eq_of_lt (by omega)]
        have m2 : ((c - 1) * 2 ^ ap + (2 ^ ap - l)) / 2 ^ ap = c - 1 := by rw [Nat.add_comm, Nat.add_mul_div_right _ _ (Nat.two_pow_pos ap), Nat.div_eq_of_lt (by omega), Nat.zero_add]
        rw [m1, m2, if_neg (by omega), if_pos (by omega)]
        omega
      rw [hN, hK, if_pos hc2, if_pos hQ2]
theorem fq_mono {m n : Nat} (h : m % 2147483648 ≤ n % 2147483648) : fq m ≤ fq n := by
  have a1 := size_split m; have a2 := fT_lt m
  have b1 := size_split n; have b2 := fT_lt n
  unfold fq
  split <;> split <;> omega
theorem sum_hl {h l ap : Nat} (hk : l % 2147483648 ≤ h % 2147483648) (hap : fq h - fq l = (ap : Int)) (s t : Bool) : Jvm.FP.Core.exactSum (.fin s (fc h) (fq h)) (.fin t (fc l) (fq l)) = .fin (Jvm.FP.Core.sumSign s t (Jvm.FP.Core.signed s (fc h * 2 ^ ap) + Jvm.FP.Core.signed t (fc l))) (Jvm.FP.Core.signed s (fc h * 2 ^ ap) + Jvm.FP.Core.signed t (fc l)).natAbs (fq l) := by
  have e : Jvm.FP.Core.sumUnits s (fc h) (fq h) t (fc l) (fq l) (min (fq h) (fq l)) = Jvm.FP.Core.signed s (fc h * 2 ^ ap) + Jvm.FP.Core.signed t (fc l) := by
    unfold Jvm.FP.Core.sumUnits Jvm.FP.Core.inUnits
    rw [show (fq h - min (fq h) (fq l)).toNat = ap by omega, show (fq l - min (fq h) (fq l)).toNat = 0 by omega, Nat.pow_zero, Nat.mul_one]
  show Jvm.FP.Core.Datum.fin (Jvm.FP.Core.sumSign s t _) (Int.natAbs _) (min (fq h) (fq l)) = _
  rw [e, show min (fq h) (fq l) = fq l by omega]
theorem sum_comm (s t : Bool) (c d : Nat) (q r : Int) : Jvm.FP.Core.exactSum (.fin s c q) (.fin t d r) = Jvm.FP.Core.exactSum (.fin t d r) (.fin s c q) := by
  have e : Jvm.FP.Core.sumUnits s c q t d r (min q r) = Jvm.FP.Core.sumUnits t d r s c q (min r q) := by
    unfold Jvm.FP.Core.sumUnits
    rw [Int.min_comm q r, Int.add_comm]
  show Jvm.FP.Core.Datum.fin (Jvm.FP.Core.sumSign s t (Jvm.FP.Core.sumUnits s c q t d r (min q r))) (Jvm.FP.Core.sumUnits s c q t d r (min q r)).natAbs (min q r) = Jvm.FP.Core.Datum.fin (Jvm.FP.Core.sumSign t s (Jvm.FP.Core.sumUnits t d r s c q (min r q))) (Jvm.FP.Core.sumUnits t d r s c q (min r q)).natAbs (min r q)
  rw [e, Int.min_comm q r]
  congr 1
  unfold Jvm.FP.Core.sumSign
  rw [Bool.and_comm]
theorem mg_le {h l ap : Nat} (hk : l % 2147483648 ≤ h % 2147483648) (hap : fq h - fq l = (ap : Int)) : fc l ≤ fc h * 2 ^ ap := by
  have i1 := iu_mg h (e := fq l) (fq_lo l) (by omega)
  have i2 := iu_mg l (e := fq l) (fq_lo l) (Int.le_refl _)
  unfold Jvm.FP.Core.inUnits at i1 i2
  rw [show (fq h - fq l).toNat = ap by omega] at i1
  rw [Int.sub_self] at i2
  have h2 : ¬ mg h < mg l := fun z => by have := mg_iff.mp z; omega
  rw [← i1, ← i2] at h2
  have h3 := Nat.le_of_mul_le_mul_right (Nat.not_lt.mp h2) (Nat.two_pow_pos _)
  simpa using h3
theorem dec_pos {h ap : Nat} {l : Nat} (hf : h % 2147483648 < 2139095040) (hap : fq h - fq l = (ap : Int)) (h37 : 37 ≤ ap) : 8388608 ≤ fc h ∧ fq h ≤ 104 ∧ -112 ≤ fq h := by
  have a1 := size_split h; have a2 := fT_lt h; have q := fq_lo l
  have z : ¬ fE h = 0 := by
    intro z; unfold fq at hap q; rw [if_pos z] at hap; split at hap <;> omega
  have hC : fc h = fT h + 8388608 := by unfold fc; rw [if_neg z]
  have hQ : fq h = (fE h : Int) - 150 := by unfold fq; rw [if_neg z]
  omega
theorem sum_bits {h l ap : Nat} (hh : h < 4294967296) (hf : h % 2147483648 < 2139095040) (hk : l % 2147483648 ≤ h % 2147483648) (hap : fq h - fq l = (ap : Int)) (same : Bool) (hs : fS l = if same then fS h else !fS h) :
    let W := if same then fc h * 2 ^ ap + fc l else fc h * 2 ^ ap - fc l
    Jvm.FP.Core.encode B (Jvm.FP.Core.round B (Jvm.FP.Core.exactSum (.fin (fS h) (fc h) (fq h)) (.fin (fS l) (fc l) (fq l)))) = if W = 0 then (if same then (fS h).toNat * 2147483648 else 0) else if 37 ≤ ap then h else Jvm.FP.Core.encode B (Jvm.FP.Core.roundRatio B (fS h) W 1 (fq l)) := by
  intro W
  have hle := mg_le hk hap
  have hl2 := fc_lt l; have hh2 := fc_lt h
  rw [sum_hl hk hap]
  have hv : (Jvm.FP.Core.signed (fS h) (fc h * 2 ^ ap) + Jvm.FP.Core.signed (fS l) (fc l)).natAbs = W ∧ Jvm.FP.Core.sumSign (fS h) (fS l) (Jvm.FP.Core.signed (fS h) (fc h * 2 ^ ap) + Jvm.FP.Core.signed (fS l) (fc l)) = if W = 0 then (if same then fS h else false) else fS h := by
    unfold Jvm.FP.Core.sumSign Jvm.FP.Core.signed
    rw [hs]
    show _ = (if same then fc h * 2 ^ ap + fc l else fc h * 2 ^ ap - fc l) ∧ _ = if (if same then fc h * 2 ^ ap + fc l else fc h * 2 ^ ap - fc l) = 0 then _ else _
    generalize fc h * 2 ^ ap = X at hle
    generalize fc l = Y at hle
    cases same <;> cases fS h <;> simp only [if_true, if_false, Bool.not_true, Bool.not_false, Bool.and_self, Bool.and_false, Bool.and_true, Bool.false_eq_true] <;> refine ⟨by omega, ?_⟩ <;> split <;> split <;> first | rfl | omega | (simp; omega)
  rw [hv.1, hv.2]
  show Jvm.FP.Core.encode B (Jvm.FP.Core.roundRatio B _ W 1 (fq l)) = _
  by_cases c : W = 0
  · rw [if_pos c, if_pos c, c]
    show Jvm.FP.Core.encode B (.fin _ 0 _) = _
    rw [enc_fin, if_pos (by decide)]
    cases same
    · simp
    · show (fS h).toNat * 2147483648 + 0 = (fS h).toNat * 2147483648
      omega
  · rw [if_neg c, if_neg c]
    by_cases d : 37 ≤ ap
    · rw [if_pos d]
      obtain ⟨p1, p2, p3⟩ := dec_pos hf hap d
      have e := enc_dec hh hf
      have e2 : Jvm.FP.Core.roundRatio B (fS h) W 1 (fq l) = .fin (fS h) (fc h) (fq h) := by
        rw [show fq h = fq l + (ap : Int) by omega]
        show Jvm.FP.Core.roundRatio B (fS h) (if same then fc h * 2 ^ ap + fc l else fc h * 2 ^ ap - fc l) 1 (fq l) = _
        cases same
        · exact far_sub _ p1 hh2 hl2 d (by omega) (by omega)
        · exact far_add _ p1 hh2 hl2 d (by omega) (by omega)
      rw [e2, e]
    · rw [if_neg d]
