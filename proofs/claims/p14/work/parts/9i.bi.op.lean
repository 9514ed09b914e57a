theorem lead_eq {W : Nat} (h0 : 0 < W) : Jvm.FP.Core.leading W 1 = (W.log2 : Int) := by
  have hl := (Nat.log2_eq_iff (n := W) (by omega)).mp rfl
  unfold Jvm.FP.Core.leading
  have e : (1 : Nat).log2 = 0 := by decide
  rw [e]
  show (if 1 * 2 ^ ((W.log2 : Int) - ((0 : Nat) : Int)).toNat ≤ W * 2 ^ (-((W.log2 : Int) - ((0 : Nat) : Int))).toNat then (W.log2 : Int) - ((0 : Nat) : Int) else _) = _
  rw [show ((W.log2 : Int) - ((0 : Nat) : Int)).toNat = W.log2 by omega, show (-((W.log2 : Int) - ((0 : Nat) : Int))).toNat = 0 by omega, if_pos (by rw [Nat.pow_zero]; omega)]
  omega
def pK (W : Nat) (Q : Int) : Int := max (-149) ((W.log2 : Int) + Q - 23)
def pN (W : Nat) (Q : Int) : Nat := Jvm.FP.Core.nearest (W * 2 ^ (Q - pK W Q).toNat) (1 * 2 ^ (pK W Q - Q).toNat)
theorem rr_eq {W : Nat} (h0 : 0 < W) (s : Bool) (Q : Int) : Jvm.FP.Core.roundRatio B s W 1 Q = Jvm.FP.Core.settle B s (pN W Q) (pK W Q) := by
  unfold Jvm.FP.Core.roundRatio
  rw [if_neg (by omega)]
  unfold Jvm.FP.Core.roundAt Jvm.FP.Core.quantum
  rw [lead_eq h0, b_qmin, b_p24]
  rfl
theorem log_lt {W : Nat} (h0 : 0 < W) (h : W < 2 ^ 62) : W.log2 < 62 := by
  rw [Nat.log2_lt (by omega)]; exact h
theorem j1_ok {W : Nat} {Q : Int} {qe : Int32} (h0 : 0 < W) (h : W < 2 ^ 62) (hq : qe.toInt = Q) (hQ : -1000 ≤ Q ∧ Q ≤ 1000) : (x_pack_j1 (lN W) qe).toInt = pK W Q := by
  have hl := log_lt h0 h
  have e1 : (nI (63 - W.log2)).toInt = ((63 - W.log2 : Nat) : Int) := nI_toInt (by omega)
  have c64 : (64 : Int32).toInt = 64 := by decide
  have c24 : (24 : Int32).toInt = 24 := by decide
  have c149 : (-149 : Int32).toInt = -149 := by decide
  have e2 : ((64 : Int32) - nI (63 - W.log2)).toInt = (W.log2 : Int) + 1 := by
    rw [fb_subI (by rw [e1, c64]; omega) (by rw [e1, c64]; omega), e1, c64]; omega
  have e3 : (qe + ((64 : Int32) - nI (63 - W.log2))).toInt = Q + ((W.log2 : Int) + 1) := by
    rw [fb_addI (by rw [e2, hq]; omega) (by rw [e2, hq]; omega), e2, hq]
  have e4 : ((qe + ((64 : Int32) - nI (63 - W.log2))) - (24 : Int32)).toInt = (W.log2 : Int) + Q - 23 := by
    rw [fb_subI (by rw [e3, c24]; omega) (by rw [e3, c24]; omega), e3, c24]; omega
  rw [x_pack_j1_eq, nlz64_ok h0 h]
  unfold pK
  by_cases c : (W.log2 : Int) + Q - 23 < -149
  · rw [if_pos ((fa_lt _ _).mpr (by rw [e4, c149]; exact c)), c149]; omega
  · rw [if_neg (fun z => c (by have := (fa_lt _ _).mp z; rw [e4, c149] at this; exact this)), e4]; omega
theorem j2_ok {W : Nat} {Q : Int} {qe : Int32} (h0 : 0 < W) (h : W < 2 ^ 62) (hq : qe.toInt = Q) (hQ : -1000 ≤ Q ∧ Q ≤ 1000) : (x_pack_j2 (lN W) qe).toInt = pK W Q - Q := by
  have hl := log_lt h0 h
  have e := j1_ok h0 h hq hQ
  have hK : -149 ≤ pK W Q ∧ pK W Q ≤ 2000 := by unfold pK; omega
  rw [x_pack_j2_eq, fb_subI (by rw [e, hq]; omega) (by rw [e, hq]; omega), e, hq]
theorem nearest_one (x : Nat) : Jvm.FP.Core.nearest x 1 = x := by
  unfold Jvm.FP.Core.nearest
  rw [Nat.mod_one, if_pos (by decide), Nat.div_one]
theorem pN_le {W : Nat} {Q : Int} (h0 : 0 < W) : pN W Q ≤ 16777216 := by
  have hl := (Nat.log2_eq_iff (n := W) (by omega)).mp rfl
  unfold pN
  have hK : pK W Q = -149 ∨ pK W Q = (W.log2 : Int) + Q - 23 := by unfold pK; omega
  have hK2 : (W.log2 : Int) + Q - 23 ≤ pK W Q := by unfold pK; omega
  by_cases c : pK W Q - Q ≤ 0
  · rw [show (pK W Q - Q).toNat = 0 by omega, Nat.pow_zero, Nat.mul_one, nearest_one]
    have e : W * 2 ^ (Q - pK W Q).toNat ≤ 2 ^ (W.log2 + 1) * 2 ^ (23 - W.log2) := Nat.mul_le_mul (by omega) (Nat.pow_le_pow_right (by decide) (by omega))
    rw [← Nat.pow_add, show W.log2 + 1 + (23 - W.log2) = 24 by omega] at e
    omega
  · rw [show (Q - pK W Q).toNat = 0 by omega, Nat.pow_zero, Nat.mul_one, Nat.one_mul]
    have hd : W / 2 ^ (pK W Q - Q).toNat < 16777216 := by
      apply Nat.div_lt_of_lt_mul
      have e : 2 ^ (W.log2 + 1) ≤ 2 ^ ((pK W Q - Q).toNat + 24) := Nat.pow_le_pow_right (by decide) (by omega)
      have e2 : (2 : Nat) ^ ((pK W Q - Q).toNat + 24) = 2 ^ (pK W Q - Q).toNat * 2 ^ 24 := Nat.pow_add _ _ _
      omega
    unfold Jvm.FP.Core.nearest
    split
    · omega
    · split <;> omega
theorem j3_ok {W : Nat} {Q : Int} {qe : Int32} (h0 : 0 < W) (h : W < 2 ^ 62) (hq : qe.toInt = Q) (hQ : -1000 ≤ Q ∧ Q ≤ 1000) : x_pack_j3 (lN W) qe = lN (pN W Q) := by
  have hl := (Nat.log2_eq_iff (n := W) (by omega)).mp rfl
  have hl2 := log_lt h0 h
  have e2 := j2_ok h0 h hq hQ
  have c0 : (0 : Int32).toInt = 0 := by decide
  have c62 : (62 : Int32).toInt = 62 := by decide
  have hK : -149 ≤ pK W Q ∧ pK W Q ≤ 2000 := by unfold pK; omega
  have hK2 : (W.log2 : Int) + Q - 23 ≤ pK W Q := by unfold pK; omega
  rw [x_pack_j3_eq]
  unfold pN
  generalize x_pack_j2 (lN W) qe = dr at e2
  by_cases c : 0 < pK W Q - Q
  · rw [if_pos ((fa_lt _ _).mpr (by rw [e2, c0]; exact c)), show (Q - pK W Q).toNat = 0 by omega, Nat.pow_zero, Nat.mul_one, Nat.one_mul]
    by_cases c2 : 62 < pK W Q - Q
    · rw [if_pos ((fa_lt _ _).mpr (by rw [e2, c62]; exact c2))]
      have hp : (2 : Nat) ^ 63 ≤ 2 ^ (pK W Q - Q).toNat := Nat.pow_le_pow_right (by decide) (by omega)
      unfold Jvm.FP.Core.nearest
      rw [Nat.mod_eq_of_lt (by omega), Nat.div_eq_of_lt (by omega), if_pos (by omega)]
      rfl
    · rw [if_neg (fun z => c2 (by have := (fa_lt _ _).mp z; rw [e2, c62] at this; exact this))]
      obtain ⟨D, hD⟩ : ∃ D : Nat, pK W Q - Q = ((D + 1 : Nat) : Int) := ⟨(pK W Q - Q).toNat - 1, by omega⟩
      have eD : dr = nI (D + 1) := of_ti (by rw [e2, hD]) (by omega)
      have eD1 : dr - (1 : Int32) = nI D := by
        rw [eD]
        show nI (D + 1) - nI 1 = nI D
        rw [pk_sub (by omega)]
        rfl
      rw [show (pK W Q - Q).toNat = D + 1 by omega, eD1, eD]
      have hpw : (2 : Nat) ^ (D + 1) = 2 ^ D * 2 := Nat.pow_succ _ _
      have hp62 : (2 : Nat) ^ D < 2 ^ 62 := Nat.pow_lt_pow_right (by decide) (by omega)
      have hdm := Nat.div_add_mod W (2 ^ (D + 1))
      have hml := Nat.mod_lt W (Nat.two_pow_pos (D + 1))
      rw [shr_lN h (by omega), wb_shl _ (by omega)]
      have s1 : (1 : Int64) <<< ((nI D).toInt64 &&& 63) = lN (2 ^ D) := by
        have := wb_shl 1 (k := D) (by omega)
        rw [Nat.one_mul] at this
        exact this
      rw [s1]
      have hle : W / 2 ^ (D + 1) * 2 ^ (D + 1) ≤ W := Nat.div_mul_le_self _ _
      have s2 : lN W - lN (W / 2 ^ (D + 1) * 2 ^ (D + 1)) = lN (W % 2 ^ (D + 1)) := by
        rw [lN_sub hle]
        congr 1
        rw [Nat.mul_comm] at hle ⊢
        omega
      rw [s2]
      have hdl : W / 2 ^ (D + 1) ≤ W := Nat.div_le_self _ _
      have s3 : lN (W / 2 ^ (D + 1)) &&& (1 : Int64) = lN (W / 2 ^ (D + 1) % 2) := wb_a1 (by omega)
      rw [s3]
      unfold Jvm.FP.Core.nearest
      generalize W / 2 ^ (D + 1) = q at hdl
      generalize W % 2 ^ (D + 1) = r at hml hdm
      have q1 : (0 < lg_cmp (lN r) (lN (2 ^ D))) ↔ 2 ^ D < r := by rw [lg_cmp_gt]; exact pk_lLT (by omega) (by omega)
      have q2 : (lg_cmp (lN r) (lN (2 ^ D)) = 0) ↔ r = 2 ^ D := by rw [lg_cmp_eq]; exact pk_lEQ (by omega) (by omega)
      have q3 : (lg_cmp (lN (q % 2)) (1 : Int64) = 0) ↔ q % 2 = 1 := by rw [lg_cmp_eq]; exact pk_lEQ (a := q % 2) (b := 1) (by omega) (by decide)
      have a1 : lN q + (1 : Int64) = lN (q + 1) := lN_1 q
      have a0 : lN q + (0 : Int64) = lN (q + 0) := lN_add q 0
      by_cases b1 : 2 ^ D < r
      · rw [if_pos (q1.mpr b1), if_neg (show ¬ 2 * r < 2 ^ (D + 1) by omega), if_pos (show 2 ^ (D + 1) < 2 * r by omega), a1]
      · rw [if_neg (fun z => b1 (q1.mp z))]
        by_cases b2 : r = 2 ^ D
        · rw [if_pos (q2.mpr b2), if_neg (show ¬ 2 * r < 2 ^ (D + 1) by omega), if_neg (show ¬ 2 ^ (D + 1) < 2 * r by omega)]
          by_cases b3 : q % 2 = 1
          · rw [if_pos (q3.mpr b3), a1, b3]
          · rw [if_neg (fun z => b3 (q3.mp z)), a0, show q % 2 = 0 by omega]
        · rw [if_neg (fun z => b2 (q2.mp z)), if_pos (show 2 * r < 2 ^ (D + 1) by omega), a0, Nat.add_zero]
  · rw [if_neg (fun z => c (by have := (fa_lt _ _).mp z; rw [e2, c0] at this; exact this)), show (pK W Q - Q).toNat = 0 by omega, Nat.pow_zero, Nat.mul_one, nearest_one]
    obtain ⟨D, hD⟩ : ∃ D : Nat, pK W Q - Q = -((D : Nat) : Int) := ⟨(Q - pK W Q).toNat, by omega⟩
    have eD : -dr = nI D := of_ti (by rw [fb_negI (by rw [e2]; omega), e2, hD]; omega) (by omega)
    rw [eD, wb_shl _ (by omega), show (Q - pK W Q).toNat = D by omega]
def pC (W : Nat) (Q : Int) : Nat := if pN W Q < 16777216 then pN W Q else 8388608
def pQ (W : Nat) (Q : Int) : Int := if pN W Q < 16777216 then pK W Q else pK W Q + 1
theorem j4_ok {W : Nat} {Q : Int} {qe : Int32} (h0 : 0 < W) (h : W < 2 ^ 62) (hq : qe.toInt = Q) (hQ : -1000 ≤ Q ∧ Q ≤ 1000) : x_pack_j4a (lN W) qe = lN (pC W Q) ∧ (x_pack_j4b (lN W) qe).toInt = pQ W Q := by
  have hl2 := log_lt h0 h
  have hn := pN_le (Q := Q) h0
  have hK : -149 ≤ pK W Q ∧ pK W Q ≤ 2000 := by unfold pK; omega
  have e1 := j1_ok h0 h hq hQ
  have c1 : (1 : Int32).toInt = 1 := by decide
  have q1 : (lg_cmp (lN (pN W Q)) (16777216 : Int64) < 0) ↔ pN W Q < 16777216 := by rw [lg_cmp_lt]; exact pk_lLT (a := pN W Q) (b := 16777216) (by omega) (by decide)
  rw [x_pack_j4a_eq, x_pack_j4b_eq, j3_ok h0 h hq hQ]
  unfold pC pQ
  by_cases c : pN W Q < 16777216
  · rw [if_pos (q1.mpr c), if_pos (q1.mpr c), if_pos c, if_pos c]; exact ⟨rfl, e1⟩
  · rw [if_neg (fun z => c (q1.mp z)), if_neg (fun z => c (q1.mp z)), if_neg c, if_neg c]
    refine ⟨?_, ?_⟩
    · have := shr_lN (a := pN W Q) (j := 1) (by omega) (by decide)
      rw [show pN W Q / 2 ^ 1 = 8388608 by omega] at this
      exact this
    · rw [fb_addI (by rw [e1, c1]; omega) (by rw [e1, c1]; omega), e1, c1]
theorem or3 {b f t : Nat} (hb : b < 2) (hf : f < 256) (ht : t < 8388608) : (nI b <<< ((31 : Int32) &&& 31) ||| nI f <<< ((23 : Int32) &&& 31)) ||| nI t = nI (b * 2147483648 + f * 8388608 + t) := by
  rw [pk_shlN ((31 : Int32) &&& 31) 31 (by decide) (by omega), pk_shlN ((23 : Int32) &&& 31) 23 (by decide) (by omega), Nat.mul_comm b, fa_or_sum b (show f * 2 ^ 23 < 2 ^ 31 by omega),
    show 2 ^ 31 * b + f * 2 ^ 23 = 2 ^ 23 * (2 ^ 8 * b + f) by omega, fa_or_sum _ (show t < 2 ^ 23 by omega)]
  all_goals exact congrArg nI (by omega)
theorem pack_ok {W b : Nat} {Q : Int} {qe : Int32} (hb : b < 2) (h : W < 2 ^ 62) (hq : qe.toInt = Q) (hQ : -1000 ≤ Q ∧ Q ≤ 1000) (s : Bool) (hs : s.toNat = b) : x_pack (nI b) (lN W) qe = nI (Jvm.FP.Core.encode B (Jvm.FP.Core.roundRatio B s W 1 Q)) := by
  have z0 : (lg_cmp (lN W) (0 : Int64) = 0) ↔ W = 0 := by rw [lg_cmp_eq]; exact pk_lEQ (a := W) (b := 0) (by omega) (by decide)
  rw [x_pack_eq]
  by_cases h0 : W = 0
  · rw [if_pos (z0.mpr h0), h0]
    show _ = nI (Jvm.FP.Core.encode B (.fin s 0 _))
    rw [enc_fin, if_pos (by decide), pk_shlN ((31 : Int32) &&& 31) 31 (by decide) (by omega), hs]
    all_goals exact congrArg nI (by omega)
  · rw [if_neg (fun z => h0 (z0.mp z)), rr_eq (by omega), settle_eq]
    obtain ⟨e4a, e4b⟩ := j4_ok (by omega) h hq hQ
    have hl2 := log_lt (W := W) (by omega) h
    have hK : -149 ≤ pK W Q ∧ pK W Q ≤ 2000 := by unfold pK; omega
    have hn := pN_le (W := W) (Q := Q) (by omega)
    have c150 : (150 : Int32).toInt = 150 := by decide
    have c255 : (255 : Int32).toInt = 255 := by decide
    have hQ2 : -149 ≤ pQ W Q ∧ pQ W Q ≤ 2001 := by unfold pQ; split <;> omega
    have hC : pC W Q < 16777216 := by unfold pC; split <;> omega
    have e5 : (x_pack_j4b (lN W) qe + (150 : Int32)).toInt = pQ W Q + 150 := by rw [fb_addI (by rw [e4b, c150]; omega) (by rw [e4b, c150]; omega), e4b, c150]
    have hset : (if pN W Q < 16777216 then (if pK W Q ≤ 104 then Jvm.FP.Core.Datum.fin s (pN W Q) (pK W Q) else .inf s) else (if pK W Q + 1 ≤ 104 then .fin s 8388608 (pK W Q + 1) else .inf s)) = if pQ W Q ≤ 104 then .fin s (pC W Q) (pQ W Q) else .inf s := by
      unfold pQ pC
      by_cases c : pN W Q < 16777216 <;> simp only [c, if_true, if_false]
    rw [hset]
    by_cases c : pQ W Q ≤ 104
    · rw [if_pos ((fa_lt _ _).mpr (by rw [e5, c255]; omega)), if_pos c, enc_fin, e4a, lN_i]
      have m1 : nI (pC W Q) &&& (8388607 : Int32) = nI (pC W Q % 8388608) := fa_mask (pC W Q) 23
      rw [m1]
      have q5 : (0 ≤ lg_cmp (lN (pC W Q)) (8388608 : Int64)) ↔ 8388608 ≤ pC W Q := by rw [lg_cmp_ge]; exact pk_lLE (a := 8388608) (b := pC W Q) (by decide) (by omega)
      rw [x_pack_j5_eq, e4a]
      by_cases d : 8388608 ≤ pC W Q
      · obtain ⟨f, hf⟩ : ∃ f : Nat, pQ W Q + 150 = (f : Int) := ⟨(pQ W Q + 150).toNat, by omega⟩
        rw [if_pos (q5.mpr d), if_neg (by omega), of_ti (x := x_pack_j4b (lN W) qe + (150 : Int32)) (n := f) (by rw [e5, hf]) (by omega), or3 hb (by omega) (by omega), hs]
        have : (pQ W Q + 149).toNat + 1 = f := by omega
        rw [this]
        all_goals exact congrArg nI (by omega)
      · rw [if_neg (fun z => d (q5.mp z)), if_pos (by omega), show (0 : Int32) = nI 0 from rfl, or3 hb (by omega) (by omega), hs]
        all_goals exact congrArg nI (by omega)
    · rw [if_neg (fun z => c (by have := (fa_lt _ _).mp z; rw [e5, c255] at this; omega)), if_neg c, enc_inf, hs, pk_shlN ((31 : Int32) &&& 31) 31 (by decide) (by omega), Nat.mul_comm b]
      show nI (2 ^ 31 * b) ||| nI 2139095040 = _
      rw [fa_or_sum b (by decide)]
      all_goals exact congrArg nI (by omega)
