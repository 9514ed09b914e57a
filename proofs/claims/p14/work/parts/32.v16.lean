set_option maxHeartbeats 4000000 in
set_option maxRecDepth 100000 in
theorem k_X6_runResidue_b166 {n109 : Nat} (K109 : Int32 → Mem → Option Mem) (hK109 : ∀ (z5 : Int32) (μ1 : Mem), IX μ1 → (0 ≤ (z5).toInt ∧ (z5).toInt ≤ 1000000 ∧ (μ1.1 (sel 0 (μ1.2.2 151 8)) 4).toInt ≤ (z5).toInt ∧ 1000000 - (z5).toInt < n109) → ok (K109 z5 μ1) (fun q => IX q ∧ Fr [(0, 30, 5), (0, 30, 7), (0, 30, 10), (0, 151, 5), (0, 151, 6), (1, 33, 0), (1, 34, 0), (1, 154, 0), (1, 155, 0), (2, 0, 0), (2, 0, 1), (2, 0, 2), (2, 0, 3), (2, 0, 4), (2, 0, 5), (2, 0, 6), (2, 1, 2), (2, 1, 3), (3, 0, 2)] false μ1 q)) (a5 : Int32) (μ : Mem) (hI_μ : IX μ) (hc : 0 ≤ (a5).toInt ∧ (a5).toInt < 1000000 ∧ (μ.1 (sel 0 (μ.2.2 151 8)) 4).toInt ≤ (a5).toInt + 1 ∧ 1000000 - (a5).toInt < n109 + 1) : ok (p_X6_runResidue_b166 K109 a5 μ) (fun q => IX q ∧ Fr [(0, 30, 5), (0, 30, 7), (0, 30, 10), (0, 151, 5), (0, 151, 6), (1, 33, 0), (1, 34, 0), (1, 154, 0), (1, 155, 0), (2, 0, 0), (2, 0, 1), (2, 0, 2), (2, 0, 3), (2, 0, 4), (2, 0, 5), (2, 0, 6), (2, 1, 2), (2, 1, 3), (3, 0, 2)] false μ q) := by
  have li0 : (0 : Int32).toInt = 0 := by decide
  have li1 : (1 : Int32).toInt = 1 := by decide
  have hF_μ : Fr [(0, 30, 5), (0, 30, 7), (0, 30, 10), (0, 151, 5), (0, 151, 6), (1, 33, 0), (1, 34, 0), (1, 154, 0), (1, 155, 0), (2, 0, 0), (2, 0, 1), (2, 0, 2), (2, 0, 3), (2, 0, 4), (2, 0, 5), (2, 0, 6), (2, 1, 2), (2, 1, 3), (3, 0, 2)] false μ μ := Fr.rf
  have hr_μ : μ.2.2 = μ.2.2 := rfl
  rw [p_X6_runResidue_b166_eq]
  have lo_a5 := ti_lo a5
  have hi_a5 := ti_hi a5
  have g32 := rgc_0_4 (sel_0 (μ.2.2 151 8)) hI_μ
  refine ok_bv (fun v33 ev33 => ?_)
  first | have tv33 : v33.toInt = (a5.toInt + 1) := (congrArg Int32.toInt ev33).trans (TI.e (n := (a5.toInt + 1)) (TI.add TI.rf (TI.lit (by decide)) (by omega) (by omega))) | have tv33 : v33.toInt ≤ a5.toInt + 1 := by rw [ev33]; exact ti_inc _ | skip
  exact ok_mono (hK109 v33 μ hI_μ (by omega)) (fun q h => ⟨h.1, hF_μ.trans h.2⟩)
set_option maxHeartbeats 4000000 in
set_option maxRecDepth 100000 in
theorem k_X6_runResidue_b109 : ∀ (n : Nat) (a5 : Int32) (μ : Mem), IX μ → (0 ≤ (a5).toInt ∧ (a5).toInt ≤ 1000000 ∧ (μ.1 (sel 0 (μ.2.2 151 8)) 4).toInt ≤ (a5).toInt ∧ 1000000 - (a5).toInt < n) → ok (p_X6_runResidue_b109 n a5 μ) (fun q => IX q ∧ Fr [(0, 30, 5), (0, 30, 7), (0, 30, 10), (0, 151, 5), (0, 151, 6), (1, 33, 0), (1, 34, 0), (1, 154, 0), (1, 155, 0), (2, 0, 0), (2, 0, 1), (2, 0, 2), (2, 0, 3), (2, 0, 4), (2, 0, 5), (2, 0, 6), (2, 1, 2), (2, 1, 3), (3, 0, 2)] false μ q) := by
  have lim1 : (-1 : Int32).toInt = -1 := by decide
  have li0 : (0 : Int32).toInt = 0 := by decide
  have li1 : (1 : Int32).toInt = 1 := by decide
  have li1000000 : (1000000 : Int32).toInt = 1000000 := by decide
  intro n
  induction n with
  | zero => intro a5 μ hI_μ hc; exact absurd hc (by have lo_a5 := ti_lo a5; have hi_a5 := ti_hi a5; omega)
  | succ n ih =>
    intro a5 μ hI_μ hc
    have hF_μ : Fr [(0, 30, 5), (0, 30, 7), (0, 30, 10), (0, 151, 5), (0, 151, 6), (1, 33, 0), (1, 34, 0), (1, 154, 0), (1, 155, 0), (2, 0, 0), (2, 0, 1), (2, 0, 2), (2, 0, 3), (2, 0, 4), (2, 0, 5), (2, 0, 6), (2, 1, 2), (2, 1, 3), (3, 0, 2)] false μ μ := Fr.rf
    have hr_μ : μ.2.2 = μ.2.2 := rfl
    rw [p_X6_runResidue_b109_s]
    have lo_a5 := ti_lo a5
    have hi_a5 := ti_hi a5
    have g21 := rgc_0_4 (sel_0 (μ.2.2 151 8)) hI_μ
    refine ok_ite ?_ ?_
    · intro c22
      rw [ti_le] at c22
      exact ok_some ⟨hI_μ, hF_μ⟩
    · intro c22
      rw [ti_le] at c22
      have g23 := rg_151_5 hI_μ
      refine ok_ite ?_ ?_
      · intro c24
        rw [ti_lt] at c24
        exact ok_some ⟨hI_μ, hF_μ⟩
      · intro c24
        rw [ti_lt] at c24
        refine ok_bd (k_X1_isRunning (sel 0 (μ.2.2 151 8)) (sel_0 _) μ hI_μ) ?_
        rintro r26 μ25 ⟨hq9, p_r26⟩
        obtain rfl : μ = μ25 := hq9
        dsimp only at p_r26
        have lo_r26 := ti_lo r26
        have hi_r26 := ti_hi r26
        refine ok_ite ?_ ?_
        · intro c27
          rw [ti_eq] at c27
          exact ok_some ⟨hI_μ, hF_μ⟩
        · intro c27
          rw [ti_eq] at c27
          refine ok_gd (inb_iff.mpr (by (try rw [TI.e (e := ((μ.1 151 5) - (1 : Int32))) (n := ((μ.1 151 5).toInt - 1)) (TI.sub TI.rf (TI.lit (by decide)) (by omega) (by omega))]); omega)) ?_
          refine ok_bv (fun v28 ev28 => ?_)
          have tv28 : v28.toInt = (μ.1 155 ((μ.1 151 5) - (1 : Int32)).toNatClampNeg).toInt := congrArg Int32.toInt ev28
          refine ok_ite ?_ ?_
          · intro c29
            rw [ti_eq] at c29
            refine ok_bw (k_X6_endBlock  μ hI_μ (by omega)) ?_
            rintro μ30 ⟨hI_μ30, hC_μ30⟩
            have hF_μ30 : Fr [(0, 30, 5), (0, 30, 7), (0, 30, 10), (0, 151, 5), (0, 151, 6), (1, 33, 0), (1, 34, 0), (1, 154, 0), (1, 155, 0), (2, 0, 0), (2, 0, 1), (2, 0, 2), (2, 0, 3), (2, 0, 4), (2, 0, 5), (2, 0, 6), (2, 1, 2), (2, 1, 3), (3, 0, 2)] false μ μ30 := hF_μ.trans (hC_μ30.mono (by decide +kernel) (by decide))
            have hr_μ30 : μ30.2.2 = μ.2.2 := (hC_μ30.2 rfl : μ30.2.2 = μ.2.2).trans hr_μ
            try rw [hr_μ30]
            have g34 := rgc_0_4 (sel_0 (μ.2.2 151 8)) hI_μ30
            have f35 : (μ30.1 (sel 0 (μ.2.2 151 8)) 4).toInt = (μ.1 (sel 0 (μ.2.2 151 8)) 4).toInt := congrArg Int32.toInt (hC_μ30.1 _ _ (cls_free (by decide +kernel) (sel_0 (μ.2.2 151 8))))
            exact ok_mono (k_X6_runResidue_b166 _ ih a5 μ30 hI_μ30 (by (try rw [hr_μ30]); omega)) (fun q h => ⟨h.1, hF_μ30.trans h.2⟩)
          · intro c29
            rw [ti_eq] at c29
            refine ok_bw (k_X6_step v28 μ hI_μ (by omega)) ?_
            rintro μ36 ⟨hI_μ36, hC_μ36, p_μ36⟩
            have hF_μ36 : Fr [(0, 30, 5), (0, 30, 7), (0, 30, 10), (0, 151, 5), (0, 151, 6), (1, 33, 0), (1, 34, 0), (1, 154, 0), (1, 155, 0), (2, 0, 0), (2, 0, 1), (2, 0, 2), (2, 0, 3), (2, 0, 4), (2, 0, 5), (2, 0, 6), (2, 1, 2), (2, 1, 3), (3, 0, 2)] false μ μ36 := hF_μ.trans (hC_μ36.mono (by decide +kernel) (by decide))
            have hr_μ36 : μ36.2.2 = μ.2.2 := (hC_μ36.2 rfl : μ36.2.2 = μ.2.2).trans hr_μ
            try rw [hr_μ36]
            try simp only [hr_μ36, hr_μ] at p_μ36
            have g38 := rgc_0_4 (sel_0 (μ.2.2 151 8)) hI_μ36
            exact ok_mono (k_X6_runResidue_b166 _ ih a5 μ36 hI_μ36 (by (try rw [hr_μ36]); omega)) (fun q h => ⟨h.1, hF_μ36.trans h.2⟩)
set_option maxHeartbeats 4000000 in
set_option maxRecDepth 100000 in
theorem k_X6_runResidue_b63 : ∀ (n : Nat) (a4 : Int32) (a5 : Int32) (μ : Mem), IX μ → (0 ≤ (a5).toInt ∧ (a4).toInt ≤ 8 ∧ (μ.1 (sel 0 (μ.2.2 151 8)) 4).toInt ≤ 0 ∧ 2147483648 - (a5).toInt < n) → ok (p_X6_runResidue_b63 n a4 a5 μ) (fun q => IX q ∧ Fr [(0, 30, 5), (0, 30, 7), (0, 30, 10), (0, 151, 5), (0, 151, 6), (1, 33, 0), (1, 34, 0), (1, 154, 0), (1, 155, 0), (2, 0, 0), (2, 0, 1), (2, 0, 2), (2, 0, 3), (2, 0, 4), (2, 0, 5), (2, 0, 6), (2, 1, 2), (2, 1, 3), (3, 0, 2)] false μ q) := by
  have li0 : (0 : Int32).toInt = 0 := by decide
  have li1 : (1 : Int32).toInt = 1 := by decide
  have li3 : (3 : Int32).toInt = 3 := by decide
  intro n
  induction n with
  | zero => intro a4 a5 μ hI_μ hc; exact absurd hc (by have lo_a4 := ti_lo a4; have hi_a4 := ti_hi a4; have lo_a5 := ti_lo a5; have hi_a5 := ti_hi a5; omega)
  | succ n ih =>
    intro a4 a5 μ hI_μ hc
    have hF_μ : Fr [(0, 30, 5), (0, 30, 7), (0, 30, 10), (0, 151, 5), (0, 151, 6), (1, 33, 0), (1, 34, 0), (1, 154, 0), (1, 155, 0), (2, 0, 0), (2, 0, 1), (2, 0, 2), (2, 0, 3), (2, 0, 4), (2, 0, 5), (2, 0, 6), (2, 1, 2), (2, 1, 3), (3, 0, 2)] false μ μ := Fr.rf
    have hr_μ : μ.2.2 = μ.2.2 := rfl
    rw [p_X6_runResidue_b63_s]
    have lo_a4 := ti_lo a4
    have hi_a4 := ti_hi a4
    have lo_a5 := ti_lo a5
    have hi_a5 := ti_hi a5
    have g15 := rgc_0_4 (sel_0 (μ.2.2 151 8)) hI_μ
    refine ok_ite ?_ ?_
    · intro c16
      rw [ti_le] at c16
      refine ok_bd (k_X5_ofVariant (0 : Int32) (3 : Int32) μ hI_μ (by omega)) ?_
      rintro r18 μ17 hq9
      obtain rfl : μ = μ17 := hq9
      have lo_r18 := ti_lo r18
      have hi_r18 := ti_hi r18
      refine ok_bw (k_X6_enter r18 μ hI_μ) ?_
      rintro μ19 ⟨hI_μ19, hC_μ19⟩
      have hF_μ19 : Fr [(0, 30, 5), (0, 30, 7), (0, 30, 10), (0, 151, 5), (0, 151, 6), (1, 33, 0), (1, 34, 0), (1, 154, 0), (1, 155, 0), (2, 0, 0), (2, 0, 1), (2, 0, 2), (2, 0, 3), (2, 0, 4), (2, 0, 5), (2, 0, 6), (2, 1, 2), (2, 1, 3), (3, 0, 2)] false μ μ19 := hF_μ.trans (hC_μ19.mono (by decide +kernel) (by decide))
      have hr_μ19 : μ19.2.2 = μ.2.2 := (hC_μ19.2 rfl : μ19.2.2 = μ.2.2).trans hr_μ
      try rw [hr_μ19]
      have g39 := rgc_0_4 (sel_0 (μ.2.2 151 8)) hI_μ19
      have f40 : (μ19.1 (sel 0 (μ.2.2 151 8)) 4).toInt = (μ.1 (sel 0 (μ.2.2 151 8)) 4).toInt := congrArg Int32.toInt (hC_μ19.1 _ _ (cls_free (by decide +kernel) (sel_0 (μ.2.2 151 8))))
      obtain ⟨fu, hfu0, hfu⟩ := fuel_ex
      rw [hfu0]
      exact ok_mono (k_X6_runResidue_b109  fu (0 : Int32) μ19 hI_μ19 (by (try rw [hr_μ19]); omega)) (fun q h => ⟨h.1, hF_μ19.trans h.2⟩)
    · intro c16
      rw [ti_le] at c16
      have g41 := ti_lo (μ.1 151 6)
      have g41h := ti_hi (μ.1 151 6)
      refine ok_gd (inb_iff.mpr (by omega)) ?_
      refine ok_bw (k_X6_setRegister (μ.1 151 6) a5 (μ.2.1 153 a5.toNatClampNeg) μ hI_μ) ?_
      rintro μ42 ⟨hI_μ42, hC_μ42⟩
      have hF_μ42 : Fr [(0, 30, 5), (0, 30, 7), (0, 30, 10), (0, 151, 5), (0, 151, 6), (1, 33, 0), (1, 34, 0), (1, 154, 0), (1, 155, 0), (2, 0, 0), (2, 0, 1), (2, 0, 2), (2, 0, 3), (2, 0, 4), (2, 0, 5), (2, 0, 6), (2, 1, 2), (2, 1, 3), (3, 0, 2)] false μ μ42 := hF_μ.trans (hC_μ42.mono (by decide +kernel) (by decide))
      have hr_μ42 : μ42.2.2 = μ.2.2 := (hC_μ42.2 rfl : μ42.2.2 = μ.2.2).trans hr_μ
      try rw [hr_μ42]
      refine ok_bv (fun v44 ev44 => ?_)
      first | have tv44 : v44.toInt = (a5.toInt + 1) := (congrArg Int32.toInt ev44).trans (TI.e (n := (a5.toInt + 1)) (TI.add TI.rf (TI.lit (by decide)) (by omega) (by omega))) | have tv44 : v44.toInt ≤ a5.toInt + 1 := by rw [ev44]; exact ti_inc _ | skip
      have g45 := rgc_0_4 (sel_0 (μ.2.2 151 8)) hI_μ42
      have f46 : (μ42.1 (sel 0 (μ.2.2 151 8)) 4).toInt = (μ.1 (sel 0 (μ.2.2 151 8)) 4).toInt := congrArg Int32.toInt (hC_μ42.1 _ _ (cls_free (by decide +kernel) (sel_0 (μ.2.2 151 8))))
      exact ok_mono (ih a4 v44 μ42 hI_μ42 (by (try rw [hr_μ42]); omega)) (fun q h => ⟨h.1, hF_μ42.trans h.2⟩)
set_option maxHeartbeats 4000000 in
set_option maxRecDepth 100000 in
theorem k_X6_runResidue (a2 : Nat) (q2 : sh 0 a2 = (0, 1)) (a3 : Nat) (q3 : sh 0 a3 = (0, 0)) (μ : Mem) (hI_μ : IX μ) : ok (p_X6_runResidue a2 a3 μ) (fun q => IX q ∧ Fr [(0, 30, 5), (0, 30, 7), (0, 30, 10), (0, 151, 5), (0, 151, 6), (1, 33, 0), (1, 34, 0), (1, 154, 0), (1, 155, 0), (2, 0, 0), (2, 0, 1), (2, 0, 2), (2, 0, 3), (2, 0, 4), (2, 0, 5), (2, 0, 6), (2, 1, 2), (2, 1, 3), (3, 0, 2)] false μ q) := by
  have li0 : (0 : Int32).toInt = 0 := by decide
  have li1 : (1 : Int32).toInt = 1 := by decide
  have hF_μ : Fr [(0, 30, 5), (0, 30, 7), (0, 30, 10), (0, 151, 5), (0, 151, 6), (1, 33, 0), (1, 34, 0), (1, 154, 0), (1, 155, 0), (2, 0, 0), (2, 0, 1), (2, 0, 2), (2, 0, 3), (2, 0, 4), (2, 0, 5), (2, 0, 6), (2, 1, 2), (2, 1, 3), (3, 0, 2)] false μ μ := Fr.rf
  have hr_μ : μ.2.2 = μ.2.2 := rfl
  rw [p_X6_runResidue_eq]
  refine ok_bv (fun μ2 e_μ2 => ?_)
  have hI_μ2 : IX μ2 := by rw [e_μ2]; exact IX_R hI_μ
  have hF_μ2 : Fr [(0, 30, 5), (0, 30, 7), (0, 30, 10), (0, 151, 5), (0, 151, 6), (1, 33, 0), (1, 34, 0), (1, 154, 0), (1, 155, 0), (2, 0, 0), (2, 0, 1), (2, 0, 2), (2, 0, 3), (2, 0, 4), (2, 0, 5), (2, 0, 6), (2, 1, 2), (2, 1, 3), (3, 0, 2)] false μ μ2 := by rw [e_μ2]; exact ⟨hF_μ.1, fun h9 => absurd h9 (by decide)⟩
  have hr_μ2 : μ2.2.2 = μ2.2.2 := rfl
  refine ok_bw (k_X1_clear (sel 0 (μ2.2.2 151 8)) (sel_0 _) μ2 hI_μ2) ?_
  rintro μ3 ⟨hI_μ3, hC_μ3, p_μ3⟩
  have hF_μ3 : Fr [(0, 30, 5), (0, 30, 7), (0, 30, 10), (0, 151, 5), (0, 151, 6), (1, 33, 0), (1, 34, 0), (1, 154, 0), (1, 155, 0), (2, 0, 0), (2, 0, 1), (2, 0, 2), (2, 0, 3), (2, 0, 4), (2, 0, 5), (2, 0, 6), (2, 1, 2), (2, 1, 3), (3, 0, 2)] false μ μ3 := hF_μ2.trans (hC_μ3.mono (by decide +kernel) (by decide))
  have hr_μ3 : μ3.2.2 = μ2.2.2 := (hC_μ3.2 rfl : μ3.2.2 = μ2.2.2).trans hr_μ2
  try rw [hr_μ3]
  have g5 := rgc_0_4 (sel_0 (μ2.2.2 151 8)) hI_μ3
  refine ok_bw (k_X8_clear  μ3 hI_μ3) ?_
  rintro μ6 ⟨hI_μ6, hC_μ6⟩
  have hF_μ6 : Fr [(0, 30, 5), (0, 30, 7), (0, 30, 10), (0, 151, 5), (0, 151, 6), (1, 33, 0), (1, 34, 0), (1, 154, 0), (1, 155, 0), (2, 0, 0), (2, 0, 1), (2, 0, 2), (2, 0, 3), (2, 0, 4), (2, 0, 5), (2, 0, 6), (2, 1, 2), (2, 1, 3), (3, 0, 2)] false μ μ6 := hF_μ3.trans (hC_μ6.mono (by decide +kernel) (by decide))
  have hr_μ6 : μ6.2.2 = μ2.2.2 := (hC_μ6.2 rfl : μ6.2.2 = μ3.2.2).trans hr_μ3
  try rw [hr_μ6]
  refine ok_bv (fun μ8 e_μ8 => ?_)
  have hI_μ8 : IX μ8 := by rw [e_μ8]; exact IX_F hI_μ6 (rp_151_5 (by omega))
  have hF_μ8 : Fr [(0, 30, 5), (0, 30, 7), (0, 30, 10), (0, 151, 5), (0, 151, 6), (1, 33, 0), (1, 34, 0), (1, 154, 0), (1, 155, 0), (2, 0, 0), (2, 0, 1), (2, 0, 2), (2, 0, 3), (2, 0, 4), (2, 0, 5), (2, 0, 6), (2, 1, 2), (2, 1, 3), (3, 0, 2)] false μ μ8 := by rw [e_μ8]; exact Fr.put hF_μ6 (by decide +kernel)
  have v_μ8 : (μ8.1 151 5).toInt = 0 := by rw [e_μ8, sF_v]; exact TI.e (n := 0) (TI.lit (by decide))
  have hr_μ8 : μ8.2.2 = μ2.2.2 := (by rw [e_μ8]; rfl : μ8.2.2 = μ6.2.2).trans hr_μ6
  try rw [hr_μ8]
  refine ok_bv (fun μ9 e_μ9 => ?_)
  have hI_μ9 : IX μ9 := by rw [e_μ9]; exact IX_F hI_μ8 (rt_151_6 _)
  have hF_μ9 : Fr [(0, 30, 5), (0, 30, 7), (0, 30, 10), (0, 151, 5), (0, 151, 6), (1, 33, 0), (1, 34, 0), (1, 154, 0), (1, 155, 0), (2, 0, 0), (2, 0, 1), (2, 0, 2), (2, 0, 3), (2, 0, 4), (2, 0, 5), (2, 0, 6), (2, 1, 2), (2, 1, 3), (3, 0, 2)] false μ μ9 := by rw [e_μ9]; exact Fr.put hF_μ8 (by decide +kernel)
  have v_μ9 : (μ9.1 151 6).toInt = 0 := by rw [e_μ9, sF_v]; exact TI.e (n := 0) (TI.lit (by decide))
  have hr_μ9 : μ9.2.2 = μ2.2.2 := (by rw [e_μ9]; rfl : μ9.2.2 = μ8.2.2).trans hr_μ8
  try rw [hr_μ9]
  have l12 : (sh 0 153).2 = 8 := by rw [shx_153]
  refine ok_bd (k_X8_build a2 q2 153 (sh_f shx_153) 153 (sh_f shx_153) μ9 hI_μ9) ?_
  rintro r11 μ10 ⟨hI_μ10, hC_μ10, p_μ10⟩
  have hI_μ10 : IX μ10 := hI_μ10
  have hC_μ10 : Fr [(0, 30, 5), (1, 33, 0), (1, 34, 0)] true μ9 μ10 := hC_μ10
  dsimp only at p_μ10
  have lo_r11 := ti_lo r11
  have hi_r11 := ti_hi r11
  have hF_μ10 : Fr [(0, 30, 5), (0, 30, 7), (0, 30, 10), (0, 151, 5), (0, 151, 6), (1, 33, 0), (1, 34, 0), (1, 154, 0), (1, 155, 0), (2, 0, 0), (2, 0, 1), (2, 0, 2), (2, 0, 3), (2, 0, 4), (2, 0, 5), (2, 0, 6), (2, 1, 2), (2, 1, 3), (3, 0, 2)] false μ μ10 := hF_μ9.trans (hC_μ10.mono (by decide +kernel) (by decide))
  have hr_μ10 : μ10.2.2 = μ2.2.2 := (hC_μ10.2 rfl : μ10.2.2 = μ9.2.2).trans hr_μ9
  try rw [hr_μ10]
  refine ok_bd (k_X1_beginCall (sel 0 (μ2.2.2 151 8)) (sel_0 _) μ10 hI_μ10) ?_
  rintro r14 μ13 ⟨hI_μ13, hC_μ13, p_μ13⟩
  have hI_μ13 : IX μ13 := hI_μ13
  have hC_μ13 : Fr [(2, 0, 0), (2, 0, 1), (2, 0, 2), (2, 0, 3)] true μ10 μ13 := hC_μ13
  dsimp only at p_μ13
  have lo_r14 := ti_lo r14
  have hi_r14 := ti_hi r14
  have hF_μ13 : Fr [(0, 30, 5), (0, 30, 7), (0, 30, 10), (0, 151, 5), (0, 151, 6), (1, 33, 0), (1, 34, 0), (1, 154, 0), (1, 155, 0), (2, 0, 0), (2, 0, 1), (2, 0, 2), (2, 0, 3), (2, 0, 4), (2, 0, 5), (2, 0, 6), (2, 1, 2), (2, 1, 3), (3, 0, 2)] false μ μ13 := hF_μ10.trans (hC_μ13.mono (by decide +kernel) (by decide))
  have hr_μ13 : μ13.2.2 = μ2.2.2 := (hC_μ13.2 rfl : μ13.2.2 = μ10.2.2).trans hr_μ10
  try rw [hr_μ13]
  have g47 := rgc_0_4 (sel_0 (μ2.2.2 151 8)) hI_μ13
  have f48 : (μ13.1 (sel 0 (μ2.2.2 151 8)) 4).toInt = (μ3.1 (sel 0 (μ2.2.2 151 8)) 4).toInt := congrArg Int32.toInt ((hC_μ13.1 _ _ (cls_free (by decide +kernel) (sel_0 (μ2.2.2 151 8)))).trans ((hC_μ10.1 _ _ (cls_free (by decide +kernel) (sel_0 (μ2.2.2 151 8)))).trans (((by rw [e_μ9]; exact sF_k (by decide) : μ9.1 (sel 0 (μ2.2.2 151 8)) 4 = μ8.1 (sel 0 (μ2.2.2 151 8)) 4)).trans (((by rw [e_μ8]; exact sF_k (by decide) : μ8.1 (sel 0 (μ2.2.2 151 8)) 4 = μ6.1 (sel 0 (μ2.2.2 151 8)) 4)).trans (hC_μ6.1 _ _ (cls_free (by decide +kernel) (sel_0 (μ2.2.2 151 8))))))))
  obtain ⟨fu, hfu0, hfu⟩ := fuel_ex
  rw [hfu0]
  exact ok_mono (k_X6_runResidue_b63  fu r11 (0 : Int32) μ13 hI_μ13 (by (try rw [hr_μ13]); omega)) (fun q h => ⟨h.1, hF_μ13.trans h.2⟩)

set_option maxHeartbeats 4000000 in
set_option maxRecDepth 100000 in
theorem k_X1_about (a0 : Nat) (q0 : sh 0 a0 = (0, 0)) (a1 : Int32) (μ : Mem) (hI_μ : IX μ) : ok (p_X1_about a0 a1 μ) (fun q => μ = q.2) := by
  have lim1 : (-1 : Int32).toInt = -1 := by decide
  have li0 : (0 : Int32).toInt = 0 := by decide
  have li1 : (1 : Int32).toInt = 1 := by decide
  have li2 : (2 : Int32).toInt = 2 := by decide
  have li3 : (3 : Int32).toInt = 3 := by decide
  have li4 : (4 : Int32).toInt = 4 := by decide
  have li5 : (5 : Int32).toInt = 5 := by decide
  have hF_μ : Fr [] true μ μ := Fr.rf
  have hr_μ : μ.2.2 = μ.2.2 := rfl
  rw [p_X1_about_eq]
  have lo_a1 := ti_lo a1
  have hi_a1 := ti_hi a1
  refine ok_ite ?_ ?_
  · intro c2
    rw [ti_eq] at c2
    have g3 := ti_lo (μ.1 a0 0)
    have g3h := ti_hi (μ.1 a0 0)
    exact ok_some rfl
  intro c2
  rw [ti_eq] at c2
  refine ok_ite ?_ ?_
  · intro c4
    rw [ti_eq] at c4
    have g5 := ti_lo (μ.1 a0 1)
    have g5h := ti_hi (μ.1 a0 1)
    exact ok_some rfl
  intro c4
  rw [ti_eq] at c4
  refine ok_ite ?_ ?_
  · intro c6
    rw [ti_eq] at c6
    have g7 := rgc_0_4 q0 hI_μ
    exact ok_some rfl
  intro c6
  rw [ti_eq] at c6
  refine ok_ite ?_ ?_
  · intro c8
    rw [ti_eq] at c8
    have g9 := ti_lo (μ.1 a0 5)
    have g9h := ti_hi (μ.1 a0 5)
    exact ok_some rfl
  intro c8
  rw [ti_eq] at c8
  refine ok_ite ?_ ?_
  · intro c10
    rw [ti_eq] at c10
    have g11 := ti_lo (μ.1 a0 6)
    have g11h := ti_hi (μ.1 a0 6)
    exact ok_some rfl
  intro c10
  rw [ti_eq] at c10
  refine ok_ite ?_ ?_
  · intro c12
    rw [ti_eq] at c12
    have g13 := ti_lo (μ.1 a0 3)
    have g13h := ti_hi (μ.1 a0 3)
    exact ok_some rfl
  intro c12
  rw [ti_eq] at c12
  exact ok_some rfl

set_option maxHeartbeats 4000000 in
set_option maxRecDepth 100000 in
theorem k_X11_run_b69 (a2 : Int32) (μ : Mem) (hI_μ : IX μ) : ok (p_X11_run_b69 a2 μ) (fun q => IX q.2 ∧ Fr [(0, 30, 5), (0, 30, 7), (0, 30, 10), (0, 148, 5), (0, 151, 5), (0, 151, 6), (1, 33, 0), (1, 34, 0), (1, 38, 0), (1, 154, 0), (1, 155, 0), (2, 0, 0), (2, 0, 1), (2, 0, 2), (2, 0, 3), (2, 0, 4), (2, 0, 5), (2, 0, 6), (2, 1, 2), (2, 1, 3), (3, 0, 2)] false μ q.2) := by
  have li0 : (0 : Int32).toInt = 0 := by decide
  have li1 : (1 : Int32).toInt = 1 := by decide
  have hF_μ : Fr [(0, 30, 5), (0, 30, 7), (0, 30, 10), (0, 148, 5), (0, 151, 5), (0, 151, 6), (1, 33, 0), (1, 34, 0), (1, 38, 0), (1, 154, 0), (1, 155, 0), (2, 0, 0), (2, 0, 1), (2, 0, 2), (2, 0, 3), (2, 0, 4), (2, 0, 5), (2, 0, 6), (2, 1, 2), (2, 1, 3), (3, 0, 2)] false μ μ := Fr.rf
  have hr_μ : μ.2.2 = μ.2.2 := rfl
  rw [p_X11_run_b69_eq]
  have lo_a2 := ti_lo a2
  have hi_a2 := ti_hi a2
  have g9 := ti_lo (μ.1 119 0)
  have g9h := ti_hi (μ.1 119 0)
  refine ok_ite ?_ ?_
  · intro c10
    rw [ti_eq] at c10
    refine ok_bw (k_X2_copyFrom 156 shx_156 122 shx_122 μ hI_μ) ?_
    rintro μ11 ⟨hI_μ11, hC_μ11⟩
    have hF_μ11 : Fr [(0, 30, 5), (0, 30, 7), (0, 30, 10), (0, 148, 5), (0, 151, 5), (0, 151, 6), (1, 33, 0), (1, 34, 0), (1, 38, 0), (1, 154, 0), (1, 155, 0), (2, 0, 0), (2, 0, 1), (2, 0, 2), (2, 0, 3), (2, 0, 4), (2, 0, 5), (2, 0, 6), (2, 1, 2), (2, 1, 3), (3, 0, 2)] false μ μ11 := hF_μ.trans (hC_μ11.mono (by decide +kernel) (by decide))
    have hr_μ11 : μ11.2.2 = μ.2.2 := (hC_μ11.2 rfl : μ11.2.2 = μ.2.2).trans hr_μ
    try rw [hr_μ11]
    refine ok_bd (k_X1_about 119 shx_119 a2 μ11 hI_μ11) ?_
    rintro r14 μ13 hq9
    obtain rfl : μ11 = μ13 := hq9
    have lo_r14 := ti_lo r14
    have hi_r14 := ti_hi r14
    try rw [hr_μ11]
    exact ok_some ⟨hI_μ11, hF_μ11⟩
  · intro c10
    rw [ti_eq] at c10
    refine ok_bd (k_X1_about 119 shx_119 a2 μ hI_μ) ?_
    rintro r16 μ15 hq9
    obtain rfl : μ = μ15 := hq9
    have lo_r16 := ti_lo r16
    have hi_r16 := ti_hi r16
    exact ok_some ⟨hI_μ, hF_μ⟩
set_option maxHeartbeats 4000000 in
set_option maxRecDepth 100000 in
theorem k_X11_run (a1 : Int32) (a2 : Int32) (μ : Mem) (hI_μ : IX μ) : ok (p_X11_run a1 a2 μ) (fun q => IX q.2 ∧ Fr [(0, 30, 5), (0, 30, 7), (0, 30, 10), (0, 148, 5), (0, 151, 5), (0, 151, 6), (1, 33, 0), (1, 34, 0), (1, 38, 0), (1, 154, 0), (1, 155, 0), (2, 0, 0), (2, 0, 1), (2, 0, 2), (2, 0, 3), (2, 0, 4), (2, 0, 5), (2, 0, 6), (2, 1, 2), (2, 1, 3), (3, 0, 2)] false μ q.2) := by
  have lim1 : (-1 : Int32).toInt = -1 := by decide
  have li0 : (0 : Int32).toInt = 0 := by decide
  have li1 : (1 : Int32).toInt = 1 := by decide
  have li6 : (6 : Int32).toInt = 6 := by decide
  have hF_μ : Fr [(0, 30, 5), (0, 30, 7), (0, 30, 10), (0, 148, 5), (0, 151, 5), (0, 151, 6), (1, 33, 0), (1, 34, 0), (1, 38, 0), (1, 154, 0), (1, 155, 0), (2, 0, 0), (2, 0, 1), (2, 0, 2), (2, 0, 3), (2, 0, 4), (2, 0, 5), (2, 0, 6), (2, 1, 2), (2, 1, 3), (3, 0, 2)] false μ μ := Fr.rf
  have hr_μ : μ.2.2 = μ.2.2 := rfl
  rw [p_X11_run_eq]
  have lo_a1 := ti_lo a1
  have hi_a1 := ti_hi a1
  have lo_a2 := ti_lo a2
  have hi_a2 := ti_hi a2
  refine ok_ite ?_ ?_
  · intro c1
    rw [ti_lt] at c1
    exact ok_some ⟨hI_μ, hF_μ⟩
  · intro c1
    rw [ti_lt] at c1
    refine ok_ite ?_ ?_
    · intro c2
      rw [ti_le] at c2
      exact ok_some ⟨hI_μ, hF_μ⟩
    · intro c2
      rw [ti_le] at c2
      refine ok_bd (k_X11_canRun a1 μ hI_μ) ?_
      rintro r4 μ3 ⟨hq9, p_r4⟩
      obtain rfl : μ = μ3 := hq9
      dsimp only at p_r4
      have lo_r4 := ti_lo r4
      have hi_r4 := ti_hi r4
      refine ok_ite ?_ ?_
      · intro c5
        rw [ti_eq] at c5
        exact ok_some ⟨hI_μ, hF_μ⟩
      · intro c5
        rw [ti_eq] at c5
        refine ok_ite ?_ ?_
        · intro c6
          rw [ti_eq] at c6
          refine ok_bw (k_X7_runTask (sel 2 (μ.2.2 0 4)) (sel_2 _) (sel 1 (μ.2.2 0 6)) (sel_1 _) (sel 1 (μ.2.2 0 8)) (sel_1 _) 119 shx_119 μ hI_μ) ?_
          rintro μ7 ⟨hI_μ7, hC_μ7⟩
          have hF_μ7 : Fr [(0, 30, 5), (0, 30, 7), (0, 30, 10), (0, 148, 5), (0, 151, 5), (0, 151, 6), (1, 33, 0), (1, 34, 0), (1, 38, 0), (1, 154, 0), (1, 155, 0), (2, 0, 0), (2, 0, 1), (2, 0, 2), (2, 0, 3), (2, 0, 4), (2, 0, 5), (2, 0, 6), (2, 1, 2), (2, 1, 3), (3, 0, 2)] false μ μ7 := hF_μ.trans (hC_μ7.mono (by decide +kernel) (by decide))
          have hr_μ7 : μ7.2.2 = μ7.2.2 := rfl
          exact ok_mono (k_X11_run_b69  a2 μ7 hI_μ7) (fun q h => ⟨h.1, hF_μ7.trans h.2⟩)
        · intro c6
          rw [ti_eq] at c6
          refine ok_bw (k_X6_runResidue (sel 1 (μ.2.2 0 8)) (sel_1 _) 119 shx_119 μ hI_μ) ?_
          rintro μ17 ⟨hI_μ17, hC_μ17⟩
          have hF_μ17 : Fr [(0, 30, 5), (0, 30, 7), (0, 30, 10), (0, 148, 5), (0, 151, 5), (0, 151, 6), (1, 33, 0), (1, 34, 0), (1, 38, 0), (1, 154, 0), (1, 155, 0), (2, 0, 0), (2, 0, 1), (2, 0, 2), (2, 0, 3), (2, 0, 4), (2, 0, 5), (2, 0, 6), (2, 1, 2), (2, 1, 3), (3, 0, 2)] false μ μ17 := hF_μ.trans (hC_μ17.mono (by decide +kernel) (by decide))
          have hr_μ17 : μ17.2.2 = μ17.2.2 := rfl
          exact ok_mono (k_X11_run_b69  a2 μ17 hI_μ17) (fun q h => ⟨h.1, hF_μ17.trans h.2⟩)

set_option maxHeartbeats 4000000 in
set_option maxRecDepth 100000 in
theorem k_X1_keptCount (a0 : Nat) (q0 : sh 0 a0 = (0, 0)) (μ : Mem) (hI_μ : IX μ) : ok (p_X1_keptCount a0 μ) (fun q => μ = q.2 ∧ ((q.1).toInt ≤ 60)) := by
  have li0 : (0 : Int32).toInt = 0 := by decide
  have li1 : (1 : Int32).toInt = 1 := by decide
  have li60 : (60 : Int32).toInt = 60 := by decide
  have hF_μ : Fr [] true μ μ := Fr.rf
  have hr_μ : μ.2.2 = μ.2.2 := rfl
  rw [p_X1_keptCount_eq]
  have g1 := rgc_0_4 q0 hI_μ
  exact ok_some ⟨rfl, by (try dsimp only); (try rw [TI.e (e := (imin (μ.1 a0 4) (60 : Int32))) (n := (min ((μ.1 a0 4).toInt) 60)) (TI.min TI.rf (TI.lit (by decide)))]); omega⟩

set_option maxHeartbeats 4000000 in
set_option maxRecDepth 100000 in
theorem k_X1_aboutOutput (a0 : Nat) (q0 : sh 0 a0 = (0, 0)) (a1 : Int32) (a2 : Int32) (μ : Mem) (hI_μ : IX μ) : ok (p_X1_aboutOutput a0 a1 a2 μ) (fun q => μ = q.2) := by
  have lim1 : (-1 : Int32).toInt = -1 := by decide
  have li0 : (0 : Int32).toInt = 0 := by decide
  have li1 : (1 : Int32).toInt = 1 := by decide
  have hF_μ : Fr [] true μ μ := Fr.rf
  have hr_μ : μ.2.2 = μ.2.2 := rfl
  rw [p_X1_aboutOutput_eq]
  have lo_a1 := ti_lo a1
  have hi_a1 := ti_hi a1
  have lo_a2 := ti_lo a2
  have hi_a2 := ti_hi a2
  refine ok_ite ?_ ?_
  · intro c1
    rw [ti_lt] at c1
    exact ok_some rfl
  · intro c1
    rw [ti_lt] at c1
    refine ok_bd (k_X1_keptCount a0 q0 μ hI_μ) ?_
    rintro r3 μ2 ⟨hq9, p_r3⟩
    obtain rfl : μ = μ2 := hq9
    dsimp only at p_r3
    have lo_r3 := ti_lo r3
    have hi_r3 := ti_hi r3
    refine ok_ite ?_ ?_
    · intro c4
      rw [ti_le] at c4
      exact ok_some rfl
    · intro c4
      rw [ti_le] at c4
      refine ok_ite ?_ ?_
      · intro c5
        rw [ti_lt] at c5
        exact ok_some rfl
      · intro c5
        rw [ti_lt] at c5
        refine ok_ite ?_ ?_
        · intro c6
          rw [ti_le] at c6
          refine ok_ite ?_ ?_
          · intro c7
            rw [ti_eq] at c7
            refine ok_gd (inb_iff.mpr (by omega)) ?_
            exact ok_some rfl
          · intro c7
            rw [ti_eq] at c7
            refine ok_gd (inb_iff.mpr (by omega)) ?_
            exact ok_some rfl
        · intro c6
          rw [ti_le] at c6
          exact ok_some rfl

set_option maxHeartbeats 4000000 in
set_option maxRecDepth 100000 in
theorem k_X11_output (a1 : Int32) (a2 : Int32) (μ : Mem) (hI_μ : IX μ) : ok (p_X11_output a1 a2 μ) (fun q => μ = q.2) := by
  have li0 : (0 : Int32).toInt = 0 := by decide
  have li1 : (1 : Int32).toInt = 1 := by decide
  have hF_μ : Fr [] true μ μ := Fr.rf
  have hr_μ : μ.2.2 = μ.2.2 := rfl
  rw [p_X11_output_eq]
  have lo_a1 := ti_lo a1
  have hi_a1 := ti_hi a1
  have lo_a2 := ti_lo a2
  have hi_a2 := ti_hi a2
  refine ok_bd (k_X1_aboutOutput 119 shx_119 a1 a2 μ hI_μ) ?_
  rintro r2 μ1 hq9
  obtain rfl : μ = μ1 := hq9
  have lo_r2 := ti_lo r2
  have hi_r2 := ti_hi r2
  exact ok_some rfl

set_option maxHeartbeats 4000000 in
set_option maxRecDepth 100000 in
theorem k_X11_place (a1 : Int32) (μ : Mem) (hI_μ : IX μ) : ok (p_X11_place a1 μ) (fun q => μ = q.2) := by
  have li0 : (0 : Int32).toInt = 0 := by decide
  have li1 : (1 : Int32).toInt = 1 := by decide
  have hF_μ : Fr [] true μ μ := Fr.rf
  have hr_μ : μ.2.2 = μ.2.2 := rfl
  rw [p_X11_place_eq]
  have lo_a1 := ti_lo a1
  have hi_a1 := ti_hi a1
  refine ok_bd (k_X1_placeBits 119 shx_119 a1 μ hI_μ) ?_
  rintro r2 μ1 hq9
  obtain rfl : μ = μ1 := hq9
  have lo_r2 := ti_lo r2
  have hi_r2 := ti_hi r2
  exact ok_some rfl

set_option maxHeartbeats 4000000 in
set_option maxRecDepth 100000 in
theorem k_X9_add (a1 : Int32) (μ : Mem) (hI_μ : IX μ) : ok (p_X9_add a1 μ) (fun q => IX q ∧ Fr [(0, 159, 1), (1, 160, 0)] true μ q) := by
  have li0 : (0 : Int32).toInt = 0 := by decide
  have li1 : (1 : Int32).toInt = 1 := by decide
  have li40000 : (40000 : Int32).toInt = 40000 := by decide
  have hF_μ : Fr [(0, 159, 1), (1, 160, 0)] true μ μ := Fr.rf
  have hr_μ : μ.2.2 = μ.2.2 := rfl
  rw [p_X9_add_eq]
  have lo_a1 := ti_lo a1
  have hi_a1 := ti_hi a1
  have g1 := rg_159_1 hI_μ
  refine ok_ite ?_ ?_
  · intro c2
    rw [ti_le] at c2
    exact ok_some ⟨hI_μ, hF_μ⟩
  · intro c2
    rw [ti_le] at c2
    refine ok_gd (inb_iff.mpr (by omega)) ?_
    refine ok_bv (fun μ3 e_μ3 => ?_)
    have hI_μ3 : IX μ3 := by rw [e_μ3]; exact IX_F hI_μ (rta_160 _ _)
    have hF_μ3 : Fr [(0, 159, 1), (1, 160, 0)] true μ μ3 := by rw [e_μ3]; exact Fr.puta hF_μ (by decide +kernel)
    have hr_μ3 : μ3.2.2 = μ.2.2 := (by rw [e_μ3]; rfl : μ3.2.2 = μ.2.2).trans hr_μ
    have g4 := rg_159_1 hI_μ3
    have f5 : (μ3.1 159 1).toInt = (μ.1 159 1).toInt := congrArg Int32.toInt ((by rw [e_μ3]; rfl : μ3.1 159 1 = μ.1 159 1))
    refine ok_bv (fun μ6 e_μ6 => ?_)
    have hI_μ6 : IX μ6 := by rw [e_μ6]; exact IX_F hI_μ3 (rp_159_1 (by (try rw [TI.e (e := ((μ3.1 159 1) + (1 : Int32))) (n := ((μ3.1 159 1).toInt + 1)) (TI.add TI.rf (TI.lit (by decide)) (by omega) (by omega))]); omega))
    have hF_μ6 : Fr [(0, 159, 1), (1, 160, 0)] true μ μ6 := by rw [e_μ6]; exact Fr.put hF_μ3 (by decide +kernel)
    have v_μ6 : (μ6.1 159 1).toInt = ((μ3.1 159 1).toInt + 1) := by rw [e_μ6, sF_v]; exact TI.e (n := ((μ3.1 159 1).toInt + 1)) (TI.add TI.rf (TI.lit (by decide)) (by omega) (by omega))
    have hr_μ6 : μ6.2.2 = μ.2.2 := (by rw [e_μ6]; rfl : μ6.2.2 = μ3.2.2).trans hr_μ3
    exact ok_some ⟨hI_μ6, hF_μ6⟩

set_option maxHeartbeats 4000000 in
set_option maxRecDepth 100000 in
theorem k_X9_addInt_b59 : ∀ (n : Nat) (a2 : Int64) (a4 : Int64) (a6 : Int32) (μ : Mem), IX μ → (0 ≤ (a6).toInt ∧ (a6).toInt ≤ 11 ∧ 11 - (a6).toInt < n) → ok (p_X9_addInt_b59 n a2 a4 a6 μ) (fun q => IX q ∧ Fr [(0, 159, 1), (1, 160, 0)] true μ q) := by
  have li0 : (0 : Int32).toInt = 0 := by decide
  have li1 : (1 : Int32).toInt = 1 := by decide
  have li10 : (10 : Int32).toInt = 10 := by decide
  have li48 : (48 : Int32).toInt = 48 := by decide
  intro n
  induction n with
  | zero => intro a2 a4 a6 μ hI_μ hc; exact absurd hc (by have lo_a6 := ti_lo a6; have hi_a6 := ti_hi a6; omega)
  | succ n ih =>
    intro a2 a4 a6 μ hI_μ hc
    have hF_μ : Fr [(0, 159, 1), (1, 160, 0)] true μ μ := Fr.rf
    have hr_μ : μ.2.2 = μ.2.2 := rfl
    rw [p_X9_addInt_b59_s]
    have lo_a6 := ti_lo a6
    have hi_a6 := ti_hi a6
    refine ok_ite ?_ ?_
    · intro c4
      rw [ti_lt] at c4
      exact ok_some ⟨hI_μ, hF_μ⟩
    · intro c4
      rw [ti_lt] at c4
      refine ok_ite ?_ ?_
      · intro c5
        rw [ti_le] at c5
        exact ok_some ⟨hI_μ, hF_μ⟩
      · intro c5
        rw [ti_le] at c5
        refine ok_gd (nz_pos (by assumption)) ?_
        refine ok_bw (k_X9_add ((48 : Int32) + (((a2 / a4) - (a2 / a4) / (10 : Int64) * (10 : Int64)).toInt32)) μ hI_μ) ?_
        rintro μ7 ⟨hI_μ7, hC_μ7⟩
        have hF_μ7 : Fr [(0, 159, 1), (1, 160, 0)] true μ μ7 := hF_μ.trans (hC_μ7.mono (by decide +kernel) (by decide))
        have hr_μ7 : μ7.2.2 = μ.2.2 := (hC_μ7.2 rfl : μ7.2.2 = μ.2.2).trans hr_μ
        refine ok_bv (fun v9 ev9 => ?_)
        refine ok_bv (fun v10 ev10 => ?_)
        first | have tv10 : v10.toInt = (a6.toInt + 1) := (congrArg Int32.toInt ev10).trans (TI.e (n := (a6.toInt + 1)) (TI.add TI.rf (TI.lit (by decide)) (by omega) (by omega))) | have tv10 : v10.toInt ≤ a6.toInt + 1 := by rw [ev10]; exact ti_inc _ | skip
        exact ok_mono (ih a2 v9 v10 μ7 hI_μ7 (by (try rw [hr_μ7]); omega)) (fun q h => ⟨h.1, hF_μ7.trans h.2⟩)
set_option maxHeartbeats 4000000 in
set_option maxRecDepth 100000 in
theorem k_X9_addInt_b56 (a2 : Int64) (a4 : Int64) (μ : Mem) (hI_μ : IX μ) : ok (p_X9_addInt_b56 a2 a4 μ) (fun q => IX q ∧ Fr [(0, 159, 1), (1, 160, 0)] true μ q) := by
  have li0 : (0 : Int32).toInt = 0 := by decide
  have li1 : (1 : Int32).toInt = 1 := by decide
  have hF_μ : Fr [(0, 159, 1), (1, 160, 0)] true μ μ := Fr.rf
  have hr_μ : μ.2.2 = μ.2.2 := rfl
  rw [p_X9_addInt_b56_eq]
  obtain ⟨fu, hfu0, hfu⟩ := fuel_ex
  rw [hfu0]
  exact ok_mono (k_X9_addInt_b59  fu a2 a4 (0 : Int32) μ hI_μ (by omega)) (fun q h => ⟨h.1, hF_μ.trans h.2⟩)
set_option maxHeartbeats 4000000 in
set_option maxRecDepth 100000 in
theorem k_X9_addInt_b24 : ∀ (n : Nat) (a2 : Int64) (a4 : Int64) (a6 : Int32) (μ : Mem), IX μ → (0 ≤ (a6).toInt ∧ (a6).toInt ≤ 10 ∧ 10 - (a6).toInt < n) → ok (p_X9_addInt_b24 n a2 a4 a6 μ) (fun q => IX q ∧ Fr [(0, 159, 1), (1, 160, 0)] true μ q) := by
  have li0 : (0 : Int32).toInt = 0 := by decide
  have li1 : (1 : Int32).toInt = 1 := by decide
  have li10 : (10 : Int32).toInt = 10 := by decide
  intro n
  induction n with
  | zero => intro a2 a4 a6 μ hI_μ hc; exact absurd hc (by have lo_a6 := ti_lo a6; have hi_a6 := ti_hi a6; omega)
  | succ n ih =>
    intro a2 a4 a6 μ hI_μ hc
    have hF_μ : Fr [(0, 159, 1), (1, 160, 0)] true μ μ := Fr.rf
    have hr_μ : μ.2.2 = μ.2.2 := rfl
    rw [p_X9_addInt_b24_s]
    have lo_a6 := ti_lo a6
    have hi_a6 := ti_hi a6
    refine ok_ite ?_ ?_
    · intro c3
      rw [ti_le] at c3
      exact ok_mono (k_X9_addInt_b56  a2 a4 μ hI_μ) (fun q h => ⟨h.1, hF_μ.trans h.2⟩)
    · intro c3
      rw [ti_le] at c3
      refine ok_ite ?_ ?_
      · intro c11
        rw [ti_lt] at c11
        exact ok_mono (k_X9_addInt_b56  a2 a4 μ hI_μ) (fun q h => ⟨h.1, hF_μ.trans h.2⟩)
      · intro c11
        rw [ti_lt] at c11
        refine ok_bv (fun v12 ev12 => ?_)
        refine ok_bv (fun v13 ev13 => ?_)
        first | have tv13 : v13.toInt = (a6.toInt + 1) := (congrArg Int32.toInt ev13).trans (TI.e (n := (a6.toInt + 1)) (TI.add TI.rf (TI.lit (by decide)) (by omega) (by omega))) | have tv13 : v13.toInt ≤ a6.toInt + 1 := by rw [ev13]; exact ti_inc _ | skip
        exact ok_mono (ih a2 v12 v13 μ hI_μ (by omega)) (fun q h => ⟨h.1, hF_μ.trans h.2⟩)
set_option maxHeartbeats 4000000 in
set_option maxRecDepth 100000 in
theorem k_X9_addInt_b18 (a2 : Int64) (μ : Mem) (hI_μ : IX μ) : ok (p_X9_addInt_b18 a2 μ) (fun q => IX q ∧ Fr [(0, 159, 1), (1, 160, 0)] true μ q) := by
  have li0 : (0 : Int32).toInt = 0 := by decide
  have li1 : (1 : Int32).toInt = 1 := by decide
  have hF_μ : Fr [(0, 159, 1), (1, 160, 0)] true μ μ := Fr.rf
  have hr_μ : μ.2.2 = μ.2.2 := rfl
  rw [p_X9_addInt_b18_eq]
  obtain ⟨fu, hfu0, hfu⟩ := fuel_ex
  rw [hfu0]
  exact ok_mono (k_X9_addInt_b24  fu a2 (1 : Int64) (0 : Int32) μ hI_μ (by omega)) (fun q h => ⟨h.1, hF_μ.trans h.2⟩)
set_option maxHeartbeats 4000000 in
set_option maxRecDepth 100000 in
theorem k_X9_addInt (a1 : Int32) (μ : Mem) (hI_μ : IX μ) : ok (p_X9_addInt a1 μ) (fun q => IX q ∧ Fr [(0, 159, 1), (1, 160, 0)] true μ q) := by
  have li0 : (0 : Int32).toInt = 0 := by decide
  have li1 : (1 : Int32).toInt = 1 := by decide
  have li45 : (45 : Int32).toInt = 45 := by decide
  have hF_μ : Fr [(0, 159, 1), (1, 160, 0)] true μ μ := Fr.rf
  have hr_μ : μ.2.2 = μ.2.2 := rfl
  rw [p_X9_addInt_eq]
  have lo_a1 := ti_lo a1
  have hi_a1 := ti_hi a1
  refine ok_bv (fun v1 ev1 => ?_)
  refine ok_ite ?_ ?_
  · intro c2
    rw [ti_le] at c2
    exact ok_mono (k_X9_addInt_b18  v1 μ hI_μ) (fun q h => ⟨h.1, hF_μ.trans h.2⟩)
  · intro c2
    rw [ti_le] at c2
    refine ok_bw (k_X9_add (45 : Int32) μ hI_μ) ?_
    rintro μ14 ⟨hI_μ14, hC_μ14⟩
    have hF_μ14 : Fr [(0, 159, 1), (1, 160, 0)] true μ μ14 := hF_μ.trans (hC_μ14.mono (by decide +kernel) (by decide))
    have hr_μ14 : μ14.2.2 = μ.2.2 := (hC_μ14.2 rfl : μ14.2.2 = μ.2.2).trans hr_μ
    refine ok_bv (fun v16 ev16 => ?_)
    exact ok_mono (k_X9_addInt_b18  v16 μ14 hI_μ14) (fun q h => ⟨h.1, hF_μ14.trans h.2⟩)

set_option maxHeartbeats 4000000 in
set_option maxRecDepth 100000 in
theorem k_X9_addSymbol (a1 : Int64) (μ : Mem) (hI_μ : IX μ) : ok (p_X9_addSymbol a1 μ) (fun q => IX q ∧ Fr [(0, 159, 1), (1, 160, 0)] true μ q) := by
  have li0 : (0 : Int32).toInt = 0 := by decide
  have li1 : (1 : Int32).toInt = 1 := by decide
  have li3 : (3 : Int32).toInt = 3 := by decide
  have li4 : (4 : Int32).toInt = 4 := by decide
  have li42 : (42 : Int32).toInt = 42 := by decide
  have li102 : (102 : Int32).toInt = 102 := by decide
  have li114 : (114 : Int32).toInt = 114 := by decide
  have hF_μ : Fr [(0, 159, 1), (1, 160, 0)] true μ μ := Fr.rf
  have hr_μ : μ.2.2 = μ.2.2 := rfl
  rw [p_X9_addSymbol_eq]
  refine ok_bv (fun v1 ev1 => ?_)
  have tv1 : v1.toInt = (s_X0_kind a1).toInt := congrArg Int32.toInt ev1
  refine ok_ite ?_ ?_
  · intro c2
    rw [ti_eq] at c2
    refine ok_bw (k_X9_add (42 : Int32) μ hI_μ) ?_
    rintro μ3 ⟨hI_μ3, hC_μ3⟩
    have hF_μ3 : Fr [(0, 159, 1), (1, 160, 0)] true μ μ3 := hF_μ.trans (hC_μ3.mono (by decide +kernel) (by decide))
    have hr_μ3 : μ3.2.2 = μ.2.2 := (hC_μ3.2 rfl : μ3.2.2 = μ.2.2).trans hr_μ
    exact ok_some ⟨hI_μ3, hF_μ3⟩
  · intro c2
    rw [ti_eq] at c2
    refine ok_ite ?_ ?_
    · intro c5
      rw [ti_eq] at c5
      refine ok_bw (k_X9_add (102 : Int32) μ hI_μ) ?_
      rintro μ6 ⟨hI_μ6, hC_μ6⟩
      have hF_μ6 : Fr [(0, 159, 1), (1, 160, 0)] true μ μ6 := hF_μ.trans (hC_μ6.mono (by decide +kernel) (by decide))
      have hr_μ6 : μ6.2.2 = μ.2.2 := (hC_μ6.2 rfl : μ6.2.2 = μ.2.2).trans hr_μ
      refine ok_bw (k_X9_addInt (s_X0_bits a1) μ6 hI_μ6) ?_
      rintro μ8 ⟨hI_μ8, hC_μ8⟩
      have hF_μ8 : Fr [(0, 159, 1), (1, 160, 0)] true μ μ8 := hF_μ6.trans (hC_μ8.mono (by decide +kernel) (by decide))
      have hr_μ8 : μ8.2.2 = μ.2.2 := (hC_μ8.2 rfl : μ8.2.2 = μ6.2.2).trans hr_μ6
      exact ok_some ⟨hI_μ8, hF_μ8⟩
    · intro c5
      rw [ti_eq] at c5
      refine ok_ite ?_ ?_
      · intro c10
        rw [ti_eq] at c10
        refine ok_bw (k_X9_add (114 : Int32) μ hI_μ) ?_
        rintro μ11 ⟨hI_μ11, hC_μ11⟩
        have hF_μ11 : Fr [(0, 159, 1), (1, 160, 0)] true μ μ11 := hF_μ.trans (hC_μ11.mono (by decide +kernel) (by decide))
        have hr_μ11 : μ11.2.2 = μ.2.2 := (hC_μ11.2 rfl : μ11.2.2 = μ.2.2).trans hr_μ
        refine ok_bw (k_X9_addInt (s_X0_bits a1) μ11 hI_μ11) ?_
        rintro μ13 ⟨hI_μ13, hC_μ13⟩
        have hF_μ13 : Fr [(0, 159, 1), (1, 160, 0)] true μ μ13 := hF_μ11.trans (hC_μ13.mono (by decide +kernel) (by decide))
        have hr_μ13 : μ13.2.2 = μ.2.2 := (hC_μ13.2 rfl : μ13.2.2 = μ11.2.2).trans hr_μ11
        exact ok_some ⟨hI_μ13, hF_μ13⟩
      · intro c10
        rw [ti_eq] at c10
        refine ok_bw (k_X9_addInt (s_X0_bits a1) μ hI_μ) ?_
        rintro μ15 ⟨hI_μ15, hC_μ15⟩
        have hF_μ15 : Fr [(0, 159, 1), (1, 160, 0)] true μ μ15 := hF_μ.trans (hC_μ15.mono (by decide +kernel) (by decide))
        have hr_μ15 : μ15.2.2 = μ.2.2 := (hC_μ15.2 rfl : μ15.2.2 = μ.2.2).trans hr_μ
        exact ok_some ⟨hI_μ15, hF_μ15⟩

set_option maxHeartbeats 4000000 in
set_option maxRecDepth 100000 in
theorem k_X9_addPart {nE : Nat} (RE : Nat → Int32 → Int32 → Mem → Option (Int32 × Mem)) (hRE : ∀ (z1 : Nat) (w1 : sh 0 z1 = (0, 1)) (z2 : Int32) (z3 : Int32) (μ1 : Mem), IX μ1 → (0 ≤ (z3).toInt ∧ (z3).toInt ≤ 46 ∧ 46 - (z3).toInt < nE) → ok (RE z1 z2 z3 μ1) (fun q => IX q.2 ∧ Fr [(0, 159, 1), (1, 160, 0)] true μ1 q.2)) (a1 : Nat) (q1 : sh 0 a1 = (0, 1)) (a2 : Int32) (a3 : Int32) (μ : Mem) (hI_μ : IX μ) (hc : 0 ≤ (a3).toInt ∧ (a3).toInt ≤ 46 ∧ 46 - (a3).toInt < nE + 1) : ok (p_X9_addPart RE a1 a2 a3 μ) (fun q => IX q.2 ∧ Fr [(0, 159, 1), (1, 160, 0)] true μ q.2) := by
  have li0 : (0 : Int32).toInt = 0 := by decide
  have li1 : (1 : Int32).toInt = 1 := by decide
  have li44 : (44 : Int32).toInt = 44 := by decide
  have li45 : (45 : Int32).toInt = 45 := by decide
  have li91 : (91 : Int32).toInt = 91 := by decide
  have li93 : (93 : Int32).toInt = 93 := by decide
  have hF_μ : Fr [(0, 159, 1), (1, 160, 0)] true μ μ := Fr.rf
  have hr_μ : μ.2.2 = μ.2.2 := rfl
  rw [p_X9_addPart_eq]
  have lo_a2 := ti_lo a2
  have hi_a2 := ti_hi a2
  have lo_a3 := ti_lo a3
  have hi_a3 := ti_hi a3
  refine ok_ite ?_ ?_
  · intro c1
    rw [ti_lt] at c1
    exact ok_some ⟨hI_μ, hF_μ⟩
  · intro c1
    rw [ti_lt] at c1
    have g2 := rgp q1 hI_μ
    refine ok_ite ?_ ?_
    · intro c3
      rw [ti_le] at c3
      exact ok_some ⟨hI_μ, hF_μ⟩
    · intro c3
      rw [ti_le] at c3
      refine ok_ite ?_ ?_
      · intro c4
        rw [ti_le] at c4
        refine ok_gd (inb_iff.mpr (by omega)) ?_
        refine ok_ite ?_ ?_
        · intro c5
          rw [ti_eq] at c5
          refine ok_bw (k_X9_add (91 : Int32) μ hI_μ) ?_
          rintro μ6 ⟨hI_μ6, hC_μ6⟩
          have hF_μ6 : Fr [(0, 159, 1), (1, 160, 0)] true μ μ6 := hF_μ.trans (hC_μ6.mono (by decide +kernel) (by decide))
          have hr_μ6 : μ6.2.2 = μ.2.2 := (hC_μ6.2 rfl : μ6.2.2 = μ.2.2).trans hr_μ
          refine ok_bd (hRE a1 q1 (a2 + (1 : Int32)) (a3 + (1 : Int32)) μ6 hI_μ6 (by (try rw [hr_μ6]); (try rw [TI.e (e := (a2 + (1 : Int32))) (n := (a2.toInt + 1)) (TI.add TI.rf (TI.lit (by decide)) (by omega) (by omega))]); (try rw [TI.e (e := (a3 + (1 : Int32))) (n := (a3.toInt + 1)) (TI.add TI.rf (TI.lit (by decide)) (by omega) (by omega))]); omega)) ?_
          rintro r9 μ8 ⟨hI_μ8, hC_μ8⟩
          have hI_μ8 : IX μ8 := hI_μ8
          have hC_μ8 : Fr [(0, 159, 1), (1, 160, 0)] true μ6 μ8 := hC_μ8
          have lo_r9 := ti_lo r9
          have hi_r9 := ti_hi r9
          have hF_μ8 : Fr [(0, 159, 1), (1, 160, 0)] true μ μ8 := hF_μ6.trans (hC_μ8.mono (by decide +kernel) (by decide))
          have hr_μ8 : μ8.2.2 = μ.2.2 := (hC_μ8.2 rfl : μ8.2.2 = μ6.2.2).trans hr_μ6
          refine ok_bw (k_X9_add (44 : Int32) μ8 hI_μ8) ?_
          rintro μ10 ⟨hI_μ10, hC_μ10⟩
          have hF_μ10 : Fr [(0, 159, 1), (1, 160, 0)] true μ μ10 := hF_μ8.trans (hC_μ10.mono (by decide +kernel) (by decide))
          have hr_μ10 : μ10.2.2 = μ.2.2 := (hC_μ10.2 rfl : μ10.2.2 = μ8.2.2).trans hr_μ8
          refine ok_bd (hRE a1 q1 r9 (a3 + (1 : Int32)) μ10 hI_μ10 (by (try rw [hr_μ10]); (try rw [TI.e (e := (a3 + (1 : Int32))) (n := (a3.toInt + 1)) (TI.add TI.rf (TI.lit (by decide)) (by omega) (by omega))]); omega)) ?_
          rintro r13 μ12 ⟨hI_μ12, hC_μ12⟩
          have hI_μ12 : IX μ12 := hI_μ12
          have hC_μ12 : Fr [(0, 159, 1), (1, 160, 0)] true μ10 μ12 := hC_μ12
          have lo_r13 := ti_lo r13
          have hi_r13 := ti_hi r13
          have hF_μ12 : Fr [(0, 159, 1), (1, 160, 0)] true μ μ12 := hF_μ10.trans (hC_μ12.mono (by decide +kernel) (by decide))
          have hr_μ12 : μ12.2.2 = μ.2.2 := (hC_μ12.2 rfl : μ12.2.2 = μ10.2.2).trans hr_μ10
          refine ok_bw (k_X9_add (93 : Int32) μ12 hI_μ12) ?_
          rintro μ14 ⟨hI_μ14, hC_μ14⟩
          have hF_μ14 : Fr [(0, 159, 1), (1, 160, 0)] true μ μ14 := hF_μ12.trans (hC_μ14.mono (by decide +kernel) (by decide))
          have hr_μ14 : μ14.2.2 = μ.2.2 := (hC_μ14.2 rfl : μ14.2.2 = μ12.2.2).trans hr_μ12
          exact ok_some ⟨hI_μ14, hF_μ14⟩
        · intro c5
          rw [ti_eq] at c5
          refine ok_gd (inb_iff.mpr (by omega)) ?_
          refine ok_bw (k_X9_addSymbol (μ.2.1 (a1 + 1) a2.toNatClampNeg) μ hI_μ) ?_
          rintro μ16 ⟨hI_μ16, hC_μ16⟩
          have hF_μ16 : Fr [(0, 159, 1), (1, 160, 0)] true μ μ16 := hF_μ.trans (hC_μ16.mono (by decide +kernel) (by decide))
          have hr_μ16 : μ16.2.2 = μ.2.2 := (hC_μ16.2 rfl : μ16.2.2 = μ.2.2).trans hr_μ
          exact ok_some ⟨hI_μ16, hF_μ16⟩
      · intro c4
        rw [ti_le] at c4
        exact ok_some ⟨hI_μ, hF_μ⟩
theorem kr_X9_addPart : ∀ (n : Nat) (a1 : Nat) (q1 : sh 0 a1 = (0, 1)) (a2 : Int32) (a3 : Int32) (μ : Mem), IX μ → (0 ≤ (a3).toInt ∧ (a3).toInt ≤ 46 ∧ 46 - (a3).toInt < n) → ok (pr_X9_addPart n a1 a2 a3 μ) (fun q => IX q.2 ∧ Fr [(0, 159, 1), (1, 160, 0)] true μ q.2) := by
  intro n
  induction n with
  | zero => intro a1 q1 a2 a3 μ hI hc; exact absurd hc (by omega)
  | succ n ih =>
    intro a1 q1 a2 a3 μ hI hc
    rw [pr_X9_addPart_s]
    exact k_X9_addPart (nE := n) (pr_X9_addPart n) ih a1 q1 a2 a3 μ hI (by omega)

set_option maxHeartbeats 4000000 in
set_option maxRecDepth 100000 in
theorem k_X9_writeValue (a1 : Nat) (q1 : sh 0 a1 = (0, 1)) (μ : Mem) (hI_μ : IX μ) : ok (p_X9_writeValue a1 μ) (fun q => IX q.2 ∧ Fr [(0, 159, 1), (1, 160, 0)] true μ q.2) := by
  have li0 : (0 : Int32).toInt = 0 := by decide
  have li1 : (1 : Int32).toInt = 1 := by decide
  have hF_μ : Fr [(0, 159, 1), (1, 160, 0)] true μ μ := Fr.rf
  have hr_μ : μ.2.2 = μ.2.2 := rfl
  rw [p_X9_writeValue_eq]
  refine ok_bv (fun μ1 e_μ1 => ?_)
  have hI_μ1 : IX μ1 := by rw [e_μ1]; exact IX_F hI_μ (rp_159_1 (by omega))
  have hF_μ1 : Fr [(0, 159, 1), (1, 160, 0)] true μ μ1 := by rw [e_μ1]; exact Fr.put hF_μ (by decide +kernel)
  have v_μ1 : (μ1.1 159 1).toInt = 0 := by rw [e_μ1, sF_v]; exact TI.e (n := 0) (TI.lit (by decide))
  have hr_μ1 : μ1.2.2 = μ.2.2 := (by rw [e_μ1]; rfl : μ1.2.2 = μ.2.2).trans hr_μ
  refine ok_bd (kr_X9_addPart 50 a1 q1 (0 : Int32) (0 : Int32) μ1 hI_μ1 (by (try rw [hr_μ1]); omega)) ?_
  rintro r3 μ2 ⟨hI_μ2, hC_μ2⟩
  have hI_μ2 : IX μ2 := hI_μ2
  have hC_μ2 : Fr [(0, 159, 1), (1, 160, 0)] true μ1 μ2 := hC_μ2
  have lo_r3 := ti_lo r3
  have hi_r3 := ti_hi r3
  have hF_μ2 : Fr [(0, 159, 1), (1, 160, 0)] true μ μ2 := hF_μ1.trans (hC_μ2.mono (by decide +kernel) (by decide))
  have hr_μ2 : μ2.2.2 = μ.2.2 := (hC_μ2.2 rfl : μ2.2.2 = μ1.2.2).trans hr_μ1
  have g4 := rg_159_1 hI_μ2
  exact ok_some ⟨hI_μ2, hF_μ2⟩
