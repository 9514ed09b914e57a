set_option maxHeartbeats 4000000 in
set_option maxRecDepth 100000 in
theorem k_X12_readVars_b160 {n46 : Nat} (K46 : Int32 → Int32 → Mem → Option (Int32 × Mem)) (hK46 : ∀ (z1 : Int32) (z2 : Int32) (μ1 : Mem), IM μ1 → (0 ≤ (z1).toInt ∧ ((z2).toInt = 0 ∨ (z1).toInt < 5) ∧ (z1).toInt ≤ 5 ∧ 6 - (z1).toInt < n46) → ok (K46 z1 z2 μ1) (fun q => IM q.2 ∧ Fr [(0, 0, 4), (0, 0, 5), (1, 12, 0), (1, 13, 0), (1, 21, 0)] true μ1 q.2 ∧ (((q.1).toInt = 0 ∨ (q.1).toInt = 1) ∧ (μ1.1 0 4).toInt ≤ (q.2.1 0 4).toInt))) (a1 : Int32) (a2 : Int32) (μ : Mem) (hI_μ : IM μ) (hc : 0 ≤ (a1).toInt ∧ (a1).toInt ≤ 5 ∧ ((a2).toInt = 0 ∨ (a1).toInt < 5) ∧ 6 - (a1).toInt < n46) : ok (p_X12_readVars_b160 K46 a1 a2 μ) (fun q => IM q.2 ∧ Fr [(0, 0, 4), (0, 0, 5), (1, 12, 0), (1, 13, 0), (1, 21, 0)] true μ q.2 ∧ (((q.1).toInt = 0 ∨ (q.1).toInt = 1) ∧ (μ.1 0 4).toInt ≤ (q.2.1 0 4).toInt)) := by
  have li0 : (0 : Int32).toInt = 0 := by decide
  have li1 : (1 : Int32).toInt = 1 := by decide
  have hF_μ : Fr [(0, 0, 4), (0, 0, 5), (1, 12, 0), (1, 13, 0), (1, 21, 0)] true μ μ := Fr.rf
  have hr_μ : μ.2.2 = μ.2.2 := rfl
  rw [p_X12_readVars_b160_eq]
  have lo_a1 := ti_lo a1
  have hi_a1 := ti_hi a1
  have lo_a2 := ti_lo a2
  have hi_a2 := ti_hi a2
  have g49 := rgm_0_4 hI_μ
  exact ok_mono (hK46 a1 a2 μ hI_μ (by omega)) (fun q h => ⟨h.1, hF_μ.trans h.2.1, by have h9 := h.2.2; (try dsimp only at h9 ⊢); omega⟩)
set_option maxHeartbeats 4000000 in
set_option maxRecDepth 100000 in
theorem k_X12_readVars_b145 {n46 : Nat} (K46 : Int32 → Int32 → Mem → Option (Int32 × Mem)) (hK46 : ∀ (z1 : Int32) (z2 : Int32) (μ1 : Mem), IM μ1 → (0 ≤ (z1).toInt ∧ ((z2).toInt = 0 ∨ (z1).toInt < 5) ∧ (z1).toInt ≤ 5 ∧ 6 - (z1).toInt < n46) → ok (K46 z1 z2 μ1) (fun q => IM q.2 ∧ Fr [(0, 0, 4), (0, 0, 5), (1, 12, 0), (1, 13, 0), (1, 21, 0)] true μ1 q.2 ∧ (((q.1).toInt = 0 ∨ (q.1).toInt = 1) ∧ (μ1.1 0 4).toInt ≤ (q.2.1 0 4).toInt))) (a1 : Int32) (k0 : Int32) (μ : Mem) (hI_μ : IM μ) (hc : 0 ≤ (a1).toInt ∧ (a1).toInt ≤ 5 ∧ 6 - (a1).toInt < n46 ∧ ((k0).toInt = 0 ∨ ((a1).toInt < 5 ∧ (μ.1 0 4).toInt < (μ.1 0 3).toInt))) : ok (p_X12_readVars_b145 K46 a1 k0 μ) (fun q => IM q.2 ∧ Fr [(0, 0, 4), (0, 0, 5), (1, 12, 0), (1, 13, 0), (1, 21, 0)] true μ q.2 ∧ (((q.1).toInt = 0 ∨ (q.1).toInt = 1) ∧ (μ.1 0 4).toInt ≤ (q.2.1 0 4).toInt)) := by
  have li0 : (0 : Int32).toInt = 0 := by decide
  have li1 : (1 : Int32).toInt = 1 := by decide
  have hF_μ : Fr [(0, 0, 4), (0, 0, 5), (1, 12, 0), (1, 13, 0), (1, 21, 0)] true μ μ := Fr.rf
  have hr_μ : μ.2.2 = μ.2.2 := rfl
  rw [p_X12_readVars_b145_eq]
  have lo_a1 := ti_lo a1
  have hi_a1 := ti_hi a1
  have lo_k0 := ti_lo k0
  have hi_k0 := ti_hi k0
  have g46 := rgm_0_4 hI_μ
  have g47 := rgm_0_3 hI_μ
  refine ok_ite ?_ ?_
  · intro c48
    rw [ti_eq] at c48
    exact ok_mono (k_X12_readVars_b160 _ hK46 a1 k0 μ hI_μ (by omega)) (fun q h => ⟨h.1, hF_μ.trans h.2.1, by have h9 := h.2.2; (try dsimp only at h9 ⊢); omega⟩)
  · intro c48
    rw [ti_eq] at c48
    refine ok_bv (fun μ50 e_μ50 => ?_)
    have hI_μ50 : IM μ50 := by rw [e_μ50]; exact IM_F hI_μ (rpm_0_4 (by (try rw [TI.e (e := ((μ.1 0 4) + (1 : Int32))) (n := ((μ.1 0 4).toInt + 1)) (TI.add TI.rf (TI.lit (by decide)) (by omega) (by omega))]); omega))
    have hF_μ50 : Fr [(0, 0, 4), (0, 0, 5), (1, 12, 0), (1, 13, 0), (1, 21, 0)] true μ μ50 := by rw [e_μ50]; exact Fr.put hF_μ (by decide +kernel)
    have v_μ50 : (μ50.1 0 4).toInt = ((μ.1 0 4).toInt + 1) := by rw [e_μ50, sF_v]; exact TI.e (n := ((μ.1 0 4).toInt + 1)) (TI.add TI.rf (TI.lit (by decide)) (by omega) (by omega))
    have hr_μ50 : μ50.2.2 = μ.2.2 := (by rw [e_μ50]; rfl : μ50.2.2 = μ.2.2).trans hr_μ
    have g51 := rgm_0_4 hI_μ50
    exact ok_mono (k_X12_readVars_b160 _ hK46 a1 k0 μ50 hI_μ50 (by (try rw [hr_μ50]); omega)) (fun q h => ⟨h.1, hF_μ50.trans h.2.1, by have h9 := h.2.2; (try dsimp only at h9 ⊢); omega⟩)
set_option maxHeartbeats 4000000 in
set_option maxRecDepth 100000 in
theorem k_X12_readVars_b144 {n46 : Nat} (K46 : Int32 → Int32 → Mem → Option (Int32 × Mem)) (hK46 : ∀ (z1 : Int32) (z2 : Int32) (μ1 : Mem), IM μ1 → (0 ≤ (z1).toInt ∧ ((z2).toInt = 0 ∨ (z1).toInt < 5) ∧ (z1).toInt ≤ 5 ∧ 6 - (z1).toInt < n46) → ok (K46 z1 z2 μ1) (fun q => IM q.2 ∧ Fr [(0, 0, 4), (0, 0, 5), (1, 12, 0), (1, 13, 0), (1, 21, 0)] true μ1 q.2 ∧ (((q.1).toInt = 0 ∨ (q.1).toInt = 1) ∧ (μ1.1 0 4).toInt ≤ (q.2.1 0 4).toInt))) (a1 : Int32) (μ : Mem) (hI_μ : IM μ) (hc : 0 ≤ (a1).toInt ∧ (a1).toInt ≤ 5 ∧ 6 - (a1).toInt < n46) : ok (p_X12_readVars_b144 K46 a1 μ) (fun q => IM q.2 ∧ Fr [(0, 0, 4), (0, 0, 5), (1, 12, 0), (1, 13, 0), (1, 21, 0)] true μ q.2 ∧ (((q.1).toInt = 0 ∨ (q.1).toInt = 1) ∧ (μ.1 0 4).toInt ≤ (q.2.1 0 4).toInt)) := by
  have li0 : (0 : Int32).toInt = 0 := by decide
  have li1 : (1 : Int32).toInt = 1 := by decide
  have hF_μ : Fr [(0, 0, 4), (0, 0, 5), (1, 12, 0), (1, 13, 0), (1, 21, 0)] true μ μ := Fr.rf
  have hr_μ : μ.2.2 = μ.2.2 := rfl
  rw [p_X12_readVars_b144_eq]
  have lo_a1 := ti_lo a1
  have hi_a1 := ti_hi a1
  have g45 := rgm_0_4 hI_μ
  have g52 := rgm_0_3 hI_μ
  exact ok_mono (k_X12_readVars_b145 _ hK46 a1 (0 : Int32) μ hI_μ (by omega)) (fun q h => ⟨h.1, hF_μ.trans h.2.1, by have h9 := h.2.2; (try dsimp only at h9 ⊢); omega⟩)
set_option maxHeartbeats 4000000 in
set_option maxRecDepth 100000 in
theorem k_X12_readVars_b46 : ∀ (n : Nat) (a1 : Int32) (a2 : Int32) (μ : Mem), IM μ → (0 ≤ (a1).toInt ∧ ((a2).toInt = 0 ∨ (a1).toInt < 5) ∧ (a1).toInt ≤ 5 ∧ 6 - (a1).toInt < n) → ok (p_X12_readVars_b46 n a1 a2 μ) (fun q => IM q.2 ∧ Fr [(0, 0, 4), (0, 0, 5), (1, 12, 0), (1, 13, 0), (1, 21, 0)] true μ q.2 ∧ (((q.1).toInt = 0 ∨ (q.1).toInt = 1) ∧ (μ.1 0 4).toInt ≤ (q.2.1 0 4).toInt)) := by
  have li0 : (0 : Int32).toInt = 0 := by decide
  have li1 : (1 : Int32).toInt = 1 := by decide
  have li5 : (5 : Int32).toInt = 5 := by decide
  have li44 : (44 : Int32).toInt = 44 := by decide
  have li109 : (109 : Int32).toInt = 109 := by decide
  intro n
  induction n with
  | zero => intro a1 a2 μ hI_μ hc; exact absurd hc (by have lo_a1 := ti_lo a1; have hi_a1 := ti_hi a1; have lo_a2 := ti_lo a2; have hi_a2 := ti_hi a2; omega)
  | succ n ih =>
    intro a1 a2 μ hI_μ hc
    have hF_μ : Fr [(0, 0, 4), (0, 0, 5), (1, 12, 0), (1, 13, 0), (1, 21, 0)] true μ μ := Fr.rf
    have hr_μ : μ.2.2 = μ.2.2 := rfl
    rw [p_X12_readVars_b46_s]
    have lo_a1 := ti_lo a1
    have hi_a1 := ti_hi a1
    have lo_a2 := ti_lo a2
    have hi_a2 := ti_hi a2
    have g12 := rgm_0_4 hI_μ
    refine ok_ite ?_ ?_
    · intro c13
      rw [ti_eq] at c13
      have g14 := rgm_0_27 hI_μ
      refine ok_gd (inb_iff.mpr (by omega)) ?_
      refine ok_bv (fun μ15 e_μ15 => ?_)
      have hI_μ15 : IM μ15 := by rw [e_μ15]; exact IM_F hI_μ (rtma_12 _ _)
      have hF_μ15 : Fr [(0, 0, 4), (0, 0, 5), (1, 12, 0), (1, 13, 0), (1, 21, 0)] true μ μ15 := by rw [e_μ15]; exact Fr.puta hF_μ (by decide +kernel)
      have hr_μ15 : μ15.2.2 = μ.2.2 := (by rw [e_μ15]; rfl : μ15.2.2 = μ.2.2).trans hr_μ
      have g16 := rgm_0_4 hI_μ15
      have f17 : (μ15.1 0 4).toInt = (μ.1 0 4).toInt := congrArg Int32.toInt ((by rw [e_μ15]; rfl : μ15.1 0 4 = μ.1 0 4))
      exact ok_some ⟨hI_μ15, hF_μ15, by (try dsimp only); (try rw [hr_μ15]); omega⟩
    · intro c13
      rw [ti_eq] at c13
      have g20 := rgm_0_3 hI_μ
      refine ok_bd (k_X12_here  μ hI_μ) ?_
      rintro r19 μ18 ⟨hq9, p_r19⟩
      obtain rfl : μ = μ18 := hq9
      dsimp only at p_r19
      have lo_r19 := ti_lo r19
      have hi_r19 := ti_hi r19
      refine ok_ite ?_ ?_
      · intro c21
        rw [ti_eq] at c21
        have y22 := tf_isVarLetter r19
        refine ok_bd (k_X12_fails (μ.1 0 4) μ hI_μ) ?_
        rintro r24 μ23 ⟨hI_μ23, hC_μ23, p_μ23⟩
        have hI_μ23 : IM μ23 := hI_μ23
        have hC_μ23 : Fr [(0, 0, 5)] true μ μ23 := hC_μ23
        dsimp only at p_μ23
        have lo_r24 := ti_lo r24
        have hi_r24 := ti_hi r24
        have hF_μ23 : Fr [(0, 0, 4), (0, 0, 5), (1, 12, 0), (1, 13, 0), (1, 21, 0)] true μ μ23 := hF_μ.trans (hC_μ23.mono (by decide +kernel) (by decide))
        have hr_μ23 : μ23.2.2 = μ.2.2 := (hC_μ23.2 rfl : μ23.2.2 = μ.2.2).trans hr_μ
        refine ok_gd (isB_of (by omega)) ?_
        have g25 := rgm_0_4 hI_μ23
        have f26 : (μ23.1 0 4).toInt = (μ.1 0 4).toInt := congrArg Int32.toInt (hC_μ23.1 0 4 (by decide +kernel))
        exact ok_some ⟨hI_μ23, hF_μ23, by (try dsimp only); (try rw [hr_μ23]); omega⟩
      · intro c21
        rw [ti_eq] at c21
        have y28 := tf_isVarLetter r19
        refine ok_gd (inb_iff.mpr (by (try rw [TI.e (e := (r19 - (109 : Int32))) (n := (r19.toInt - 109)) (TI.sub TI.rf (TI.lit (by decide)) (by omega) (by omega))]); omega)) ?_
        refine ok_ite ?_ ?_
        · intro c29
          rw [ti_le] at c29
          refine ok_bv (fun v30 ev30 => ?_)
          first | have tv30 : v30.toInt = (r19.toInt - 109) := (congrArg Int32.toInt ev30).trans (TI.e (n := (r19.toInt - 109)) (TI.sub TI.rf (TI.lit (by decide)) (by omega) (by omega))) | skip
          refine ok_gd (inb_iff.mpr (by omega)) ?_
          refine ok_gd (inb_iff.mpr (by omega)) ?_
          refine ok_bv (fun μ31 e_μ31 => ?_)
          have hI_μ31 : IM μ31 := by rw [e_μ31]; exact IM_F hI_μ (rtma_21 _ _)
          have hF_μ31 : Fr [(0, 0, 4), (0, 0, 5), (1, 12, 0), (1, 13, 0), (1, 21, 0)] true μ μ31 := by rw [e_μ31]; exact Fr.puta hF_μ (by decide +kernel)
          have hr_μ31 : μ31.2.2 = μ.2.2 := (by rw [e_μ31]; rfl : μ31.2.2 = μ.2.2).trans hr_μ
          have g32 := rgm_0_27 hI_μ31
          refine ok_gd (inb_iff.mpr (by (try rw [TI.e (e := (((5 : Int32) * (μ31.1 0 27)) + a1)) (n := ((5 * (μ31.1 0 27).toInt) + a1.toInt)) (TI.add (TI.mul (TI.lit (by decide)) TI.rf (by omega) (by omega)) TI.rf (by omega) (by omega))]); omega)) ?_
          refine ok_bv (fun μ33 e_μ33 => ?_)
          have hI_μ33 : IM μ33 := by rw [e_μ33]; exact IM_F hI_μ31 (rtma_13 _ _)
          have hF_μ33 : Fr [(0, 0, 4), (0, 0, 5), (1, 12, 0), (1, 13, 0), (1, 21, 0)] true μ μ33 := by rw [e_μ33]; exact Fr.puta hF_μ31 (by decide +kernel)
          have hr_μ33 : μ33.2.2 = μ.2.2 := (by rw [e_μ33]; rfl : μ33.2.2 = μ31.2.2).trans hr_μ31
          refine ok_bv (fun v34 ev34 => ?_)
          first | have tv34 : v34.toInt = (a1.toInt + 1) := (congrArg Int32.toInt ev34).trans (TI.e (n := (a1.toInt + 1)) (TI.add TI.rf (TI.lit (by decide)) (by omega) (by omega))) | have tv34 : v34.toInt ≤ a1.toInt + 1 := by rw [ev34]; exact ti_inc _ | skip
          have g35 := rgm_0_4 hI_μ33
          have f36 : (μ33.1 0 4).toInt = (μ.1 0 4).toInt := congrArg Int32.toInt (((by rw [e_μ33]; rfl : μ33.1 0 4 = μ31.1 0 4)).trans ((by rw [e_μ31]; rfl : μ31.1 0 4 = μ.1 0 4)))
          refine ok_bv (fun μ37 e_μ37 => ?_)
          have hI_μ37 : IM μ37 := by rw [e_μ37]; exact IM_F hI_μ33 (rpm_0_4 (by (try rw [TI.e (e := ((μ33.1 0 4) + (1 : Int32))) (n := ((μ33.1 0 4).toInt + 1)) (TI.add TI.rf (TI.lit (by decide)) (by omega) (by omega))]); omega))
          have hF_μ37 : Fr [(0, 0, 4), (0, 0, 5), (1, 12, 0), (1, 13, 0), (1, 21, 0)] true μ μ37 := by rw [e_μ37]; exact Fr.put hF_μ33 (by decide +kernel)
          have v_μ37 : (μ37.1 0 4).toInt = ((μ33.1 0 4).toInt + 1) := by rw [e_μ37, sF_v]; exact TI.e (n := ((μ33.1 0 4).toInt + 1)) (TI.add TI.rf (TI.lit (by decide)) (by omega) (by omega))
          have hr_μ37 : μ37.2.2 = μ.2.2 := (by rw [e_μ37]; rfl : μ37.2.2 = μ33.2.2).trans hr_μ33
          have g40 := rgm_0_3 hI_μ37
          have f41 : (μ37.1 0 3).toInt = (μ.1 0 3).toInt := congrArg Int32.toInt (((by rw [e_μ37]; rfl : μ37.1 0 3 = μ33.1 0 3)).trans (((by rw [e_μ33]; rfl : μ33.1 0 3 = μ31.1 0 3)).trans ((by rw [e_μ31]; rfl : μ31.1 0 3 = μ.1 0 3))))
          have g42 := rgm_0_4 hI_μ37
          refine ok_bd (k_X12_here  μ37 hI_μ37) ?_
          rintro r39 μ38 ⟨hq9, p_r39⟩
          obtain rfl : μ37 = μ38 := hq9
          dsimp only at p_r39
          have lo_r39 := ti_lo r39
          have hi_r39 := ti_hi r39
          try simp only [hr_μ37] at p_r39
          refine ok_ite ?_ ?_
          · intro c43
            rw [ti_eq] at c43
            refine ok_ite ?_ ?_
            · intro c44
              rw [ti_le] at c44
              exact ok_mono (k_X12_readVars_b144 _ ih v34 μ37 hI_μ37 (by (try rw [hr_μ37]); omega)) (fun q h => ⟨h.1, hF_μ37.trans h.2.1, by have h9 := h.2.2; (try dsimp only at h9 ⊢); omega⟩)
            · intro c44
              rw [ti_le] at c44
              exact ok_mono (k_X12_readVars_b145 _ ih v34 (1 : Int32) μ37 hI_μ37 (by (try rw [hr_μ37]); omega)) (fun q h => ⟨h.1, hF_μ37.trans h.2.1, by have h9 := h.2.2; (try dsimp only at h9 ⊢); omega⟩)
          · intro c43
            rw [ti_eq] at c43
            exact ok_mono (k_X12_readVars_b144 _ ih v34 μ37 hI_μ37 (by (try rw [hr_μ37]); omega)) (fun q h => ⟨h.1, hF_μ37.trans h.2.1, by have h9 := h.2.2; (try dsimp only at h9 ⊢); omega⟩)
        · intro c29
          rw [ti_le] at c29
          refine ok_bd (k_X12_fails (μ.1 0 4) μ hI_μ) ?_
          rintro r54 μ53 ⟨hI_μ53, hC_μ53, p_μ53⟩
          have hI_μ53 : IM μ53 := hI_μ53
          have hC_μ53 : Fr [(0, 0, 5)] true μ μ53 := hC_μ53
          dsimp only at p_μ53
          have lo_r54 := ti_lo r54
          have hi_r54 := ti_hi r54
          have hF_μ53 : Fr [(0, 0, 4), (0, 0, 5), (1, 12, 0), (1, 13, 0), (1, 21, 0)] true μ μ53 := hF_μ.trans (hC_μ53.mono (by decide +kernel) (by decide))
          have hr_μ53 : μ53.2.2 = μ.2.2 := (hC_μ53.2 rfl : μ53.2.2 = μ.2.2).trans hr_μ
          refine ok_gd (isB_of (by omega)) ?_
          have g55 := rgm_0_4 hI_μ53
          have f56 : (μ53.1 0 4).toInt = (μ.1 0 4).toInt := congrArg Int32.toInt (hC_μ53.1 0 4 (by decide +kernel))
          exact ok_some ⟨hI_μ53, hF_μ53, by (try dsimp only); (try rw [hr_μ53]); omega⟩
set_option maxHeartbeats 4000000 in
set_option maxRecDepth 100000 in
theorem k_X12_readVars_b4 : ∀ (n : Nat) (a1 : Int32) (a2 : Int32) (μ : Mem), IM μ → (0 ≤ (a2).toInt ∧ (a2).toInt ≤ 14 ∧ (a1).toInt = 0 ∧ 14 - (a2).toInt < n) → ok (p_X12_readVars_b4 n a1 a2 μ) (fun q => IM q.2 ∧ Fr [(0, 0, 4), (0, 0, 5), (1, 12, 0), (1, 13, 0), (1, 21, 0)] true μ q.2 ∧ (((q.1).toInt = 0 ∨ (q.1).toInt = 1) ∧ (μ.1 0 4).toInt ≤ (q.2.1 0 4).toInt)) := by
  have li0 : (0 : Int32).toInt = 0 := by decide
  have li1 : (1 : Int32).toInt = 1 := by decide
  have li14 : (14 : Int32).toInt = 14 := by decide
  have li41 : (41 : Int32).toInt = 41 := by decide
  intro n
  induction n with
  | zero => intro a1 a2 μ hI_μ hc; exact absurd hc (by have lo_a1 := ti_lo a1; have hi_a1 := ti_hi a1; have lo_a2 := ti_lo a2; have hi_a2 := ti_hi a2; omega)
  | succ n ih =>
    intro a1 a2 μ hI_μ hc
    have hF_μ : Fr [(0, 0, 4), (0, 0, 5), (1, 12, 0), (1, 13, 0), (1, 21, 0)] true μ μ := Fr.rf
    have hr_μ : μ.2.2 = μ.2.2 := rfl
    rw [p_X12_readVars_b4_s]
    have lo_a1 := ti_lo a1
    have hi_a1 := ti_hi a1
    have lo_a2 := ti_lo a2
    have hi_a2 := ti_hi a2
    have g2 := rgm_0_4 hI_μ
    refine ok_ite ?_ ?_
    · intro c3
      rw [ti_le] at c3
      have g4 := rgm_0_27 hI_μ
      refine ok_gd (inb_iff.mpr (by omega)) ?_
      refine ok_bv (fun μ5 e_μ5 => ?_)
      have hI_μ5 : IM μ5 := by rw [e_μ5]; exact IM_F hI_μ (rtma_12 _ _)
      have hF_μ5 : Fr [(0, 0, 4), (0, 0, 5), (1, 12, 0), (1, 13, 0), (1, 21, 0)] true μ μ5 := by rw [e_μ5]; exact Fr.puta hF_μ (by decide +kernel)
      have hr_μ5 : μ5.2.2 = μ.2.2 := (by rw [e_μ5]; rfl : μ5.2.2 = μ.2.2).trans hr_μ
      have g8 := rgm_0_3 hI_μ5
      have g9 := rgm_0_4 hI_μ5
      have f10 : (μ5.1 0 4).toInt = (μ.1 0 4).toInt := congrArg Int32.toInt ((by rw [e_μ5]; rfl : μ5.1 0 4 = μ.1 0 4))
      refine ok_bd (k_X12_here  μ5 hI_μ5) ?_
      rintro r7 μ6 ⟨hq9, p_r7⟩
      obtain rfl : μ5 = μ6 := hq9
      dsimp only at p_r7
      have lo_r7 := ti_lo r7
      have hi_r7 := ti_hi r7
      try simp only [hr_μ5] at p_r7
      refine ok_ite ?_ ?_
      · intro c11
        rw [ti_eq] at c11
        exact ok_some ⟨hI_μ5, hF_μ5, by (try dsimp only); (try rw [hr_μ5]); omega⟩
      · intro c11
        rw [ti_eq] at c11
        obtain ⟨fu, hfu0, hfu⟩ := fuel_ex
        rw [hfu0]
        exact ok_mono (k_X12_readVars_b46  fu a1 (1 : Int32) μ5 hI_μ5 (by (try rw [hr_μ5]); omega)) (fun q h => ⟨h.1, hF_μ5.trans h.2.1, by have h9 := h.2.2; (try dsimp only at h9 ⊢); omega⟩)
    · intro c3
      rw [ti_le] at c3
      refine ok_gd (inb_iff.mpr (by omega)) ?_
      refine ok_bv (fun μ58 e_μ58 => ?_)
      have hI_μ58 : IM μ58 := by rw [e_μ58]; exact IM_F hI_μ (rtma_21 _ _)
      have hF_μ58 : Fr [(0, 0, 4), (0, 0, 5), (1, 12, 0), (1, 13, 0), (1, 21, 0)] true μ μ58 := by rw [e_μ58]; exact Fr.puta hF_μ (by decide +kernel)
      have hr_μ58 : μ58.2.2 = μ.2.2 := (by rw [e_μ58]; rfl : μ58.2.2 = μ.2.2).trans hr_μ
      refine ok_bv (fun v59 ev59 => ?_)
      first | have tv59 : v59.toInt = (a2.toInt + 1) := (congrArg Int32.toInt ev59).trans (TI.e (n := (a2.toInt + 1)) (TI.add TI.rf (TI.lit (by decide)) (by omega) (by omega))) | have tv59 : v59.toInt ≤ a2.toInt + 1 := by rw [ev59]; exact ti_inc _ | skip
      have g60 := rgm_0_4 hI_μ58
      have f61 : (μ58.1 0 4).toInt = (μ.1 0 4).toInt := congrArg Int32.toInt ((by rw [e_μ58]; rfl : μ58.1 0 4 = μ.1 0 4))
      exact ok_mono (ih a1 v59 μ58 hI_μ58 (by (try rw [hr_μ58]); omega)) (fun q h => ⟨h.1, hF_μ58.trans h.2.1, by have h9 := h.2.2; (try dsimp only at h9 ⊢); omega⟩)
set_option maxHeartbeats 4000000 in
set_option maxRecDepth 100000 in
theorem k_X12_readVars  (μ : Mem) (hI_μ : IM μ) : ok (p_X12_readVars  μ) (fun q => IM q.2 ∧ Fr [(0, 0, 4), (0, 0, 5), (1, 12, 0), (1, 13, 0), (1, 21, 0)] true μ q.2 ∧ (((q.1).toInt = 0 ∨ (q.1).toInt = 1) ∧ (μ.1 0 4).toInt ≤ (q.2.1 0 4).toInt)) := by
  have li0 : (0 : Int32).toInt = 0 := by decide
  have li1 : (1 : Int32).toInt = 1 := by decide
  have hF_μ : Fr [(0, 0, 4), (0, 0, 5), (1, 12, 0), (1, 13, 0), (1, 21, 0)] true μ μ := Fr.rf
  have hr_μ : μ.2.2 = μ.2.2 := rfl
  rw [p_X12_readVars_eq]
  have g1 := rgm_0_4 hI_μ
  obtain ⟨fu, hfu0, hfu⟩ := fuel_ex
  rw [hfu0]
  exact ok_mono (k_X12_readVars_b4  fu (0 : Int32) (0 : Int32) μ hI_μ (by omega)) (fun q h => ⟨h.1, hF_μ.trans h.2.1, by have h9 := h.2.2; (try dsimp only at h9 ⊢); omega⟩)

set_option maxHeartbeats 4000000 in
set_option maxRecDepth 100000 in
theorem k_X12_isNew_b32 {n2 : Nat} (K2 : Int32 → Int32 → Int32 → Mem → Option (Int32 × Mem)) (hK2 : ∀ (z1 : Int32) (z2 : Int32) (z3 : Int32) (μ1 : Mem), IM μ1 → (0 ≤ (z3).toInt ∧ 2147483648 - (z3).toInt < n2) → ok (K2 z1 z2 z3 μ1) (fun q => μ1 = q.2 ∧ (((q.1).toInt = 0 ∨ (q.1).toInt = 1)))) (a1 : Int32) (a2 : Int32) (a3 : Int32) (μ : Mem) (hI_μ : IM μ) (hc : 0 ≤ (a3).toInt ∧ (a3).toInt < 72 ∧ 2147483648 - (a3).toInt < n2 + 1) : ok (p_X12_isNew_b32 K2 a1 a2 a3 μ) (fun q => μ = q.2 ∧ (((q.1).toInt = 0 ∨ (q.1).toInt = 1))) := by
  have li0 : (0 : Int32).toInt = 0 := by decide
  have li1 : (1 : Int32).toInt = 1 := by decide
  have hF_μ : Fr [] true μ μ := Fr.rf
  have hr_μ : μ.2.2 = μ.2.2 := rfl
  rw [p_X12_isNew_b32_eq]
  have lo_a1 := ti_lo a1
  have hi_a1 := ti_hi a1
  have lo_a2 := ti_lo a2
  have hi_a2 := ti_hi a2
  have lo_a3 := ti_lo a3
  have hi_a3 := ti_hi a3
  refine ok_bv (fun v5 ev5 => ?_)
  first | have tv5 : v5.toInt = (a3.toInt + 1) := (congrArg Int32.toInt ev5).trans (TI.e (n := (a3.toInt + 1)) (TI.add TI.rf (TI.lit (by decide)) (by omega) (by omega))) | have tv5 : v5.toInt ≤ a3.toInt + 1 := by rw [ev5]; exact ti_inc _ | skip
  exact ok_mono (hK2 a1 a2 v5 μ hI_μ (by omega)) (fun q h => h)
set_option maxHeartbeats 4000000 in
set_option maxRecDepth 100000 in
theorem k_X12_isNew_b2 : ∀ (n : Nat) (a1 : Int32) (a2 : Int32) (a3 : Int32) (μ : Mem), IM μ → (0 ≤ (a3).toInt ∧ 2147483648 - (a3).toInt < n) → ok (p_X12_isNew_b2 n a1 a2 a3 μ) (fun q => μ = q.2 ∧ (((q.1).toInt = 0 ∨ (q.1).toInt = 1))) := by
  have li0 : (0 : Int32).toInt = 0 := by decide
  have li1 : (1 : Int32).toInt = 1 := by decide
  intro n
  induction n with
  | zero => intro a1 a2 a3 μ hI_μ hc; exact absurd hc (by have lo_a1 := ti_lo a1; have hi_a1 := ti_hi a1; have lo_a2 := ti_lo a2; have hi_a2 := ti_hi a2; have lo_a3 := ti_lo a3; have hi_a3 := ti_hi a3; omega)
  | succ n ih =>
    intro a1 a2 a3 μ hI_μ hc
    have hF_μ : Fr [] true μ μ := Fr.rf
    have hr_μ : μ.2.2 = μ.2.2 := rfl
    rw [p_X12_isNew_b2_s]
    have lo_a1 := ti_lo a1
    have hi_a1 := ti_hi a1
    have lo_a2 := ti_lo a2
    have hi_a2 := ti_hi a2
    have lo_a3 := ti_lo a3
    have hi_a3 := ti_hi a3
    have g1 := rgm_0_27 hI_μ
    refine ok_ite ?_ ?_
    · intro c2
      rw [ti_le] at c2
      exact ok_some ⟨rfl, by (try dsimp only); omega⟩
    · intro c2
      rw [ti_le] at c2
      refine ok_gd (inb_iff.mpr (by omega)) ?_
      refine ok_ite ?_ ?_
      · intro c3
        rw [ti_eq] at c3
        refine ok_gd (inb_iff.mpr (by omega)) ?_
        refine ok_ite ?_ ?_
        · intro c4
          rw [ti_eq] at c4
          exact ok_some ⟨rfl, by (try dsimp only); omega⟩
        · intro c4
          rw [ti_eq] at c4
          exact ok_mono (k_X12_isNew_b32 _ ih a1 a2 a3 μ hI_μ (by omega)) (fun q h => h)
      · intro c3
        rw [ti_eq] at c3
        exact ok_mono (k_X12_isNew_b32 _ ih a1 a2 a3 μ hI_μ (by omega)) (fun q h => h)
set_option maxHeartbeats 4000000 in
set_option maxRecDepth 100000 in
theorem k_X12_isNew (a1 : Int32) (a2 : Int32) (μ : Mem) (hI_μ : IM μ) : ok (p_X12_isNew a1 a2 μ) (fun q => μ = q.2 ∧ (((q.1).toInt = 0 ∨ (q.1).toInt = 1))) := by
  have li0 : (0 : Int32).toInt = 0 := by decide
  have li1 : (1 : Int32).toInt = 1 := by decide
  have hF_μ : Fr [] true μ μ := Fr.rf
  have hr_μ : μ.2.2 = μ.2.2 := rfl
  rw [p_X12_isNew_eq]
  have lo_a1 := ti_lo a1
  have hi_a1 := ti_hi a1
  have lo_a2 := ti_lo a2
  have hi_a2 := ti_hi a2
  obtain ⟨fu, hfu0, hfu⟩ := fuel_ex
  rw [hfu0]
  exact ok_mono (k_X12_isNew_b2  fu a1 a2 (0 : Int32) μ hI_μ (by omega)) (fun q h => h)

theorem rtm_arr {i k : Nat} {v : Int} (q : (sh 1 i).1 = 1) (h : i ≠ 19 ∧ i ≠ 35 ∧ i ≠ 36 ∧ i ≠ 40 ∧ i ≠ 45 ∧ i ≠ 56 ∧ i ≠ 57 ∧ i ≠ 58 ∧ i ≠ 62 ∧ i ≠ 63 ∧ i ≠ 69 ∧ i ≠ 72 ∧ i ≠ 76 ∧ i ≠ 16 ∧ i ≠ 17) : rngms i k v := by
  have h0 : i ≠ 0 := by
    intro e
    subst e
    rw [shm_0] at q
    exact absurd q (by decide)
  obtain ⟨z19, z35, z36, z40, z45, z56, z57, z58, z62, z63, z69, z72, z76, h16, h17⟩ := h
  refine ⟨?_, h16, h17⟩
  unfold rngm
  refine ⟨?_, ?_, ?_, ?_, ?_, ?_, ?_, ?_, ?_, ?_, ?_, ?_, ?_, ?_, ?_, ?_, ?_, ?_, ?_, ?_, ?_, ?_, ?_, ?_, ?_, ?_, ?_, ?_, ?_, ?_, ?_, ?_, ?_, ?_, ?_, ?_, ?_, ?_, ?_, ?_, ?_, ?_⟩ <;> first | exact fun e => absurd e h0 | exact fun e => absurd e z19 | exact fun e => absurd e z35 | exact fun e => absurd e z36 | exact fun e => absurd e z40 | exact fun e => absurd e z45 | exact fun e => absurd e z56 | exact fun e => absurd e z57 | exact fun e => absurd e z58 | exact fun e => absurd e z62 | exact fun e => absurd e z63 | exact fun e => absurd e z69 | exact fun e => absurd e z72 | exact fun e => absurd e z76
set_option maxHeartbeats 4000000 in
theorem k_X12_copy_b3 (a0 : Nat) (q0 : (sh 1 a0).1 = 1) (a1 a2 : Int32) (a3 : Nat) (q3 : (sh 1 a3).1 = 1) (a4 : Int32) (hc : 0 ≤ (a1).toInt ∧ 0 ≤ (a4).toInt ∧ (a1).toInt + (a2).toInt ≤ ((sh 1 a0).2 : Int) ∧ (a4).toInt + (a2).toInt ≤ ((sh 1 a3).2 : Int) ∧ a3 ≠ 19 ∧ a3 ≠ 35 ∧ a3 ≠ 36 ∧ a3 ≠ 40 ∧ a3 ≠ 45 ∧ a3 ≠ 56 ∧ a3 ≠ 57 ∧ a3 ≠ 58 ∧ a3 ≠ 62 ∧ a3 ≠ 63 ∧ a3 ≠ 69 ∧ a3 ≠ 72 ∧ a3 ≠ 76 ∧ a3 ≠ 16 ∧ a3 ≠ 17 ∧ a0 ≠ a3) : ∀ (n : Nat) (a5 : Int32) (μ : Mem), IM μ → (0 ≤ a5.toInt ∧ 2147483648 - a5.toInt < n) → ok (p_X12_copy_b3 n a0 a1 a2 a3 a4 a5 μ) (fun q => IM q ∧ Fr [(1, a3, 0)] true μ q ∧ (∀ k : Nat, a5.toInt ≤ (k : Int) → (k : Int) < a2.toInt → q.1 a3 (a4.toInt.toNat + k) = μ.1 a0 (a1.toInt.toNat + k)) ∧ (∀ j : Nat, ((j : Int) < a4.toInt + a5.toInt ∨ a4.toInt + a2.toInt ≤ (j : Int)) → q.1 a3 j = μ.1 a3 j)) := by
  obtain ⟨h1, h2, h3, h4, y19, y35, y36, y40, y45, y56, y57, y58, y62, y63, y69, y72, y76, y16, y17, h6⟩ := hc
  have s0 := sh_small 1 a0
  have s3 := sh_small 1 a3
  have hlo := ti_lo a2
  have hhi := ti_hi a2
  intro n
  induction n with
  | zero => intro a5 μ hI hc; have := ti_hi a5; exact absurd hc.2 (by omega)
  | succ n ih =>
    intro a5 μ hI hc
    rw [p_X12_copy_b3_s]
    refine ok_ite ?_ ?_
    · intro c
      rw [ti_le] at c
      exact ok_some ⟨hI, Fr.rf, fun k hk1 hk2 => by omega, fun j hj => rfl⟩
    · intro c
      rw [ti_le] at c
      have t1 : (a1 + a5).toInt = a1.toInt + a5.toInt := ti_add (by omega) (by omega)
      have t4 : (a4 + a5).toInt = a4.toInt + a5.toInt := ti_add (by omega) (by omega)
      refine ok_gd (inb_iff.mpr (by rw [t1]; omega)) ?_
      refine ok_gd (inb_iff.mpr (by rw [t4]; omega)) ?_
      refine ok_bv (fun μ2 e2 => ?_)
      refine ok_bv (fun v3 e3 => ?_)
      have e1 : (1 : Int32).toInt = 1 := by decide
      have tv : v3.toInt = a5.toInt + 1 := by rw [e3, ti_add (by omega) (by omega), e1]
      have n1 : (a1 + a5).toNatClampNeg = (a1.toInt + a5.toInt).toNat := by
        show (a1 + a5).toInt.toNat = _
        rw [t1]
      have n4 : (a4 + a5).toNatClampNeg = (a4.toInt + a5.toInt).toNat := by
        show (a4 + a5).toInt.toNat = _
        rw [t4]
      rw [n1, n4] at e2
      clear t1 t4 n1 n4 e3
      have hI2 : IM μ2 := by rw [e2]; exact IM_F hI (rtm_arr q3 ⟨y19, y35, y36, y40, y45, y56, y57, y58, y62, y63, y69, y72, y76, y16, y17⟩)
      have hF2 : Fr [(1, a3, 0)] true μ μ2 := by rw [e2]; exact Fr.puta Fr.rf (by simp)
      refine ok_mono (ih v3 μ2 hI2 (by omega)) (fun q h => ⟨h.1, hF2.trans h.2.1, fun k hk1 hk2 => ?_, fun j hj => ?_⟩)
      · by_cases e : (k : Int) = a5.toInt
        · rw [h.2.2.2 _ (by left; omega), e2, sF_1, if_pos rfl, if_pos (by omega)]
          have e9 : (a1.toInt + a5.toInt).toNat = a1.toInt.toNat + k := by omega
          rw [e9]
        · rw [h.2.2.1 k (by omega) hk2, e2, sF_i h6]
      · rw [h.2.2.2 j (by omega), e2, sF_1, if_pos rfl, if_neg (by omega)]
theorem k_X12_copy (a0 : Nat) (q0 : (sh 1 a0).1 = 1) (a1 : Int32) (a2 : Int32) (a3 : Nat) (q3 : (sh 1 a3).1 = 1) (a4 : Int32) (μ : Mem) (hI_μ : IM μ) (hc : 0 ≤ (a1).toInt ∧ 0 ≤ (a4).toInt ∧ (a1).toInt + (a2).toInt ≤ ((sh 1 a0).2 : Int) ∧ (a4).toInt + (a2).toInt ≤ ((sh 1 a3).2 : Int) ∧ a3 ≠ 19 ∧ a3 ≠ 35 ∧ a3 ≠ 36 ∧ a3 ≠ 40 ∧ a3 ≠ 45 ∧ a3 ≠ 56 ∧ a3 ≠ 57 ∧ a3 ≠ 58 ∧ a3 ≠ 62 ∧ a3 ≠ 63 ∧ a3 ≠ 69 ∧ a3 ≠ 72 ∧ a3 ≠ 76 ∧ a3 ≠ 16 ∧ a3 ≠ 17 ∧ a0 ≠ a3) : ok (p_X12_copy a0 a1 a2 a3 a4 μ) (fun q => IM q ∧ Fr [(1, a3, 0)] true μ q ∧ ((∀ k : Nat, (k : Int) < (a2).toInt → q.1 a3 (((a4).toInt).toNat + k) = μ.1 a0 (((a1).toInt).toNat + k)) ∧ (∀ j : Nat, ((j : Int) < (a4).toInt ∨ (a4).toInt + (a2).toInt ≤ (j : Int)) → q.1 a3 j = μ.1 a3 j))) := by
  rw [p_X12_copy_eq]
  obtain ⟨fu, hfu0, hfu⟩ := fuel_ex
  rw [hfu0]
  have e0 : (0 : Int32).toInt = 0 := by decide
  refine ok_mono (k_X12_copy_b3 a0 q0 a1 a2 a3 q3 a4 hc fu 0 μ hI_μ (by omega)) (fun q h => ⟨h.1, h.2.1, fun k hk => h.2.2.1 k (by omega) hk, fun j hj => h.2.2.2 j (by omega)⟩)

set_option maxHeartbeats 4000000 in
set_option maxRecDepth 100000 in
theorem k_X12_functionOf_b32 {n2 : Nat} (K2 : Int32 → Int32 → Int32 → Mem → Option (Int32 × Mem)) (hK2 : ∀ (z1 : Int32) (z2 : Int32) (z3 : Int32) (μ1 : Mem), IM μ1 → (0 ≤ (z3).toInt ∧ 2147483648 - (z3).toInt < n2) → ok (K2 z1 z2 z3 μ1) (fun q => μ1 = q.2 ∧ (-1 ≤ (q.1).toInt ∧ (q.1).toInt < (μ1.1 0 17).toInt))) (a1 : Int32) (a2 : Int32) (a3 : Int32) (μ : Mem) (hI_μ : IM μ) (hc : 0 ≤ (a3).toInt ∧ (a3).toInt < 72 ∧ 2147483648 - (a3).toInt < n2 + 1) : ok (p_X12_functionOf_b32 K2 a1 a2 a3 μ) (fun q => μ = q.2 ∧ (-1 ≤ (q.1).toInt ∧ (q.1).toInt < (μ.1 0 17).toInt)) := by
  have li0 : (0 : Int32).toInt = 0 := by decide
  have li1 : (1 : Int32).toInt = 1 := by decide
  have hF_μ : Fr [] true μ μ := Fr.rf
  have hr_μ : μ.2.2 = μ.2.2 := rfl
  rw [p_X12_functionOf_b32_eq]
  have lo_a1 := ti_lo a1
  have hi_a1 := ti_hi a1
  have lo_a2 := ti_lo a2
  have hi_a2 := ti_hi a2
  have lo_a3 := ti_lo a3
  have hi_a3 := ti_hi a3
  have g6 := rgm_0_17 hI_μ
  refine ok_bv (fun v7 ev7 => ?_)
  first | have tv7 : v7.toInt = (a3.toInt + 1) := (congrArg Int32.toInt ev7).trans (TI.e (n := (a3.toInt + 1)) (TI.add TI.rf (TI.lit (by decide)) (by omega) (by omega))) | have tv7 : v7.toInt ≤ a3.toInt + 1 := by rw [ev7]; exact ti_inc _ | skip
  exact ok_mono (hK2 a1 a2 v7 μ hI_μ (by omega)) (fun q h => h)
set_option maxHeartbeats 4000000 in
set_option maxRecDepth 100000 in
theorem k_X12_functionOf_b2 : ∀ (n : Nat) (a1 : Int32) (a2 : Int32) (a3 : Int32) (μ : Mem), IM μ → (0 ≤ (a3).toInt ∧ 2147483648 - (a3).toInt < n) → ok (p_X12_functionOf_b2 n a1 a2 a3 μ) (fun q => μ = q.2 ∧ (-1 ≤ (q.1).toInt ∧ (q.1).toInt < (μ.1 0 17).toInt)) := by
  have lim1 : (-1 : Int32).toInt = -1 := by decide
  have li0 : (0 : Int32).toInt = 0 := by decide
  have li1 : (1 : Int32).toInt = 1 := by decide
  intro n
  induction n with
  | zero => intro a1 a2 a3 μ hI_μ hc; exact absurd hc (by have lo_a1 := ti_lo a1; have hi_a1 := ti_hi a1; have lo_a2 := ti_lo a2; have hi_a2 := ti_hi a2; have lo_a3 := ti_lo a3; have hi_a3 := ti_hi a3; omega)
  | succ n ih =>
    intro a1 a2 a3 μ hI_μ hc
    have hF_μ : Fr [] true μ μ := Fr.rf
    have hr_μ : μ.2.2 = μ.2.2 := rfl
    rw [p_X12_functionOf_b2_s]
    have lo_a1 := ti_lo a1
    have hi_a1 := ti_hi a1
    have lo_a2 := ti_lo a2
    have hi_a2 := ti_hi a2
    have lo_a3 := ti_lo a3
    have hi_a3 := ti_hi a3
    have g2 := rgm_0_17 hI_μ
    refine ok_ite ?_ ?_
    · intro c3
      rw [ti_le] at c3
      exact ok_some ⟨rfl, by (try dsimp only); omega⟩
    · intro c3
      rw [ti_le] at c3
      refine ok_gd (inb_iff.mpr (by omega)) ?_
      refine ok_ite ?_ ?_
      · intro c4
        rw [ti_eq] at c4
        refine ok_gd (inb_iff.mpr (by omega)) ?_
        refine ok_ite ?_ ?_
        · intro c5
          rw [ti_eq] at c5
          exact ok_some ⟨rfl, by (try dsimp only); omega⟩
        · intro c5
          rw [ti_eq] at c5
          exact ok_mono (k_X12_functionOf_b32 _ ih a1 a2 a3 μ hI_μ (by omega)) (fun q h => h)
      · intro c4
        rw [ti_eq] at c4
        exact ok_mono (k_X12_functionOf_b32 _ ih a1 a2 a3 μ hI_μ (by omega)) (fun q h => h)
set_option maxHeartbeats 4000000 in
set_option maxRecDepth 100000 in
theorem k_X12_functionOf (a1 : Int32) (a2 : Int32) (μ : Mem) (hI_μ : IM μ) : ok (p_X12_functionOf a1 a2 μ) (fun q => μ = q.2 ∧ (-1 ≤ (q.1).toInt ∧ (q.1).toInt < (μ.1 0 17).toInt)) := by
  have li0 : (0 : Int32).toInt = 0 := by decide
  have li1 : (1 : Int32).toInt = 1 := by decide
  have hF_μ : Fr [] true μ μ := Fr.rf
  have hr_μ : μ.2.2 = μ.2.2 := rfl
  rw [p_X12_functionOf_eq]
  have lo_a1 := ti_lo a1
  have hi_a1 := ti_hi a1
  have lo_a2 := ti_lo a2
  have hi_a2 := ti_hi a2
  have g1 := rgm_0_17 hI_μ
  obtain ⟨fu, hfu0, hfu⟩ := fuel_ex
  rw [hfu0]
  exact ok_mono (k_X12_functionOf_b2  fu a1 a2 (0 : Int32) μ hI_μ (by omega)) (fun q h => h)

set_option maxHeartbeats 4000000 in
set_option maxRecDepth 100000 in
theorem k_X12_layRead (a1 : Int32) (a2 : Int32) (μ : Mem) (hI_μ : IM μ) (hc : (μ.1 0 36).toInt < 30) : ok (p_X12_layRead a1 a2 μ) (fun q => IM q ∧ Fr [(0, 0, 36), (1, 22, 0), (1, 23, 0)] true μ q ∧ ((q.1 0 36).toInt = (μ.1 0 36).toInt + 1)) := by
  have li0 : (0 : Int32).toInt = 0 := by decide
  have li1 : (1 : Int32).toInt = 1 := by decide
  have hF_μ : Fr [(0, 0, 36), (1, 22, 0), (1, 23, 0)] true μ μ := Fr.rf
  have hr_μ : μ.2.2 = μ.2.2 := rfl
  rw [p_X12_layRead_eq]
  have lo_a1 := ti_lo a1
  have hi_a1 := ti_hi a1
  have lo_a2 := ti_lo a2
  have hi_a2 := ti_hi a2
  have g1 := rgm_0_36 hI_μ
  refine ok_gd (inb_iff.mpr (by omega)) ?_
  refine ok_bv (fun μ2 e_μ2 => ?_)
  have hI_μ2 : IM μ2 := by rw [e_μ2]; exact IM_F hI_μ (rtma_22 _ _)
  have hF_μ2 : Fr [(0, 0, 36), (1, 22, 0), (1, 23, 0)] true μ μ2 := by rw [e_μ2]; exact Fr.puta hF_μ (by decide +kernel)
  have hr_μ2 : μ2.2.2 = μ.2.2 := (by rw [e_μ2]; rfl : μ2.2.2 = μ.2.2).trans hr_μ
  have g3 := rgm_0_36 hI_μ2
  have f4 : (μ2.1 0 36).toInt = (μ.1 0 36).toInt := congrArg Int32.toInt ((by rw [e_μ2]; rfl : μ2.1 0 36 = μ.1 0 36))
  refine ok_gd (inb_iff.mpr (by omega)) ?_
  refine ok_bv (fun μ5 e_μ5 => ?_)
  have hI_μ5 : IM μ5 := by rw [e_μ5]; exact IM_F hI_μ2 (rtma_23 _ _)
  have hF_μ5 : Fr [(0, 0, 36), (1, 22, 0), (1, 23, 0)] true μ μ5 := by rw [e_μ5]; exact Fr.puta hF_μ2 (by decide +kernel)
  have hr_μ5 : μ5.2.2 = μ.2.2 := (by rw [e_μ5]; rfl : μ5.2.2 = μ2.2.2).trans hr_μ2
  have g6 := rgm_0_36 hI_μ5
  have f7 : (μ5.1 0 36).toInt = (μ2.1 0 36).toInt := congrArg Int32.toInt ((by rw [e_μ5]; rfl : μ5.1 0 36 = μ2.1 0 36))
  refine ok_bv (fun μ8 e_μ8 => ?_)
  have hI_μ8 : IM μ8 := by rw [e_μ8]; exact IM_F hI_μ5 (rpm_0_36 (by (try rw [TI.e (e := ((μ5.1 0 36) + (1 : Int32))) (n := ((μ5.1 0 36).toInt + 1)) (TI.add TI.rf (TI.lit (by decide)) (by omega) (by omega))]); omega))
  have hF_μ8 : Fr [(0, 0, 36), (1, 22, 0), (1, 23, 0)] true μ μ8 := by rw [e_μ8]; exact Fr.put hF_μ5 (by decide +kernel)
  have v_μ8 : (μ8.1 0 36).toInt = ((μ5.1 0 36).toInt + 1) := by rw [e_μ8, sF_v]; exact TI.e (n := ((μ5.1 0 36).toInt + 1)) (TI.add TI.rf (TI.lit (by decide)) (by omega) (by omega))
  have hr_μ8 : μ8.2.2 = μ.2.2 := (by rw [e_μ8]; rfl : μ8.2.2 = μ5.2.2).trans hr_μ5
  have g9 := rgm_0_36 hI_μ8
  exact ok_some ⟨hI_μ8, hF_μ8, by (try dsimp only); (try rw [hr_μ8]); omega⟩

set_option maxHeartbeats 4000000 in
set_option maxRecDepth 100000 in
theorem k_X12_closeAll_b2 : ∀ (n : Nat) (a2 : Int32) (μ : Mem), IM μ → (0 ≤ (a2).toInt ∧ (a2).toInt ≤ 30 ∧ (a2).toInt < n) → ok (p_X12_closeAll_b2 n a2 μ) (fun q => IM q.2 ∧ Fr [(0, 0, 4), (0, 0, 5), (1, 24, 0)] true μ q.2 ∧ (0 ≤ (q.1).toInt ∧ (q.1).toInt ≤ (a2).toInt ∧ (μ.1 0 4).toInt ≤ (q.2.1 0 4).toInt)) := by
  have lim1 : (-1 : Int32).toInt = -1 := by decide
  have li0 : (0 : Int32).toInt = 0 := by decide
  have li1 : (1 : Int32).toInt = 1 := by decide
  have li44 : (44 : Int32).toInt = 44 := by decide
  have li93 : (93 : Int32).toInt = 93 := by decide
  intro n
  induction n with
  | zero => intro a2 μ hI_μ hc; exact absurd hc (by have lo_a2 := ti_lo a2; have hi_a2 := ti_hi a2; omega)
  | succ n ih =>
    intro a2 μ hI_μ hc
    have hF_μ : Fr [(0, 0, 4), (0, 0, 5), (1, 24, 0)] true μ μ := Fr.rf
    have hr_μ : μ.2.2 = μ.2.2 := rfl
    rw [p_X12_closeAll_b2_s]
    have lo_a2 := ti_lo a2
    have hi_a2 := ti_hi a2
    have g2 := rgm_0_4 hI_μ
    refine ok_ite ?_ ?_
    · intro c3
      rw [ti_le] at c3
      exact ok_some ⟨hI_μ, hF_μ, by (try dsimp only); omega⟩
    · intro c3
      rw [ti_le] at c3
      refine ok_bv (fun v4 ev4 => ?_)
      first | have tv4 : v4.toInt = (a2.toInt - 1) := (congrArg Int32.toInt ev4).trans (TI.e (n := (a2.toInt - 1)) (TI.sub TI.rf (TI.lit (by decide)) (by omega) (by omega))) | skip
      refine ok_gd (inb_iff.mpr (by omega)) ?_
      refine ok_gd (inb_iff.mpr (by omega)) ?_
      refine ok_bv (fun μ5 e_μ5 => ?_)
      have hI_μ5 : IM μ5 := by rw [e_μ5]; exact IM_F hI_μ (rtma_24 _ _)
      have hF_μ5 : Fr [(0, 0, 4), (0, 0, 5), (1, 24, 0)] true μ μ5 := by rw [e_μ5]; exact Fr.puta hF_μ (by decide +kernel)
      have hr_μ5 : μ5.2.2 = μ.2.2 := (by rw [e_μ5]; rfl : μ5.2.2 = μ.2.2).trans hr_μ
      refine ok_gd (inb_iff.mpr (by (try rw [TI.e (e := (a2 - (1 : Int32))) (n := (a2.toInt - 1)) (TI.sub TI.rf (TI.lit (by decide)) (by omega) (by omega))]); omega)) ?_
      refine ok_ite ?_ ?_
      · intro c6
        rw [ti_eq] at c6
        have g9 := rgm_0_4 hI_μ5
        have f10 : (μ5.1 0 4).toInt = (μ.1 0 4).toInt := congrArg Int32.toInt ((by rw [e_μ5]; rfl : μ5.1 0 4 = μ.1 0 4))
        have g11 := rgm_0_3 hI_μ5
        refine ok_bd (k_X12_takes (44 : Int32) μ5 hI_μ5 (by (try rw [hr_μ5]); omega)) ?_
        rintro r8 μ7 ⟨hI_μ7, hC_μ7, p_μ7⟩
        have hI_μ7 : IM μ7 := hI_μ7
        have hC_μ7 : Fr [(0, 0, 4), (0, 0, 5)] true μ5 μ7 := hC_μ7
        dsimp only at p_μ7
        have lo_r8 := ti_lo r8
        have hi_r8 := ti_hi r8
        have hF_μ7 : Fr [(0, 0, 4), (0, 0, 5), (1, 24, 0)] true μ μ7 := hF_μ5.trans (hC_μ7.mono (by decide +kernel) (by decide))
        have hr_μ7 : μ7.2.2 = μ.2.2 := (hC_μ7.2 rfl : μ7.2.2 = μ5.2.2).trans hr_μ5
        try simp only [hr_μ7, hr_μ5] at p_μ7
        have g12 := rgm_0_4 hI_μ7
        exact ok_some ⟨hI_μ7, hF_μ7, by (try dsimp only); (try rw [hr_μ7]); omega⟩
      · intro c6
        rw [ti_eq] at c6
        have g15 := rgm_0_4 hI_μ5
        have f16 : (μ5.1 0 4).toInt = (μ.1 0 4).toInt := congrArg Int32.toInt ((by rw [e_μ5]; rfl : μ5.1 0 4 = μ.1 0 4))
        have g17 := rgm_0_3 hI_μ5
        refine ok_bd (k_X12_takes (93 : Int32) μ5 hI_μ5 (by (try rw [hr_μ5]); omega)) ?_
        rintro r14 μ13 ⟨hI_μ13, hC_μ13, p_μ13⟩
        have hI_μ13 : IM μ13 := hI_μ13
        have hC_μ13 : Fr [(0, 0, 4), (0, 0, 5)] true μ5 μ13 := hC_μ13
        dsimp only at p_μ13
        have lo_r14 := ti_lo r14
        have hi_r14 := ti_hi r14
        have hF_μ13 : Fr [(0, 0, 4), (0, 0, 5), (1, 24, 0)] true μ μ13 := hF_μ5.trans (hC_μ13.mono (by decide +kernel) (by decide))
        have hr_μ13 : μ13.2.2 = μ.2.2 := (hC_μ13.2 rfl : μ13.2.2 = μ5.2.2).trans hr_μ5
        try simp only [hr_μ13, hr_μ5] at p_μ13
        have g18 := rgm_0_4 hI_μ13
        refine ok_ite ?_ ?_
        · intro c19
          rw [ti_eq] at c19
          exact ok_some ⟨hI_μ13, hF_μ13, by (try dsimp only); (try rw [hr_μ13]); omega⟩
        · intro c19
          rw [ti_eq] at c19
          refine ok_bv (fun v20 ev20 => ?_)
          first | have tv20 : v20.toInt = (a2.toInt + (-1)) := (congrArg Int32.toInt ev20).trans (TI.e (n := (a2.toInt + (-1))) (TI.add TI.rf (TI.lit (by decide)) (by omega) (by omega))) | skip
          exact ok_mono (ih v20 μ13 hI_μ13 (by (try rw [hr_μ13]); omega)) (fun q h => ⟨h.1, hF_μ13.trans h.2.1, by have h9 := h.2.2; (try dsimp only at h9 ⊢); omega⟩)
set_option maxHeartbeats 4000000 in
set_option maxRecDepth 100000 in
theorem k_X12_closeAll (a1 : Int32) (μ : Mem) (hI_μ : IM μ) (hc : 0 ≤ (a1).toInt ∧ (a1).toInt ≤ 30) : ok (p_X12_closeAll a1 μ) (fun q => IM q.2 ∧ Fr [(0, 0, 4), (0, 0, 5), (1, 24, 0)] true μ q.2 ∧ (0 ≤ (q.1).toInt ∧ (q.1).toInt ≤ (a1).toInt ∧ (μ.1 0 4).toInt ≤ (q.2.1 0 4).toInt)) := by
  have li0 : (0 : Int32).toInt = 0 := by decide
  have li1 : (1 : Int32).toInt = 1 := by decide
  have hF_μ : Fr [(0, 0, 4), (0, 0, 5), (1, 24, 0)] true μ μ := Fr.rf
  have hr_μ : μ.2.2 = μ.2.2 := rfl
  rw [p_X12_closeAll_eq]
  have lo_a1 := ti_lo a1
  have hi_a1 := ti_hi a1
  have g1 := rgm_0_4 hI_μ
  obtain ⟨fu, hfu0, hfu⟩ := fuel_ex
  rw [hfu0]
  exact ok_mono (k_X12_closeAll_b2  fu a1 μ hI_μ (by omega)) (fun q h => ⟨h.1, hF_μ.trans h.2.1, by have h9 := h.2.2; (try dsimp only at h9 ⊢); omega⟩)
