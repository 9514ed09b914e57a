set_option maxHeartbeats 4000000 in
set_option maxRecDepth 100000 in
theorem k_X12_readPart_b200 {n4 : Nat} (K4 : Int32 → Int32 → Int32 → Mem → Option (Int32 × Mem)) (hK4 : ∀ (z1 : Int32) (z2 : Int32) (z3 : Int32) (μ1 : Mem), IM μ1 → (0 ≤ (z2).toInt ∧ (z2).toInt ≤ (μ1.1 0 36).toInt ∧ (z2).toInt ≤ 30 ∧ (μ1.1 0 4).toInt ≤ 800 ∧ 801 - (μ1.1 0 4).toInt < n4) → ok (K4 z1 z2 z3 μ1) (fun q => IM q.2 ∧ Fr [(0, 0, 36), (0, 0, 37), (0, 0, 4), (0, 0, 5), (0, 0, 6), (0, 0, 7), (1, 22, 0), (1, 23, 0), (1, 24, 0)] true μ1 q.2 ∧ (((q.1).toInt = 0 ∨ (q.1).toInt = 1) ∧ (μ1.1 0 4).toInt ≤ (q.2.1 0 4).toInt))) (a1 : Int32) (a2 : Int32) (k0 : Int32) (μ : Mem) (hI_μ : IM μ) (hc : 0 ≤ (a2).toInt ∧ (a2).toInt ≤ (μ.1 0 36).toInt ∧ (a2).toInt ≤ 30 ∧ 801 - (μ.1 0 4).toInt < n4) : ok (p_X12_readPart_b200 K4 a1 a2 k0 μ) (fun q => IM q.2 ∧ Fr [(0, 0, 36), (0, 0, 37), (0, 0, 4), (0, 0, 5), (0, 0, 6), (0, 0, 7), (1, 22, 0), (1, 23, 0), (1, 24, 0)] true μ q.2 ∧ (((q.1).toInt = 0 ∨ (q.1).toInt = 1) ∧ (μ.1 0 4).toInt ≤ (q.2.1 0 4).toInt)) := by
  have li0 : (0 : Int32).toInt = 0 := by decide
  have li1 : (1 : Int32).toInt = 1 := by decide
  have hF_μ : Fr [(0, 0, 36), (0, 0, 37), (0, 0, 4), (0, 0, 5), (0, 0, 6), (0, 0, 7), (1, 22, 0), (1, 23, 0), (1, 24, 0)] true μ μ := Fr.rf
  have hr_μ : μ.2.2 = μ.2.2 := rfl
  rw [p_X12_readPart_b200_eq]
  have lo_a1 := ti_lo a1
  have hi_a1 := ti_hi a1
  have lo_a2 := ti_lo a2
  have hi_a2 := ti_hi a2
  have lo_k0 := ti_lo k0
  have hi_k0 := ti_hi k0
  have g67 := rgm_0_4 hI_μ
  have g68 := rgm_0_36 hI_μ
  exact ok_mono (hK4 a1 a2 k0 μ hI_μ (by omega)) (fun q h => ⟨h.1, hF_μ.trans h.2.1, by have h9 := h.2.2; (try dsimp only at h9 ⊢); omega⟩)
set_option maxHeartbeats 4000000 in
set_option maxRecDepth 100000 in
theorem k_X12_readPart_b199 {n4 : Nat} (K4 : Int32 → Int32 → Int32 → Mem → Option (Int32 × Mem)) (hK4 : ∀ (z1 : Int32) (z2 : Int32) (z3 : Int32) (μ1 : Mem), IM μ1 → (0 ≤ (z2).toInt ∧ (z2).toInt ≤ (μ1.1 0 36).toInt ∧ (z2).toInt ≤ 30 ∧ (μ1.1 0 4).toInt ≤ 800 ∧ 801 - (μ1.1 0 4).toInt < n4) → ok (K4 z1 z2 z3 μ1) (fun q => IM q.2 ∧ Fr [(0, 0, 36), (0, 0, 37), (0, 0, 4), (0, 0, 5), (0, 0, 6), (0, 0, 7), (1, 22, 0), (1, 23, 0), (1, 24, 0)] true μ1 q.2 ∧ (((q.1).toInt = 0 ∨ (q.1).toInt = 1) ∧ (μ1.1 0 4).toInt ≤ (q.2.1 0 4).toInt))) (a1 : Int32) (a2 : Int32) (μ : Mem) (hI_μ : IM μ) (hc : 0 ≤ (a2).toInt ∧ (a2).toInt ≤ (μ.1 0 36).toInt ∧ (a2).toInt ≤ 30 ∧ 801 - (μ.1 0 4).toInt < n4) : ok (p_X12_readPart_b199 K4 a1 a2 μ) (fun q => IM q.2 ∧ Fr [(0, 0, 36), (0, 0, 37), (0, 0, 4), (0, 0, 5), (0, 0, 6), (0, 0, 7), (1, 22, 0), (1, 23, 0), (1, 24, 0)] true μ q.2 ∧ (((q.1).toInt = 0 ∨ (q.1).toInt = 1) ∧ (μ.1 0 4).toInt ≤ (q.2.1 0 4).toInt)) := by
  have li0 : (0 : Int32).toInt = 0 := by decide
  have li1 : (1 : Int32).toInt = 1 := by decide
  have hF_μ : Fr [(0, 0, 36), (0, 0, 37), (0, 0, 4), (0, 0, 5), (0, 0, 6), (0, 0, 7), (1, 22, 0), (1, 23, 0), (1, 24, 0)] true μ μ := Fr.rf
  have hr_μ : μ.2.2 = μ.2.2 := rfl
  rw [p_X12_readPart_b199_eq]
  have lo_a1 := ti_lo a1
  have hi_a1 := ti_hi a1
  have lo_a2 := ti_lo a2
  have hi_a2 := ti_hi a2
  have g65 := rgm_0_4 hI_μ
  have g66 := rgm_0_36 hI_μ
  exact ok_mono (k_X12_readPart_b200 _ hK4 a1 a2 (0 : Int32) μ hI_μ (by omega)) (fun q h => ⟨h.1, hF_μ.trans h.2.1, by have h9 := h.2.2; (try dsimp only at h9 ⊢); omega⟩)
set_option maxHeartbeats 4000000 in
set_option maxRecDepth 100000 in
theorem k_X12_readPart_b177 {n4 : Nat} (K4 : Int32 → Int32 → Int32 → Mem → Option (Int32 × Mem)) (hK4 : ∀ (z1 : Int32) (z2 : Int32) (z3 : Int32) (μ1 : Mem), IM μ1 → (0 ≤ (z2).toInt ∧ (z2).toInt ≤ (μ1.1 0 36).toInt ∧ (z2).toInt ≤ 30 ∧ (μ1.1 0 4).toInt ≤ 800 ∧ 801 - (μ1.1 0 4).toInt < n4) → ok (K4 z1 z2 z3 μ1) (fun q => IM q.2 ∧ Fr [(0, 0, 36), (0, 0, 37), (0, 0, 4), (0, 0, 5), (0, 0, 6), (0, 0, 7), (1, 22, 0), (1, 23, 0), (1, 24, 0)] true μ1 q.2 ∧ (((q.1).toInt = 0 ∨ (q.1).toInt = 1) ∧ (μ1.1 0 4).toInt ≤ (q.2.1 0 4).toInt))) (a1 : Int32) (a2 : Int32) (μ : Mem) (hI_μ : IM μ) (hc : 0 ≤ (a2).toInt ∧ (a2).toInt ≤ (μ.1 0 36).toInt ∧ (a2).toInt ≤ 30 ∧ 801 - (μ.1 0 4).toInt < n4) : ok (p_X12_readPart_b177 K4 a1 a2 μ) (fun q => IM q.2 ∧ Fr [(0, 0, 36), (0, 0, 37), (0, 0, 4), (0, 0, 5), (0, 0, 6), (0, 0, 7), (1, 22, 0), (1, 23, 0), (1, 24, 0)] true μ q.2 ∧ (((q.1).toInt = 0 ∨ (q.1).toInt = 1) ∧ (μ.1 0 4).toInt ≤ (q.2.1 0 4).toInt)) := by
  have lim1 : (-1 : Int32).toInt = -1 := by decide
  have li0 : (0 : Int32).toInt = 0 := by decide
  have li1 : (1 : Int32).toInt = 1 := by decide
  have hF_μ : Fr [(0, 0, 36), (0, 0, 37), (0, 0, 4), (0, 0, 5), (0, 0, 6), (0, 0, 7), (1, 22, 0), (1, 23, 0), (1, 24, 0)] true μ μ := Fr.rf
  have hr_μ : μ.2.2 = μ.2.2 := rfl
  rw [p_X12_readPart_b177_eq]
  have lo_a1 := ti_lo a1
  have hi_a1 := ti_hi a1
  have lo_a2 := ti_lo a2
  have hi_a2 := ti_hi a2
  have g59 := rgm_0_4 hI_μ
  have g60 := rgm_0_36 hI_μ
  refine ok_bd (k_X12_closeAll a2 μ hI_μ (by omega)) ?_
  rintro r62 μ61 ⟨hI_μ61, hC_μ61, p_μ61⟩
  have hI_μ61 : IM μ61 := hI_μ61
  have hC_μ61 : Fr [(0, 0, 4), (0, 0, 5), (1, 24, 0)] true μ μ61 := hC_μ61
  dsimp only at p_μ61
  have lo_r62 := ti_lo r62
  have hi_r62 := ti_hi r62
  have hF_μ61 : Fr [(0, 0, 36), (0, 0, 37), (0, 0, 4), (0, 0, 5), (0, 0, 6), (0, 0, 7), (1, 22, 0), (1, 23, 0), (1, 24, 0)] true μ μ61 := hF_μ.trans (hC_μ61.mono (by decide +kernel) (by decide))
  have hr_μ61 : μ61.2.2 = μ.2.2 := (hC_μ61.2 rfl : μ61.2.2 = μ.2.2).trans hr_μ
  try simp only [hr_μ61, hr_μ] at p_μ61
  have g63 := rgm_0_4 hI_μ61
  refine ok_ite ?_ ?_
  · intro c64
    rw [ti_le] at c64
    have g69 := rgm_0_36 hI_μ61
    have f70 : (μ61.1 0 36).toInt = (μ.1 0 36).toInt := congrArg Int32.toInt (hC_μ61.1 0 36 (by decide +kernel))
    exact ok_mono (k_X12_readPart_b199 _ hK4 a1 r62 μ61 hI_μ61 (by (try rw [hr_μ61]); omega)) (fun q h => ⟨h.1, hF_μ61.trans h.2.1, by have h9 := h.2.2; (try dsimp only at h9 ⊢); omega⟩)
  · intro c64
    rw [ti_le] at c64
    have g71 := ti_lo (μ61.1 0 5)
    have g71h := ti_hi (μ61.1 0 5)
    refine ok_ite ?_ ?_
    · intro c72
      rw [ti_eq] at c72
      have g73 := rgm_0_36 hI_μ61
      have f74 : (μ61.1 0 36).toInt = (μ.1 0 36).toInt := congrArg Int32.toInt (hC_μ61.1 0 36 (by decide +kernel))
      exact ok_mono (k_X12_readPart_b200 _ hK4 a1 r62 (1 : Int32) μ61 hI_μ61 (by (try rw [hr_μ61]); omega)) (fun q h => ⟨h.1, hF_μ61.trans h.2.1, by have h9 := h.2.2; (try dsimp only at h9 ⊢); omega⟩)
    · intro c72
      rw [ti_eq] at c72
      have g75 := rgm_0_36 hI_μ61
      have f76 : (μ61.1 0 36).toInt = (μ.1 0 36).toInt := congrArg Int32.toInt (hC_μ61.1 0 36 (by decide +kernel))
      exact ok_mono (k_X12_readPart_b199 _ hK4 a1 r62 μ61 hI_μ61 (by (try rw [hr_μ61]); omega)) (fun q h => ⟨h.1, hF_μ61.trans h.2.1, by have h9 := h.2.2; (try dsimp only at h9 ⊢); omega⟩)
set_option maxHeartbeats 4000000 in
set_option maxRecDepth 100000 in
theorem k_X12_readPart_b83 {n4 : Nat} (K4 : Int32 → Int32 → Int32 → Mem → Option (Int32 × Mem)) (hK4 : ∀ (z1 : Int32) (z2 : Int32) (z3 : Int32) (μ1 : Mem), IM μ1 → (0 ≤ (z2).toInt ∧ (z2).toInt ≤ (μ1.1 0 36).toInt ∧ (z2).toInt ≤ 30 ∧ (μ1.1 0 4).toInt ≤ 800 ∧ 801 - (μ1.1 0 4).toInt < n4) → ok (K4 z1 z2 z3 μ1) (fun q => IM q.2 ∧ Fr [(0, 0, 36), (0, 0, 37), (0, 0, 4), (0, 0, 5), (0, 0, 6), (0, 0, 7), (1, 22, 0), (1, 23, 0), (1, 24, 0)] true μ1 q.2 ∧ (((q.1).toInt = 0 ∨ (q.1).toInt = 1) ∧ (μ1.1 0 4).toInt ≤ (q.2.1 0 4).toInt))) (a1 : Int32) (a2 : Int32) (a3 : Int32) (a4 : Int32) (a5 : Int32) (μ : Mem) (hI_μ : IM μ) (hc : 0 ≤ (a2).toInt ∧ (a2).toInt ≤ (μ.1 0 36).toInt ∧ (a2).toInt ≤ 30 ∧ 801 - (μ.1 0 4).toInt < n4 + 1 ∧ ((a4).toInt = -1 ∨ (μ.1 0 4).toInt < (μ.1 0 3).toInt) ∧ ((a5).toInt = 0 ∨ ((a4).toInt = 42 ∧ (μ.1 0 37).toInt < 8)) ∧ (μ.1 0 36).toInt < 30) : ok (p_X12_readPart_b83 K4 a1 a2 a3 a4 a5 μ) (fun q => IM q.2 ∧ Fr [(0, 0, 36), (0, 0, 37), (0, 0, 4), (0, 0, 5), (0, 0, 6), (0, 0, 7), (1, 22, 0), (1, 23, 0), (1, 24, 0)] true μ q.2 ∧ (((q.1).toInt = 0 ∨ (q.1).toInt = 1) ∧ (μ.1 0 4).toInt ≤ (q.2.1 0 4).toInt)) := by
  have li0 : (0 : Int32).toInt = 0 := by decide
  have li1 : (1 : Int32).toInt = 1 := by decide
  have li2 : (2 : Int32).toInt = 2 := by decide
  have li3 : (3 : Int32).toInt = 3 := by decide
  have li91 : (91 : Int32).toInt = 91 := by decide
  have hF_μ : Fr [(0, 0, 36), (0, 0, 37), (0, 0, 4), (0, 0, 5), (0, 0, 6), (0, 0, 7), (1, 22, 0), (1, 23, 0), (1, 24, 0)] true μ μ := Fr.rf
  have hr_μ : μ.2.2 = μ.2.2 := rfl
  rw [p_X12_readPart_b83_eq]
  have lo_a1 := ti_lo a1
  have hi_a1 := ti_hi a1
  have lo_a2 := ti_lo a2
  have hi_a2 := ti_hi a2
  have lo_a3 := ti_lo a3
  have hi_a3 := ti_hi a3
  have lo_a4 := ti_lo a4
  have hi_a4 := ti_hi a4
  have lo_a5 := ti_lo a5
  have hi_a5 := ti_hi a5
  have g30 := rgm_0_4 hI_μ
  have g31 := rgm_0_36 hI_μ
  have g32 := rgm_0_3 hI_μ
  have g33 := rgm_0_37 hI_μ
  refine ok_ite ?_ ?_
  · intro c34
    rw [ti_eq] at c34
    refine ok_bv (fun μ35 e_μ35 => ?_)
    have hI_μ35 : IM μ35 := by rw [e_μ35]; exact IM_F hI_μ (rpm_0_4 (by (try rw [TI.e (e := ((μ.1 0 4) + (1 : Int32))) (n := ((μ.1 0 4).toInt + 1)) (TI.add TI.rf (TI.lit (by decide)) (by omega) (by omega))]); omega))
    have hF_μ35 : Fr [(0, 0, 36), (0, 0, 37), (0, 0, 4), (0, 0, 5), (0, 0, 6), (0, 0, 7), (1, 22, 0), (1, 23, 0), (1, 24, 0)] true μ μ35 := by rw [e_μ35]; exact Fr.put hF_μ (by decide +kernel)
    have v_μ35 : (μ35.1 0 4).toInt = ((μ.1 0 4).toInt + 1) := by rw [e_μ35, sF_v]; exact TI.e (n := ((μ.1 0 4).toInt + 1)) (TI.add TI.rf (TI.lit (by decide)) (by omega) (by omega))
    have hr_μ35 : μ35.2.2 = μ.2.2 := (by rw [e_μ35]; rfl : μ35.2.2 = μ.2.2).trans hr_μ
    have g38 := rgm_0_36 hI_μ35
    have f39 : (μ35.1 0 36).toInt = (μ.1 0 36).toInt := congrArg Int32.toInt ((by rw [e_μ35]; rfl : μ35.1 0 36 = μ.1 0 36))
    refine ok_bw (k_X12_layRead (2 : Int32) (0 : Int32) μ35 hI_μ35 (by (try rw [hr_μ35]); omega)) ?_
    rintro μ36 ⟨hI_μ36, hC_μ36, p_μ36⟩
    have hF_μ36 : Fr [(0, 0, 36), (0, 0, 37), (0, 0, 4), (0, 0, 5), (0, 0, 6), (0, 0, 7), (1, 22, 0), (1, 23, 0), (1, 24, 0)] true μ μ36 := hF_μ35.trans (hC_μ36.mono (by decide +kernel) (by decide))
    have hr_μ36 : μ36.2.2 = μ.2.2 := (hC_μ36.2 rfl : μ36.2.2 = μ35.2.2).trans hr_μ35
    try simp only [hr_μ36, hr_μ35] at p_μ36
    have g40 := rgm_0_36 hI_μ36
    refine ok_gd (inb_iff.mpr (by omega)) ?_
    refine ok_bv (fun μ41 e_μ41 => ?_)
    have hI_μ41 : IM μ41 := by rw [e_μ41]; exact IM_F hI_μ36 (rtma_24 _ _)
    have hF_μ41 : Fr [(0, 0, 36), (0, 0, 37), (0, 0, 4), (0, 0, 5), (0, 0, 6), (0, 0, 7), (1, 22, 0), (1, 23, 0), (1, 24, 0)] true μ μ41 := by rw [e_μ41]; exact Fr.puta hF_μ36 (by decide +kernel)
    have hr_μ41 : μ41.2.2 = μ.2.2 := (by rw [e_μ41]; rfl : μ41.2.2 = μ36.2.2).trans hr_μ36
    refine ok_bv (fun v42 ev42 => ?_)
    first | have tv42 : v42.toInt = (a2.toInt + 1) := (congrArg Int32.toInt ev42).trans (TI.e (n := (a2.toInt + 1)) (TI.add TI.rf (TI.lit (by decide)) (by omega) (by omega))) | have tv42 : v42.toInt ≤ a2.toInt + 1 := by rw [ev42]; exact ti_inc _ | skip
    have g43 := rgm_0_36 hI_μ41
    have f44 : (μ41.1 0 36).toInt = (μ36.1 0 36).toInt := congrArg Int32.toInt ((by rw [e_μ41]; rfl : μ41.1 0 36 = μ36.1 0 36))
    have g45 := rgm_0_4 hI_μ41
    have f46 : (μ41.1 0 4).toInt = (μ35.1 0 4).toInt := congrArg Int32.toInt (((by rw [e_μ41]; rfl : μ41.1 0 4 = μ36.1 0 4)).trans (hC_μ36.1 0 4 (by decide +kernel)))
    exact ok_mono (hK4 a1 v42 a3 μ41 hI_μ41 (by (try rw [hr_μ41]); omega)) (fun q h => ⟨h.1, hF_μ41.trans h.2.1, by have h9 := h.2.2; (try dsimp only at h9 ⊢); omega⟩)
  · intro c34
    rw [ti_eq] at c34
    refine ok_ite ?_ ?_
    · intro c47
      rw [ti_eq] at c47
      refine ok_bd (k_X12_readNumber  μ hI_μ) ?_
      rintro r49 μ48 ⟨hI_μ48, hC_μ48, p_μ48⟩
      have hI_μ48 : IM μ48 := hI_μ48
      have hC_μ48 : Fr [(0, 0, 4), (0, 0, 5), (0, 0, 6), (0, 0, 7)] true μ μ48 := hC_μ48
      dsimp only at p_μ48
      have lo_r49 := ti_lo r49
      have hi_r49 := ti_hi r49
      have hF_μ48 : Fr [(0, 0, 36), (0, 0, 37), (0, 0, 4), (0, 0, 5), (0, 0, 6), (0, 0, 7), (1, 22, 0), (1, 23, 0), (1, 24, 0)] true μ μ48 := hF_μ.trans (hC_μ48.mono (by decide +kernel) (by decide))
      have hr_μ48 : μ48.2.2 = μ.2.2 := (hC_μ48.2 rfl : μ48.2.2 = μ.2.2).trans hr_μ
      try simp only [hr_μ48, hr_μ] at p_μ48
      have g50 := rgm_0_4 hI_μ48
      refine ok_ite ?_ ?_
      · intro c51
        rw [ti_eq] at c51
        exact ok_some ⟨hI_μ48, hF_μ48, by (try dsimp only); (try rw [hr_μ48]); omega⟩
      · intro c51
        rw [ti_eq] at c51
        have g52 := rgm_0_6 hI_μ48
        have g53 := ti_lo (μ48.1 0 7)
        have g53h := ti_hi (μ48.1 0 7)
        have g56 := rgm_0_36 hI_μ48
        have f57 : (μ48.1 0 36).toInt = (μ.1 0 36).toInt := congrArg Int32.toInt (hC_μ48.1 0 36 (by decide +kernel))
        refine ok_bw (k_X12_layRead (μ48.1 0 6) (μ48.1 0 7) μ48 hI_μ48 (by (try rw [hr_μ48]); omega)) ?_
        rintro μ54 ⟨hI_μ54, hC_μ54, p_μ54⟩
        have hF_μ54 : Fr [(0, 0, 36), (0, 0, 37), (0, 0, 4), (0, 0, 5), (0, 0, 6), (0, 0, 7), (1, 22, 0), (1, 23, 0), (1, 24, 0)] true μ μ54 := hF_μ48.trans (hC_μ54.mono (by decide +kernel) (by decide))
        have hr_μ54 : μ54.2.2 = μ.2.2 := (hC_μ54.2 rfl : μ54.2.2 = μ48.2.2).trans hr_μ48
        try simp only [hr_μ54, hr_μ48] at p_μ54
        have g58 := rgm_0_36 hI_μ54
        have g77 := rgm_0_4 hI_μ54
        have f78 : (μ54.1 0 4).toInt = (μ48.1 0 4).toInt := congrArg Int32.toInt (hC_μ54.1 0 4 (by decide +kernel))
        exact ok_mono (k_X12_readPart_b177 _ hK4 a1 a2 μ54 hI_μ54 (by (try rw [hr_μ54]); omega)) (fun q h => ⟨h.1, hF_μ54.trans h.2.1, by have h9 := h.2.2; (try dsimp only at h9 ⊢); omega⟩)
    · intro c47
      rw [ti_eq] at c47
      refine ok_bv (fun μ79 e_μ79 => ?_)
      have hI_μ79 : IM μ79 := by rw [e_μ79]; exact IM_F hI_μ (rpm_0_4 (by (try rw [TI.e (e := ((μ.1 0 4) + (1 : Int32))) (n := ((μ.1 0 4).toInt + 1)) (TI.add TI.rf (TI.lit (by decide)) (by omega) (by omega))]); omega))
      have hF_μ79 : Fr [(0, 0, 36), (0, 0, 37), (0, 0, 4), (0, 0, 5), (0, 0, 6), (0, 0, 7), (1, 22, 0), (1, 23, 0), (1, 24, 0)] true μ μ79 := by rw [e_μ79]; exact Fr.put hF_μ (by decide +kernel)
      have v_μ79 : (μ79.1 0 4).toInt = ((μ.1 0 4).toInt + 1) := by rw [e_μ79, sF_v]; exact TI.e (n := ((μ.1 0 4).toInt + 1)) (TI.add TI.rf (TI.lit (by decide)) (by omega) (by omega))
      have hr_μ79 : μ79.2.2 = μ.2.2 := (by rw [e_μ79]; rfl : μ79.2.2 = μ.2.2).trans hr_μ
      have g80 := rgm_0_37 hI_μ79
      have f81 : (μ79.1 0 37).toInt = (μ.1 0 37).toInt := congrArg Int32.toInt ((by rw [e_μ79]; rfl : μ79.1 0 37 = μ.1 0 37))
      refine ok_bv (fun μ82 e_μ82 => ?_)
      have hI_μ82 : IM μ82 := by rw [e_μ82]; exact IM_F hI_μ79 (rpm_0_37 (by (try rw [TI.e (e := ((μ79.1 0 37) + (1 : Int32))) (n := ((μ79.1 0 37).toInt + 1)) (TI.add TI.rf (TI.lit (by decide)) (by omega) (by omega))]); omega))
      have hF_μ82 : Fr [(0, 0, 36), (0, 0, 37), (0, 0, 4), (0, 0, 5), (0, 0, 6), (0, 0, 7), (1, 22, 0), (1, 23, 0), (1, 24, 0)] true μ μ82 := by rw [e_μ82]; exact Fr.put hF_μ79 (by decide +kernel)
      have v_μ82 : (μ82.1 0 37).toInt = ((μ79.1 0 37).toInt + 1) := by rw [e_μ82, sF_v]; exact TI.e (n := ((μ79.1 0 37).toInt + 1)) (TI.add TI.rf (TI.lit (by decide)) (by omega) (by omega))
      have hr_μ82 : μ82.2.2 = μ.2.2 := (by rw [e_μ82]; rfl : μ82.2.2 = μ79.2.2).trans hr_μ79
      have g85 := rgm_0_36 hI_μ82
      have f86 : (μ82.1 0 36).toInt = (μ.1 0 36).toInt := congrArg Int32.toInt (((by rw [e_μ82]; rfl : μ82.1 0 36 = μ79.1 0 36)).trans ((by rw [e_μ79]; rfl : μ79.1 0 36 = μ.1 0 36)))
      refine ok_bw (k_X12_layRead (3 : Int32) (0 : Int32) μ82 hI_μ82 (by (try rw [hr_μ82]); omega)) ?_
      rintro μ83 ⟨hI_μ83, hC_μ83, p_μ83⟩
      have hF_μ83 : Fr [(0, 0, 36), (0, 0, 37), (0, 0, 4), (0, 0, 5), (0, 0, 6), (0, 0, 7), (1, 22, 0), (1, 23, 0), (1, 24, 0)] true μ μ83 := hF_μ82.trans (hC_μ83.mono (by decide +kernel) (by decide))
      have hr_μ83 : μ83.2.2 = μ.2.2 := (hC_μ83.2 rfl : μ83.2.2 = μ82.2.2).trans hr_μ82
      try simp only [hr_μ83, hr_μ82] at p_μ83
      have g87 := rgm_0_36 hI_μ83
      have g88 := rgm_0_4 hI_μ83
      have f89 : (μ83.1 0 4).toInt = (μ79.1 0 4).toInt := congrArg Int32.toInt ((hC_μ83.1 0 4 (by decide +kernel)).trans ((by rw [e_μ82]; rfl : μ82.1 0 4 = μ79.1 0 4)))
      exact ok_mono (k_X12_readPart_b177 _ hK4 a1 a2 μ83 hI_μ83 (by (try rw [hr_μ83]); omega)) (fun q h => ⟨h.1, hF_μ83.trans h.2.1, by have h9 := h.2.2; (try dsimp only at h9 ⊢); omega⟩)
set_option maxHeartbeats 4000000 in
set_option maxRecDepth 100000 in
theorem k_X12_readPart_b51 {n4 : Nat} (K4 : Int32 → Int32 → Int32 → Mem → Option (Int32 × Mem)) (hK4 : ∀ (z1 : Int32) (z2 : Int32) (z3 : Int32) (μ1 : Mem), IM μ1 → (0 ≤ (z2).toInt ∧ (z2).toInt ≤ (μ1.1 0 36).toInt ∧ (z2).toInt ≤ 30 ∧ (μ1.1 0 4).toInt ≤ 800 ∧ 801 - (μ1.1 0 4).toInt < n4) → ok (K4 z1 z2 z3 μ1) (fun q => IM q.2 ∧ Fr [(0, 0, 36), (0, 0, 37), (0, 0, 4), (0, 0, 5), (0, 0, 6), (0, 0, 7), (1, 22, 0), (1, 23, 0), (1, 24, 0)] true μ1 q.2 ∧ (((q.1).toInt = 0 ∨ (q.1).toInt = 1) ∧ (μ1.1 0 4).toInt ≤ (q.2.1 0 4).toInt))) (a1 : Int32) (a2 : Int32) (a3 : Int32) (a4 : Int32) (a5 : Int32) (μ : Mem) (hI_μ : IM μ) (hc : 0 ≤ (a2).toInt ∧ (a2).toInt ≤ (μ.1 0 36).toInt ∧ (a2).toInt ≤ 30 ∧ 801 - (μ.1 0 4).toInt < n4 + 1 ∧ ((a4).toInt = -1 ∨ (μ.1 0 4).toInt < (μ.1 0 3).toInt) ∧ ((a5).toInt = 0 ∨ (a4).toInt = 42)) : ok (p_X12_readPart_b51 K4 a1 a2 a3 a4 a5 μ) (fun q => IM q.2 ∧ Fr [(0, 0, 36), (0, 0, 37), (0, 0, 4), (0, 0, 5), (0, 0, 6), (0, 0, 7), (1, 22, 0), (1, 23, 0), (1, 24, 0)] true μ q.2 ∧ (((q.1).toInt = 0 ∨ (q.1).toInt = 1) ∧ (μ.1 0 4).toInt ≤ (q.2.1 0 4).toInt)) := by
  have li0 : (0 : Int32).toInt = 0 := by decide
  have li1 : (1 : Int32).toInt = 1 := by decide
  have li8 : (8 : Int32).toInt = 8 := by decide
  have li30 : (30 : Int32).toInt = 30 := by decide
  have hF_μ : Fr [(0, 0, 36), (0, 0, 37), (0, 0, 4), (0, 0, 5), (0, 0, 6), (0, 0, 7), (1, 22, 0), (1, 23, 0), (1, 24, 0)] true μ μ := Fr.rf
  have hr_μ : μ.2.2 = μ.2.2 := rfl
  rw [p_X12_readPart_b51_eq]
  have lo_a1 := ti_lo a1
  have hi_a1 := ti_hi a1
  have lo_a2 := ti_lo a2
  have hi_a2 := ti_hi a2
  have lo_a3 := ti_lo a3
  have hi_a3 := ti_hi a3
  have lo_a4 := ti_lo a4
  have hi_a4 := ti_hi a4
  have lo_a5 := ti_lo a5
  have hi_a5 := ti_hi a5
  have g20 := rgm_0_4 hI_μ
  have g21 := rgm_0_36 hI_μ
  have g22 := rgm_0_3 hI_μ
  refine ok_ite ?_ ?_
  · intro c23
    rw [ti_eq] at c23
    refine ok_bd (k_X12_fails (μ.1 0 4) μ hI_μ) ?_
    rintro r25 μ24 ⟨hI_μ24, hC_μ24, p_μ24⟩
    have hI_μ24 : IM μ24 := hI_μ24
    have hC_μ24 : Fr [(0, 0, 5)] true μ μ24 := hC_μ24
    dsimp only at p_μ24
    have lo_r25 := ti_lo r25
    have hi_r25 := ti_hi r25
    have hF_μ24 : Fr [(0, 0, 36), (0, 0, 37), (0, 0, 4), (0, 0, 5), (0, 0, 6), (0, 0, 7), (1, 22, 0), (1, 23, 0), (1, 24, 0)] true μ μ24 := hF_μ.trans (hC_μ24.mono (by decide +kernel) (by decide))
    have hr_μ24 : μ24.2.2 = μ.2.2 := (hC_μ24.2 rfl : μ24.2.2 = μ.2.2).trans hr_μ
    refine ok_gd (isB_of (by omega)) ?_
    have g26 := rgm_0_4 hI_μ24
    have f27 : (μ24.1 0 4).toInt = (μ.1 0 4).toInt := congrArg Int32.toInt (hC_μ24.1 0 4 (by decide +kernel))
    exact ok_some ⟨hI_μ24, hF_μ24, by (try dsimp only); (try rw [hr_μ24]); omega⟩
  · intro c23
    rw [ti_eq] at c23
    refine ok_ite ?_ ?_
    · intro c29
      rw [ti_eq] at c29
      have g90 := rgm_0_37 hI_μ
      exact ok_mono (k_X12_readPart_b83 _ hK4 a1 a2 a3 a4 a5 μ hI_μ (by omega)) (fun q h => ⟨h.1, hF_μ.trans h.2.1, by have h9 := h.2.2; (try dsimp only at h9 ⊢); omega⟩)
    · intro c29
      rw [ti_eq] at c29
      have g91 := rgm_0_37 hI_μ
      refine ok_ite ?_ ?_
      · intro c92
        rw [ti_eq] at c92
        refine ok_bd (k_X12_fails (μ.1 0 4) μ hI_μ) ?_
        rintro r94 μ93 ⟨hI_μ93, hC_μ93, p_μ93⟩
        have hI_μ93 : IM μ93 := hI_μ93
        have hC_μ93 : Fr [(0, 0, 5)] true μ μ93 := hC_μ93
        dsimp only at p_μ93
        have lo_r94 := ti_lo r94
        have hi_r94 := ti_hi r94
        have hF_μ93 : Fr [(0, 0, 36), (0, 0, 37), (0, 0, 4), (0, 0, 5), (0, 0, 6), (0, 0, 7), (1, 22, 0), (1, 23, 0), (1, 24, 0)] true μ μ93 := hF_μ.trans (hC_μ93.mono (by decide +kernel) (by decide))
        have hr_μ93 : μ93.2.2 = μ.2.2 := (hC_μ93.2 rfl : μ93.2.2 = μ.2.2).trans hr_μ
        refine ok_gd (isB_of (by omega)) ?_
        have g95 := rgm_0_4 hI_μ93
        have f96 : (μ93.1 0 4).toInt = (μ.1 0 4).toInt := congrArg Int32.toInt (hC_μ93.1 0 4 (by decide +kernel))
        exact ok_some ⟨hI_μ93, hF_μ93, by (try dsimp only); (try rw [hr_μ93]); omega⟩
      · intro c92
        rw [ti_eq] at c92
        exact ok_mono (k_X12_readPart_b83 _ hK4 a1 a2 a3 a4 a5 μ hI_μ (by omega)) (fun q h => ⟨h.1, hF_μ.trans h.2.1, by have h9 := h.2.2; (try dsimp only at h9 ⊢); omega⟩)
set_option maxHeartbeats 4000000 in
set_option maxRecDepth 100000 in
theorem k_X12_readPart_b30 {n4 : Nat} (K4 : Int32 → Int32 → Int32 → Mem → Option (Int32 × Mem)) (hK4 : ∀ (z1 : Int32) (z2 : Int32) (z3 : Int32) (μ1 : Mem), IM μ1 → (0 ≤ (z2).toInt ∧ (z2).toInt ≤ (μ1.1 0 36).toInt ∧ (z2).toInt ≤ 30 ∧ (μ1.1 0 4).toInt ≤ 800 ∧ 801 - (μ1.1 0 4).toInt < n4) → ok (K4 z1 z2 z3 μ1) (fun q => IM q.2 ∧ Fr [(0, 0, 36), (0, 0, 37), (0, 0, 4), (0, 0, 5), (0, 0, 6), (0, 0, 7), (1, 22, 0), (1, 23, 0), (1, 24, 0)] true μ1 q.2 ∧ (((q.1).toInt = 0 ∨ (q.1).toInt = 1) ∧ (μ1.1 0 4).toInt ≤ (q.2.1 0 4).toInt))) (a1 : Int32) (a2 : Int32) (a3 : Int32) (a4 : Int32) (k0 : Int32) (μ : Mem) (hI_μ : IM μ) (hc : 0 ≤ (a2).toInt ∧ (a2).toInt ≤ (μ.1 0 36).toInt ∧ (a2).toInt ≤ 30 ∧ 801 - (μ.1 0 4).toInt < n4 + 1 ∧ ((a4).toInt = -1 ∨ (μ.1 0 4).toInt < (μ.1 0 3).toInt) ∧ ((k0).toInt = 0 ∨ (a4).toInt = 42)) : ok (p_X12_readPart_b30 K4 a1 a2 a3 a4 k0 μ) (fun q => IM q.2 ∧ Fr [(0, 0, 36), (0, 0, 37), (0, 0, 4), (0, 0, 5), (0, 0, 6), (0, 0, 7), (1, 22, 0), (1, 23, 0), (1, 24, 0)] true μ q.2 ∧ (((q.1).toInt = 0 ∨ (q.1).toInt = 1) ∧ (μ.1 0 4).toInt ≤ (q.2.1 0 4).toInt)) := by
  have li0 : (0 : Int32).toInt = 0 := by decide
  have li1 : (1 : Int32).toInt = 1 := by decide
  have li91 : (91 : Int32).toInt = 91 := by decide
  have hF_μ : Fr [(0, 0, 36), (0, 0, 37), (0, 0, 4), (0, 0, 5), (0, 0, 6), (0, 0, 7), (1, 22, 0), (1, 23, 0), (1, 24, 0)] true μ μ := Fr.rf
  have hr_μ : μ.2.2 = μ.2.2 := rfl
  rw [p_X12_readPart_b30_eq]
  have lo_a1 := ti_lo a1
  have hi_a1 := ti_hi a1
  have lo_a2 := ti_lo a2
  have hi_a2 := ti_hi a2
  have lo_a3 := ti_lo a3
  have hi_a3 := ti_hi a3
  have lo_a4 := ti_lo a4
  have hi_a4 := ti_hi a4
  have lo_k0 := ti_lo k0
  have hi_k0 := ti_hi k0
  have g15 := rgm_0_4 hI_μ
  have g16 := rgm_0_36 hI_μ
  have g17 := rgm_0_3 hI_μ
  refine ok_ite ?_ ?_
  · intro c18
    rw [ti_eq] at c18
    refine ok_ite ?_ ?_
    · intro c19
      rw [ti_eq] at c19
      exact ok_mono (k_X12_readPart_b51 _ hK4 a1 a2 a3 a4 k0 μ hI_μ (by omega)) (fun q h => ⟨h.1, hF_μ.trans h.2.1, by have h9 := h.2.2; (try dsimp only at h9 ⊢); omega⟩)
    · intro c19
      rw [ti_eq] at c19
      refine ok_bd (k_X12_beginsNumber  μ hI_μ) ?_
      rintro r99 μ98 ⟨hq9, p_r99⟩
      obtain rfl : μ = μ98 := hq9
      dsimp only at p_r99
      have lo_r99 := ti_lo r99
      have hi_r99 := ti_hi r99
      refine ok_ite ?_ ?_
      · intro c100
        rw [ti_eq] at c100
        refine ok_bd (k_X12_fails (μ.1 0 4) μ hI_μ) ?_
        rintro r102 μ101 ⟨hI_μ101, hC_μ101, p_μ101⟩
        have hI_μ101 : IM μ101 := hI_μ101
        have hC_μ101 : Fr [(0, 0, 5)] true μ μ101 := hC_μ101
        dsimp only at p_μ101
        have lo_r102 := ti_lo r102
        have hi_r102 := ti_hi r102
        have hF_μ101 : Fr [(0, 0, 36), (0, 0, 37), (0, 0, 4), (0, 0, 5), (0, 0, 6), (0, 0, 7), (1, 22, 0), (1, 23, 0), (1, 24, 0)] true μ μ101 := hF_μ.trans (hC_μ101.mono (by decide +kernel) (by decide))
        have hr_μ101 : μ101.2.2 = μ.2.2 := (hC_μ101.2 rfl : μ101.2.2 = μ.2.2).trans hr_μ
        refine ok_gd (isB_of (by omega)) ?_
        have g103 := rgm_0_4 hI_μ101
        have f104 : (μ101.1 0 4).toInt = (μ.1 0 4).toInt := congrArg Int32.toInt (hC_μ101.1 0 4 (by decide +kernel))
        exact ok_some ⟨hI_μ101, hF_μ101, by (try dsimp only); (try rw [hr_μ101]); omega⟩
      · intro c100
        rw [ti_eq] at c100
        exact ok_mono (k_X12_readPart_b51 _ hK4 a1 a2 a3 a4 k0 μ hI_μ (by omega)) (fun q h => ⟨h.1, hF_μ.trans h.2.1, by have h9 := h.2.2; (try dsimp only at h9 ⊢); omega⟩)
  · intro c18
    rw [ti_eq] at c18
    exact ok_mono (k_X12_readPart_b51 _ hK4 a1 a2 a3 a4 k0 μ hI_μ (by omega)) (fun q h => ⟨h.1, hF_μ.trans h.2.1, by have h9 := h.2.2; (try dsimp only at h9 ⊢); omega⟩)
set_option maxHeartbeats 4000000 in
set_option maxRecDepth 100000 in
theorem k_X12_readPart_b29 {n4 : Nat} (K4 : Int32 → Int32 → Int32 → Mem → Option (Int32 × Mem)) (hK4 : ∀ (z1 : Int32) (z2 : Int32) (z3 : Int32) (μ1 : Mem), IM μ1 → (0 ≤ (z2).toInt ∧ (z2).toInt ≤ (μ1.1 0 36).toInt ∧ (z2).toInt ≤ 30 ∧ (μ1.1 0 4).toInt ≤ 800 ∧ 801 - (μ1.1 0 4).toInt < n4) → ok (K4 z1 z2 z3 μ1) (fun q => IM q.2 ∧ Fr [(0, 0, 36), (0, 0, 37), (0, 0, 4), (0, 0, 5), (0, 0, 6), (0, 0, 7), (1, 22, 0), (1, 23, 0), (1, 24, 0)] true μ1 q.2 ∧ (((q.1).toInt = 0 ∨ (q.1).toInt = 1) ∧ (μ1.1 0 4).toInt ≤ (q.2.1 0 4).toInt))) (a1 : Int32) (a2 : Int32) (a3 : Int32) (a4 : Int32) (μ : Mem) (hI_μ : IM μ) (hc : 0 ≤ (a2).toInt ∧ (a2).toInt ≤ (μ.1 0 36).toInt ∧ (a2).toInt ≤ 30 ∧ 801 - (μ.1 0 4).toInt < n4 + 1 ∧ ((a4).toInt = -1 ∨ (μ.1 0 4).toInt < (μ.1 0 3).toInt)) : ok (p_X12_readPart_b29 K4 a1 a2 a3 a4 μ) (fun q => IM q.2 ∧ Fr [(0, 0, 36), (0, 0, 37), (0, 0, 4), (0, 0, 5), (0, 0, 6), (0, 0, 7), (1, 22, 0), (1, 23, 0), (1, 24, 0)] true μ q.2 ∧ (((q.1).toInt = 0 ∨ (q.1).toInt = 1) ∧ (μ.1 0 4).toInt ≤ (q.2.1 0 4).toInt)) := by
  have li0 : (0 : Int32).toInt = 0 := by decide
  have li1 : (1 : Int32).toInt = 1 := by decide
  have hF_μ : Fr [(0, 0, 36), (0, 0, 37), (0, 0, 4), (0, 0, 5), (0, 0, 6), (0, 0, 7), (1, 22, 0), (1, 23, 0), (1, 24, 0)] true μ μ := Fr.rf
  have hr_μ : μ.2.2 = μ.2.2 := rfl
  rw [p_X12_readPart_b29_eq]
  have lo_a1 := ti_lo a1
  have hi_a1 := ti_hi a1
  have lo_a2 := ti_lo a2
  have hi_a2 := ti_hi a2
  have lo_a3 := ti_lo a3
  have hi_a3 := ti_hi a3
  have lo_a4 := ti_lo a4
  have hi_a4 := ti_hi a4
  have g12 := rgm_0_4 hI_μ
  have g13 := rgm_0_36 hI_μ
  have g14 := rgm_0_3 hI_μ
  exact ok_mono (k_X12_readPart_b30 _ hK4 a1 a2 a3 a4 (0 : Int32) μ hI_μ (by omega)) (fun q h => ⟨h.1, hF_μ.trans h.2.1, by have h9 := h.2.2; (try dsimp only at h9 ⊢); omega⟩)
set_option maxHeartbeats 4000000 in
set_option maxRecDepth 100000 in
theorem k_X12_readPart_b4 : ∀ (n : Nat) (a1 : Int32) (a2 : Int32) (a3 : Int32) (μ : Mem), IM μ → (0 ≤ (a2).toInt ∧ (a2).toInt ≤ (μ.1 0 36).toInt ∧ (a2).toInt ≤ 30 ∧ (μ.1 0 4).toInt ≤ 800 ∧ 801 - (μ.1 0 4).toInt < n) → ok (p_X12_readPart_b4 n a1 a2 a3 μ) (fun q => IM q.2 ∧ Fr [(0, 0, 36), (0, 0, 37), (0, 0, 4), (0, 0, 5), (0, 0, 6), (0, 0, 7), (1, 22, 0), (1, 23, 0), (1, 24, 0)] true μ q.2 ∧ (((q.1).toInt = 0 ∨ (q.1).toInt = 1) ∧ (μ.1 0 4).toInt ≤ (q.2.1 0 4).toInt)) := by
  have lim1 : (-1 : Int32).toInt = -1 := by decide
  have li0 : (0 : Int32).toInt = 0 := by decide
  have li1 : (1 : Int32).toInt = 1 := by decide
  have li42 : (42 : Int32).toInt = 42 := by decide
  intro n
  induction n with
  | zero => intro a1 a2 a3 μ hI_μ hc; exact absurd hc (by have lo_a1 := ti_lo a1; have hi_a1 := ti_hi a1; have lo_a2 := ti_lo a2; have hi_a2 := ti_hi a2; have lo_a3 := ti_lo a3; have hi_a3 := ti_hi a3; omega)
  | succ n ih =>
    intro a1 a2 a3 μ hI_μ hc
    have hF_μ : Fr [(0, 0, 36), (0, 0, 37), (0, 0, 4), (0, 0, 5), (0, 0, 6), (0, 0, 7), (1, 22, 0), (1, 23, 0), (1, 24, 0)] true μ μ := Fr.rf
    have hr_μ : μ.2.2 = μ.2.2 := rfl
    rw [p_X12_readPart_b4_s]
    have lo_a1 := ti_lo a1
    have hi_a1 := ti_hi a1
    have lo_a2 := ti_lo a2
    have hi_a2 := ti_hi a2
    have lo_a3 := ti_lo a3
    have hi_a3 := ti_hi a3
    have g2 := rgm_0_4 hI_μ
    have g3 := rgm_0_36 hI_μ
    refine ok_ite ?_ ?_
    · intro c4
      rw [ti_eq] at c4
      have g5 := ti_lo (μ.1 0 5)
      have g5h := ti_hi (μ.1 0 5)
      refine ok_ite ?_ ?_
      · intro c6
        rw [ti_eq] at c6
        exact ok_some ⟨hI_μ, hF_μ, by (try dsimp only); omega⟩
      · intro c6
        rw [ti_eq] at c6
        exact ok_some ⟨hI_μ, hF_μ, by (try dsimp only); omega⟩
    · intro c4
      rw [ti_eq] at c4
      have g9 := rgm_0_3 hI_μ
      refine ok_bd (k_X12_here  μ hI_μ) ?_
      rintro r8 μ7 ⟨hq9, p_r8⟩
      obtain rfl : μ = μ7 := hq9
      dsimp only at p_r8
      have lo_r8 := ti_lo r8
      have hi_r8 := ti_hi r8
      refine ok_ite ?_ ?_
      · intro c10
        rw [ti_eq] at c10
        refine ok_ite ?_ ?_
        · intro c11
          rw [ti_eq] at c11
          exact ok_mono (k_X12_readPart_b29 _ ih a1 a2 a3 r8 μ hI_μ (by omega)) (fun q h => ⟨h.1, hF_μ.trans h.2.1, by have h9 := h.2.2; (try dsimp only at h9 ⊢); omega⟩)
        · intro c11
          rw [ti_eq] at c11
          exact ok_mono (k_X12_readPart_b30 _ ih a1 a2 a3 r8 (1 : Int32) μ hI_μ (by omega)) (fun q h => ⟨h.1, hF_μ.trans h.2.1, by have h9 := h.2.2; (try dsimp only at h9 ⊢); omega⟩)
      · intro c10
        rw [ti_eq] at c10
        exact ok_mono (k_X12_readPart_b29 _ ih a1 a2 a3 r8 μ hI_μ (by omega)) (fun q h => ⟨h.1, hF_μ.trans h.2.1, by have h9 := h.2.2; (try dsimp only at h9 ⊢); omega⟩)
set_option maxHeartbeats 4000000 in
set_option maxRecDepth 100000 in
theorem k_X12_readPart (a1 : Int32) (μ : Mem) (hI_μ : IM μ) : ok (p_X12_readPart a1 μ) (fun q => IM q.2 ∧ Fr [(0, 0, 36), (0, 0, 37), (0, 0, 4), (0, 0, 5), (0, 0, 6), (0, 0, 7), (1, 22, 0), (1, 23, 0), (1, 24, 0)] true μ q.2 ∧ (((q.1).toInt = 0 ∨ (q.1).toInt = 1) ∧ (μ.1 0 4).toInt ≤ (q.2.1 0 4).toInt)) := by
  have li0 : (0 : Int32).toInt = 0 := by decide
  have li1 : (1 : Int32).toInt = 1 := by decide
  have hF_μ : Fr [(0, 0, 36), (0, 0, 37), (0, 0, 4), (0, 0, 5), (0, 0, 6), (0, 0, 7), (1, 22, 0), (1, 23, 0), (1, 24, 0)] true μ μ := Fr.rf
  have hr_μ : μ.2.2 = μ.2.2 := rfl
  rw [p_X12_readPart_eq]
  have lo_a1 := ti_lo a1
  have hi_a1 := ti_hi a1
  have g1 := rgm_0_4 hI_μ
  have g106 := rgm_0_36 hI_μ
  obtain ⟨fu, hfu0, hfu⟩ := fuel_ex
  rw [hfu0]
  exact ok_mono (k_X12_readPart_b4  fu a1 (0 : Int32) (1 : Int32) μ hI_μ (by omega)) (fun q h => ⟨h.1, hF_μ.trans h.2.1, by have h9 := h.2.2; (try dsimp only at h9 ⊢); omega⟩)
