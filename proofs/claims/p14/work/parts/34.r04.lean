set_option maxHeartbeats 4000000 in
set_option maxRecDepth 100000 in
theorem k_X12_goesOn (a1 : Int32) (a2 : Int32) (μ : Mem) (hI_μ : IM μ) (hc : 0 ≤ (a1).toInt ∧ (a1).toInt < 800 ∧ (a2).toInt = (μ.1 16 (a1).toNatClampNeg).toInt) : ok (p_X12_goesOn a1 a2 μ) (fun q => IM q.2 ∧ Fr [(0, 0, 4), (0, 0, 5), (1, 17, 0), (1, 21, 0)] true μ q.2 ∧ (((q.1).toInt = 0 ∨ (q.1).toInt = 1) ∧ (μ.1 0 4).toInt ≤ (q.2.1 0 4).toInt)) := by
  have li0 : (0 : Int32).toInt = 0 := by decide
  have li1 : (1 : Int32).toInt = 1 := by decide
  have li5 : (5 : Int32).toInt = 5 := by decide
  have li11 : (11 : Int32).toInt = 11 := by decide
  have li44 : (44 : Int32).toInt = 44 := by decide
  have hF_μ : Fr [(0, 0, 4), (0, 0, 5), (1, 17, 0), (1, 21, 0)] true μ μ := Fr.rf
  have hr_μ : μ.2.2 = μ.2.2 := rfl
  rw [p_X12_goesOn_eq]
  have lo_a1 := ti_lo a1
  have hi_a1 := ti_hi a1
  have lo_a2 := ti_lo a2
  have hi_a2 := ti_hi a2
  have g1 := rgm_0_4 hI_μ
  refine ok_ite ?_ ?_
  · intro c2
    rw [ti_eq] at c2
    have g5 := rgm_0_3 hI_μ
    refine ok_bd (k_X12_here  μ hI_μ) ?_
    rintro r4 μ3 ⟨hq9, p_r4⟩
    obtain rfl : μ = μ3 := hq9
    dsimp only at p_r4
    have lo_r4 := ti_lo r4
    have hi_r4 := ti_hi r4
    refine ok_ite ?_ ?_
    · intro c6
      rw [ti_eq] at c6
      have y7 := tf_isSign r4
      refine ok_bd (k_X12_fails (μ.1 0 4) μ hI_μ) ?_
      rintro r9 μ8 ⟨hI_μ8, hC_μ8, p_μ8⟩
      have hI_μ8 : IM μ8 := hI_μ8
      have hC_μ8 : Fr [(0, 0, 5)] true μ μ8 := hC_μ8
      dsimp only at p_μ8
      have lo_r9 := ti_lo r9
      have hi_r9 := ti_hi r9
      have hF_μ8 : Fr [(0, 0, 4), (0, 0, 5), (1, 17, 0), (1, 21, 0)] true μ μ8 := hF_μ.trans (hC_μ8.mono (by decide +kernel) (by decide))
      have hr_μ8 : μ8.2.2 = μ.2.2 := (hC_μ8.2 rfl : μ8.2.2 = μ.2.2).trans hr_μ
      refine ok_gd (isB_of (by omega)) ?_
      have g10 := rgm_0_4 hI_μ8
      have f11 : (μ8.1 0 4).toInt = (μ.1 0 4).toInt := congrArg Int32.toInt (hC_μ8.1 0 4 (by decide +kernel))
      exact ok_some ⟨hI_μ8, hF_μ8, by (try dsimp only); (try rw [hr_μ8]); omega⟩
    · intro c6
      rw [ti_eq] at c6
      have y13 := tf_isSign r4
      refine ok_bd (k_X12_here  μ hI_μ) ?_
      rintro r15 μ14 ⟨hq9, p_r15⟩
      obtain rfl : μ = μ14 := hq9
      dsimp only at p_r15
      have lo_r15 := ti_lo r15
      have hi_r15 := ti_hi r15
      refine ok_gd (inb_iff.mpr (by omega)) ?_
      refine ok_bv (fun μ16 e_μ16 => ?_)
      have hI_μ16 : IM μ16 := by rw [e_μ16]; exact IM_17 hI_μ (by omega)
      have hF_μ16 : Fr [(0, 0, 4), (0, 0, 5), (1, 17, 0), (1, 21, 0)] true μ μ16 := by rw [e_μ16]; exact Fr.puta hF_μ (by decide +kernel)
      have hr_μ16 : μ16.2.2 = μ.2.2 := (by rw [e_μ16]; rfl : μ16.2.2 = μ.2.2).trans hr_μ
      have g17 := rgm_0_4 hI_μ16
      have f18 : (μ16.1 0 4).toInt = (μ.1 0 4).toInt := congrArg Int32.toInt ((by rw [e_μ16]; rfl : μ16.1 0 4 = μ.1 0 4))
      refine ok_bv (fun μ19 e_μ19 => ?_)
      have hI_μ19 : IM μ19 := by rw [e_μ19]; exact IM_F hI_μ16 (rpm_0_4 (by (try rw [TI.e (e := ((μ16.1 0 4) + (1 : Int32))) (n := ((μ16.1 0 4).toInt + 1)) (TI.add TI.rf (TI.lit (by decide)) (by omega) (by omega))]); omega))
      have hF_μ19 : Fr [(0, 0, 4), (0, 0, 5), (1, 17, 0), (1, 21, 0)] true μ μ19 := by rw [e_μ19]; exact Fr.put hF_μ16 (by decide +kernel)
      have v_μ19 : (μ19.1 0 4).toInt = ((μ16.1 0 4).toInt + 1) := by rw [e_μ19, sF_v]; exact TI.e (n := ((μ16.1 0 4).toInt + 1)) (TI.add TI.rf (TI.lit (by decide)) (by omega) (by omega))
      have hr_μ19 : μ19.2.2 = μ.2.2 := (by rw [e_μ19]; rfl : μ19.2.2 = μ16.2.2).trans hr_μ16
      have g20 := rgm_0_4 hI_μ19
      exact ok_some ⟨hI_μ19, hF_μ19, by (try dsimp only); (try rw [hr_μ19]); omega⟩
  · intro c2
    rw [ti_eq] at c2
    refine ok_ite ?_ ?_
    · intro c21
      rw [ti_eq] at c21
      refine ok_gd (inb_iff.mpr (by omega)) ?_
      have g22 := hI_μ.2 a1.toNatClampNeg
      refine ok_bv (fun v23 ev23 => ?_)
      have tv23 : v23.toInt = (μ.1 17 a1.toNatClampNeg).toInt := congrArg Int32.toInt ev23
      refine ok_gd (inb_iff.mpr (by omega)) ?_
      refine ok_gd (inb_iff.mpr (by omega)) ?_
      refine ok_bv (fun μ24 e_μ24 => ?_)
      have hI_μ24 : IM μ24 := by rw [e_μ24]; exact IM_F hI_μ (rtma_21 _ _)
      have hF_μ24 : Fr [(0, 0, 4), (0, 0, 5), (1, 17, 0), (1, 21, 0)] true μ μ24 := by rw [e_μ24]; exact Fr.puta hF_μ (by decide +kernel)
      have hr_μ24 : μ24.2.2 = μ.2.2 := (by rw [e_μ24]; rfl : μ24.2.2 = μ.2.2).trans hr_μ
      have g27 := rgm_0_4 hI_μ24
      have f28 : (μ24.1 0 4).toInt = (μ.1 0 4).toInt := congrArg Int32.toInt ((by rw [e_μ24]; rfl : μ24.1 0 4 = μ.1 0 4))
      have g29 := rgm_0_3 hI_μ24
      refine ok_bd (k_X12_takes (44 : Int32) μ24 hI_μ24 (by (try rw [hr_μ24]); omega)) ?_
      rintro r26 μ25 ⟨hI_μ25, hC_μ25, p_μ25⟩
      have hI_μ25 : IM μ25 := hI_μ25
      have hC_μ25 : Fr [(0, 0, 4), (0, 0, 5)] true μ24 μ25 := hC_μ25
      dsimp only at p_μ25
      have lo_r26 := ti_lo r26
      have hi_r26 := ti_hi r26
      have hF_μ25 : Fr [(0, 0, 4), (0, 0, 5), (1, 17, 0), (1, 21, 0)] true μ μ25 := hF_μ24.trans (hC_μ25.mono (by decide +kernel) (by decide))
      have hr_μ25 : μ25.2.2 = μ.2.2 := (hC_μ25.2 rfl : μ25.2.2 = μ24.2.2).trans hr_μ24
      try simp only [hr_μ25, hr_μ24] at p_μ25
      have g30 := rgm_0_4 hI_μ25
      refine ok_gd (isB_of (by omega)) ?_
      exact ok_some ⟨hI_μ25, hF_μ25, by (try dsimp only); (try rw [hr_μ25]); omega⟩
    · intro c21
      rw [ti_eq] at c21
      have g34 := rgm_0_3 hI_μ
      refine ok_bd (k_X12_takes (44 : Int32) μ hI_μ (by omega)) ?_
      rintro r33 μ32 ⟨hI_μ32, hC_μ32, p_μ32⟩
      have hI_μ32 : IM μ32 := hI_μ32
      have hC_μ32 : Fr [(0, 0, 4), (0, 0, 5)] true μ μ32 := hC_μ32
      dsimp only at p_μ32
      have lo_r33 := ti_lo r33
      have hi_r33 := ti_hi r33
      have hF_μ32 : Fr [(0, 0, 4), (0, 0, 5), (1, 17, 0), (1, 21, 0)] true μ μ32 := hF_μ.trans (hC_μ32.mono (by decide +kernel) (by decide))
      have hr_μ32 : μ32.2.2 = μ.2.2 := (hC_μ32.2 rfl : μ32.2.2 = μ.2.2).trans hr_μ
      try simp only [hr_μ32, hr_μ] at p_μ32
      have g35 := rgm_0_4 hI_μ32
      refine ok_gd (isB_of (by omega)) ?_
      exact ok_some ⟨hI_μ32, hF_μ32, by (try dsimp only); (try rw [hr_μ32]); omega⟩

set_option maxHeartbeats 4000000 in
set_option maxRecDepth 100000 in
theorem k_X12_hasMore_b188 {n0 : Nat} (K0 : Mem → Option (Int32 × Mem)) (hK0 : ∀  (μ1 : Mem), IM μ1 → ((μ1.1 0 28).toInt ≤ (μ1.1 0 4).toInt ∧ 0 ≤ (μ1.1 0 32).toInt ∧ (μ1.1 0 32).toInt < n0) → ok (K0  μ1) (fun q => IM q.2 ∧ Fr [(0, 0, 32), (0, 0, 4), (0, 0, 5), (1, 17, 0), (1, 18, 0), (1, 20, 0), (1, 21, 0)] true μ1 q.2 ∧ (((q.1).toInt = 0 ∨ (q.1).toInt = 1) ∧ (q.2.1 0 28).toInt ≤ (q.2.1 0 4).toInt ∧ (μ1.1 0 4).toInt ≤ (q.2.1 0 4).toInt)))  (μ : Mem) (hI_μ : IM μ) (hc : (μ.1 0 28).toInt ≤ (μ.1 0 4).toInt ∧ 1 ≤ (μ.1 0 32).toInt ∧ (μ.1 0 32).toInt < n0 + 1) : ok (p_X12_hasMore_b188 K0  μ) (fun q => IM q.2 ∧ Fr [(0, 0, 32), (0, 0, 4), (0, 0, 5), (1, 17, 0), (1, 18, 0), (1, 20, 0), (1, 21, 0)] true μ q.2 ∧ (((q.1).toInt = 0 ∨ (q.1).toInt = 1) ∧ (q.2.1 0 28).toInt ≤ (q.2.1 0 4).toInt ∧ (μ.1 0 4).toInt ≤ (q.2.1 0 4).toInt)) := by
  have li0 : (0 : Int32).toInt = 0 := by decide
  have li1 : (1 : Int32).toInt = 1 := by decide
  have hF_μ : Fr [(0, 0, 32), (0, 0, 4), (0, 0, 5), (1, 17, 0), (1, 18, 0), (1, 20, 0), (1, 21, 0)] true μ μ := Fr.rf
  have hr_μ : μ.2.2 = μ.2.2 := rfl
  rw [p_X12_hasMore_b188_eq]
  have g47 := rgm_0_4 hI_μ
  have g48 := rgm_0_28 hI_μ
  have g49 := rgm_0_32 hI_μ
  refine ok_bv (fun μ50 e_μ50 => ?_)
  have hI_μ50 : IM μ50 := by rw [e_μ50]; exact IM_F hI_μ (rpm_0_32 (by (try rw [TI.e (e := ((μ.1 0 32) - (1 : Int32))) (n := ((μ.1 0 32).toInt - 1)) (TI.sub TI.rf (TI.lit (by decide)) (by omega) (by omega))]); omega))
  have hF_μ50 : Fr [(0, 0, 32), (0, 0, 4), (0, 0, 5), (1, 17, 0), (1, 18, 0), (1, 20, 0), (1, 21, 0)] true μ μ50 := by rw [e_μ50]; exact Fr.put hF_μ (by decide +kernel)
  have v_μ50 : (μ50.1 0 32).toInt = ((μ.1 0 32).toInt - 1) := by rw [e_μ50, sF_v]; exact TI.e (n := ((μ.1 0 32).toInt - 1)) (TI.sub TI.rf (TI.lit (by decide)) (by omega) (by omega))
  have hr_μ50 : μ50.2.2 = μ.2.2 := (by rw [e_μ50]; rfl : μ50.2.2 = μ.2.2).trans hr_μ
  have g51 := rgm_0_28 hI_μ50
  have f52 : (μ50.1 0 28).toInt = (μ.1 0 28).toInt := congrArg Int32.toInt ((by rw [e_μ50]; rfl : μ50.1 0 28 = μ.1 0 28))
  have g53 := rgm_0_4 hI_μ50
  have f54 : (μ50.1 0 4).toInt = (μ.1 0 4).toInt := congrArg Int32.toInt ((by rw [e_μ50]; rfl : μ50.1 0 4 = μ.1 0 4))
  have g55 := rgm_0_32 hI_μ50
  exact ok_mono (hK0  μ50 hI_μ50 (by (try rw [hr_μ50]); omega)) (fun q h => ⟨h.1, hF_μ50.trans h.2.1, by have h9 := h.2.2; (try dsimp only at h9 ⊢); omega⟩)
set_option maxHeartbeats 4000000 in
set_option maxRecDepth 100000 in
theorem k_X12_hasMore_b167 {n0 : Nat} (K0 : Mem → Option (Int32 × Mem)) (hK0 : ∀  (μ1 : Mem), IM μ1 → ((μ1.1 0 28).toInt ≤ (μ1.1 0 4).toInt ∧ 0 ≤ (μ1.1 0 32).toInt ∧ (μ1.1 0 32).toInt < n0) → ok (K0  μ1) (fun q => IM q.2 ∧ Fr [(0, 0, 32), (0, 0, 4), (0, 0, 5), (1, 17, 0), (1, 18, 0), (1, 20, 0), (1, 21, 0)] true μ1 q.2 ∧ (((q.1).toInt = 0 ∨ (q.1).toInt = 1) ∧ (q.2.1 0 28).toInt ≤ (q.2.1 0 4).toInt ∧ (μ1.1 0 4).toInt ≤ (q.2.1 0 4).toInt))) (a1 : Int32) (a3 : Int32) (μ : Mem) (hI_μ : IM μ) (hc : 0 ≤ (a1).toInt ∧ (a1).toInt < 800 ∧ (a3).toInt = (μ.1 16 (a1).toNatClampNeg).toInt ∧ (μ.1 0 28).toInt ≤ (μ.1 0 4).toInt ∧ 1 ≤ (μ.1 0 32).toInt ∧ (μ.1 0 32).toInt < n0 + 1) : ok (p_X12_hasMore_b167 K0 a1 a3 μ) (fun q => IM q.2 ∧ Fr [(0, 0, 32), (0, 0, 4), (0, 0, 5), (1, 17, 0), (1, 18, 0), (1, 20, 0), (1, 21, 0)] true μ q.2 ∧ (((q.1).toInt = 0 ∨ (q.1).toInt = 1) ∧ (q.2.1 0 28).toInt ≤ (q.2.1 0 4).toInt ∧ (μ.1 0 4).toInt ≤ (q.2.1 0 4).toInt)) := by
  have li0 : (0 : Int32).toInt = 0 := by decide
  have li1 : (1 : Int32).toInt = 1 := by decide
  have li11 : (11 : Int32).toInt = 11 := by decide
  have hF_μ : Fr [(0, 0, 32), (0, 0, 4), (0, 0, 5), (1, 17, 0), (1, 18, 0), (1, 20, 0), (1, 21, 0)] true μ μ := Fr.rf
  have hr_μ : μ.2.2 = μ.2.2 := rfl
  rw [p_X12_hasMore_b167_eq]
  have lo_a1 := ti_lo a1
  have hi_a1 := ti_hi a1
  have lo_a3 := ti_lo a3
  have hi_a3 := ti_hi a3
  have g40 := rgm_0_4 hI_μ
  have g41 := rgm_0_28 hI_μ
  have g42 := rgm_0_32 hI_μ
  refine ok_ite ?_ ?_
  · intro c43
    rw [ti_eq] at c43
    refine ok_gd (inb_iff.mpr (by omega)) ?_
    have g44 := hI_μ.2 a1.toNatClampNeg
    refine ok_bv (fun v45 ev45 => ?_)
    have tv45 : v45.toInt = (μ.1 17 a1.toNatClampNeg).toInt := congrArg Int32.toInt ev45
    refine ok_gd (inb_iff.mpr (by omega)) ?_
    refine ok_gd (inb_iff.mpr (by omega)) ?_
    refine ok_bv (fun μ46 e_μ46 => ?_)
    have hI_μ46 : IM μ46 := by rw [e_μ46]; exact IM_F hI_μ (rtma_21 _ _)
    have hF_μ46 : Fr [(0, 0, 32), (0, 0, 4), (0, 0, 5), (1, 17, 0), (1, 18, 0), (1, 20, 0), (1, 21, 0)] true μ μ46 := by rw [e_μ46]; exact Fr.puta hF_μ (by decide +kernel)
    have hr_μ46 : μ46.2.2 = μ.2.2 := (by rw [e_μ46]; rfl : μ46.2.2 = μ.2.2).trans hr_μ
    have g56 := rgm_0_28 hI_μ46
    have f57 : (μ46.1 0 28).toInt = (μ.1 0 28).toInt := congrArg Int32.toInt ((by rw [e_μ46]; rfl : μ46.1 0 28 = μ.1 0 28))
    have g58 := rgm_0_4 hI_μ46
    have f59 : (μ46.1 0 4).toInt = (μ.1 0 4).toInt := congrArg Int32.toInt ((by rw [e_μ46]; rfl : μ46.1 0 4 = μ.1 0 4))
    have g60 := rgm_0_32 hI_μ46
    have f61 : (μ46.1 0 32).toInt = (μ.1 0 32).toInt := congrArg Int32.toInt ((by rw [e_μ46]; rfl : μ46.1 0 32 = μ.1 0 32))
    exact ok_mono (k_X12_hasMore_b188 _ hK0  μ46 hI_μ46 (by (try rw [hr_μ46]); omega)) (fun q h => ⟨h.1, hF_μ46.trans h.2.1, by have h9 := h.2.2; (try dsimp only at h9 ⊢); omega⟩)
  · intro c43
    rw [ti_eq] at c43
    exact ok_mono (k_X12_hasMore_b188 _ hK0  μ hI_μ (by omega)) (fun q h => ⟨h.1, hF_μ.trans h.2.1, by have h9 := h.2.2; (try dsimp only at h9 ⊢); omega⟩)
set_option maxHeartbeats 4000000 in
set_option maxRecDepth 100000 in
theorem k_X12_hasMore_b148 {n0 : Nat} (K0 : Mem → Option (Int32 × Mem)) (hK0 : ∀  (μ1 : Mem), IM μ1 → ((μ1.1 0 28).toInt ≤ (μ1.1 0 4).toInt ∧ 0 ≤ (μ1.1 0 32).toInt ∧ (μ1.1 0 32).toInt < n0) → ok (K0  μ1) (fun q => IM q.2 ∧ Fr [(0, 0, 32), (0, 0, 4), (0, 0, 5), (1, 17, 0), (1, 18, 0), (1, 20, 0), (1, 21, 0)] true μ1 q.2 ∧ (((q.1).toInt = 0 ∨ (q.1).toInt = 1) ∧ (q.2.1 0 28).toInt ≤ (q.2.1 0 4).toInt ∧ (μ1.1 0 4).toInt ≤ (q.2.1 0 4).toInt))) (a1 : Int32) (a3 : Int32) (k0 : Int32) (μ : Mem) (hI_μ : IM μ) (hc : 0 ≤ (a1).toInt ∧ (a1).toInt < 800 ∧ (a3).toInt = (μ.1 16 (a1).toNatClampNeg).toInt ∧ (μ.1 0 28).toInt ≤ (μ.1 0 4).toInt ∧ 1 ≤ (μ.1 0 32).toInt ∧ (μ.1 0 32).toInt < n0 + 1 ∧ ((k0).toInt = -1 ∨ 0 ≤ (k0).toInt)) : ok (p_X12_hasMore_b148 K0 a1 a3 k0 μ) (fun q => IM q.2 ∧ Fr [(0, 0, 32), (0, 0, 4), (0, 0, 5), (1, 17, 0), (1, 18, 0), (1, 20, 0), (1, 21, 0)] true μ q.2 ∧ (((q.1).toInt = 0 ∨ (q.1).toInt = 1) ∧ (q.2.1 0 28).toInt ≤ (q.2.1 0 4).toInt ∧ (μ.1 0 4).toInt ≤ (q.2.1 0 4).toInt)) := by
  have lim1 : (-1 : Int32).toInt = -1 := by decide
  have li0 : (0 : Int32).toInt = 0 := by decide
  have li1 : (1 : Int32).toInt = 1 := by decide
  have hF_μ : Fr [(0, 0, 32), (0, 0, 4), (0, 0, 5), (1, 17, 0), (1, 18, 0), (1, 20, 0), (1, 21, 0)] true μ μ := Fr.rf
  have hr_μ : μ.2.2 = μ.2.2 := rfl
  rw [p_X12_hasMore_b148_eq]
  have lo_a1 := ti_lo a1
  have hi_a1 := ti_hi a1
  have lo_a3 := ti_lo a3
  have hi_a3 := ti_hi a3
  have lo_k0 := ti_lo k0
  have hi_k0 := ti_hi k0
  have g36 := rgm_0_4 hI_μ
  have g37 := rgm_0_28 hI_μ
  have g38 := rgm_0_32 hI_μ
  refine ok_ite ?_ ?_
  · intro c39
    rw [ti_eq] at c39
    exact ok_mono (k_X12_hasMore_b167 _ hK0 a1 a3 μ hI_μ (by omega)) (fun q h => ⟨h.1, hF_μ.trans h.2.1, by have h9 := h.2.2; (try dsimp only at h9 ⊢); omega⟩)
  · intro c39
    rw [ti_eq] at c39
    have g64 := rgm_0_3 hI_μ
    refine ok_bd (k_X12_takes k0 μ hI_μ (by omega)) ?_
    rintro r63 μ62 ⟨hI_μ62, hC_μ62, p_μ62⟩
    have hI_μ62 : IM μ62 := hI_μ62
    have hC_μ62 : Fr [(0, 0, 4), (0, 0, 5)] true μ μ62 := hC_μ62
    dsimp only at p_μ62
    have lo_r63 := ti_lo r63
    have hi_r63 := ti_hi r63
    have hF_μ62 : Fr [(0, 0, 32), (0, 0, 4), (0, 0, 5), (1, 17, 0), (1, 18, 0), (1, 20, 0), (1, 21, 0)] true μ μ62 := hF_μ.trans (hC_μ62.mono (by decide +kernel) (by decide))
    have hr_μ62 : μ62.2.2 = μ.2.2 := (hC_μ62.2 rfl : μ62.2.2 = μ.2.2).trans hr_μ
    try simp only [hr_μ62, hr_μ] at p_μ62
    have g65 := rgm_0_4 hI_μ62
    refine ok_ite ?_ ?_
    · intro c66
      rw [ti_eq] at c66
      have g67 := rgm_0_28 hI_μ62
      have f68 : (μ62.1 0 28).toInt = (μ.1 0 28).toInt := congrArg Int32.toInt (hC_μ62.1 0 28 (by decide +kernel))
      exact ok_some ⟨hI_μ62, hF_μ62, by (try dsimp only); (try rw [hr_μ62]); omega⟩
    · intro c66
      rw [ti_eq] at c66
      have g69 := rgm_0_28 hI_μ62
      have f70 : (μ62.1 0 28).toInt = (μ.1 0 28).toInt := congrArg Int32.toInt (hC_μ62.1 0 28 (by decide +kernel))
      have g71 := rgm_0_32 hI_μ62
      have f72 : (μ62.1 0 32).toInt = (μ.1 0 32).toInt := congrArg Int32.toInt (hC_μ62.1 0 32 (by decide +kernel))
      have f73 : (μ62.1 16 a1.toNatClampNeg).toInt = (μ.1 16 a1.toNatClampNeg).toInt := congrArg Int32.toInt ((hC_μ62.1 16 _ (by simp [hit])))
      exact ok_mono (k_X12_hasMore_b167 _ hK0 a1 a3 μ62 hI_μ62 (by (try rw [hr_μ62]); omega)) (fun q h => ⟨h.1, hF_μ62.trans h.2.1, by have h9 := h.2.2; (try dsimp only at h9 ⊢); omega⟩)
set_option maxHeartbeats 4000000 in
set_option maxRecDepth 100000 in
theorem k_X12_hasMore_b132 {n0 : Nat} (K0 : Mem → Option (Int32 × Mem)) (hK0 : ∀  (μ1 : Mem), IM μ1 → ((μ1.1 0 28).toInt ≤ (μ1.1 0 4).toInt ∧ 0 ≤ (μ1.1 0 32).toInt ∧ (μ1.1 0 32).toInt < n0) → ok (K0  μ1) (fun q => IM q.2 ∧ Fr [(0, 0, 32), (0, 0, 4), (0, 0, 5), (1, 17, 0), (1, 18, 0), (1, 20, 0), (1, 21, 0)] true μ1 q.2 ∧ (((q.1).toInt = 0 ∨ (q.1).toInt = 1) ∧ (q.2.1 0 28).toInt ≤ (q.2.1 0 4).toInt ∧ (μ1.1 0 4).toInt ≤ (q.2.1 0 4).toInt))) (a1 : Int32) (a3 : Int32) (μ : Mem) (hI_μ : IM μ) (hc : 0 ≤ (a1).toInt ∧ (a1).toInt < 800 ∧ (a3).toInt = (μ.1 16 (a1).toNatClampNeg).toInt ∧ (μ.1 0 28).toInt ≤ (μ.1 0 4).toInt ∧ 1 ≤ (μ.1 0 32).toInt ∧ (μ.1 0 32).toInt < n0 + 1) : ok (p_X12_hasMore_b132 K0 a1 a3 μ) (fun q => IM q.2 ∧ Fr [(0, 0, 32), (0, 0, 4), (0, 0, 5), (1, 17, 0), (1, 18, 0), (1, 20, 0), (1, 21, 0)] true μ q.2 ∧ (((q.1).toInt = 0 ∨ (q.1).toInt = 1) ∧ (q.2.1 0 28).toInt ≤ (q.2.1 0 4).toInt ∧ (μ.1 0 4).toInt ≤ (q.2.1 0 4).toInt)) := by
  have li0 : (0 : Int32).toInt = 0 := by decide
  have li1 : (1 : Int32).toInt = 1 := by decide
  have li41 : (41 : Int32).toInt = 41 := by decide
  have hF_μ : Fr [(0, 0, 32), (0, 0, 4), (0, 0, 5), (1, 17, 0), (1, 18, 0), (1, 20, 0), (1, 21, 0)] true μ μ := Fr.rf
  have hr_μ : μ.2.2 = μ.2.2 := rfl
  rw [p_X12_hasMore_b132_eq]
  have lo_a1 := ti_lo a1
  have hi_a1 := ti_hi a1
  have lo_a3 := ti_lo a3
  have hi_a3 := ti_hi a3
  have g33 := rgm_0_4 hI_μ
  have g34 := rgm_0_28 hI_μ
  have g35 := rgm_0_32 hI_μ
  exact ok_mono (k_X12_hasMore_b148 _ hK0 a1 a3 (41 : Int32) μ hI_μ (by omega)) (fun q h => ⟨h.1, hF_μ.trans h.2.1, by have h9 := h.2.2; (try dsimp only at h9 ⊢); omega⟩)
set_option maxHeartbeats 4000000 in
set_option maxRecDepth 100000 in
theorem k_X12_hasMore_b98 {n0 : Nat} (K0 : Mem → Option (Int32 × Mem)) (hK0 : ∀  (μ1 : Mem), IM μ1 → ((μ1.1 0 28).toInt ≤ (μ1.1 0 4).toInt ∧ 0 ≤ (μ1.1 0 32).toInt ∧ (μ1.1 0 32).toInt < n0) → ok (K0  μ1) (fun q => IM q.2 ∧ Fr [(0, 0, 32), (0, 0, 4), (0, 0, 5), (1, 17, 0), (1, 18, 0), (1, 20, 0), (1, 21, 0)] true μ1 q.2 ∧ (((q.1).toInt = 0 ∨ (q.1).toInt = 1) ∧ (q.2.1 0 28).toInt ≤ (q.2.1 0 4).toInt ∧ (μ1.1 0 4).toInt ≤ (q.2.1 0 4).toInt))) (a1 : Int32) (a2 : Int32) (a3 : Int32) (μ : Mem) (hI_μ : IM μ) (hc : 0 ≤ (a1).toInt ∧ (a1).toInt < 800 ∧ (a3).toInt = (μ.1 16 (a1).toNatClampNeg).toInt ∧ (μ.1 0 28).toInt ≤ (μ.1 0 4).toInt ∧ 1 ≤ (μ.1 0 32).toInt ∧ (μ.1 0 32).toInt < n0 + 1) : ok (p_X12_hasMore_b98 K0 a1 a2 a3 μ) (fun q => IM q.2 ∧ Fr [(0, 0, 32), (0, 0, 4), (0, 0, 5), (1, 17, 0), (1, 18, 0), (1, 20, 0), (1, 21, 0)] true μ q.2 ∧ (((q.1).toInt = 0 ∨ (q.1).toInt = 1) ∧ (q.2.1 0 28).toInt ≤ (q.2.1 0 4).toInt ∧ (μ.1 0 4).toInt ≤ (q.2.1 0 4).toInt)) := by
  have lim1 : (-1 : Int32).toInt = -1 := by decide
  have li0 : (0 : Int32).toInt = 0 := by decide
  have li1 : (1 : Int32).toInt = 1 := by decide
  have li2 : (2 : Int32).toInt = 2 := by decide
  have li5 : (5 : Int32).toInt = 5 := by decide
  have li7 : (7 : Int32).toInt = 7 := by decide
  have li12 : (12 : Int32).toInt = 12 := by decide
  have li93 : (93 : Int32).toInt = 93 := by decide
  have hF_μ : Fr [(0, 0, 32), (0, 0, 4), (0, 0, 5), (1, 17, 0), (1, 18, 0), (1, 20, 0), (1, 21, 0)] true μ μ := Fr.rf
  have hr_μ : μ.2.2 = μ.2.2 := rfl
  rw [p_X12_hasMore_b98_eq]
  have lo_a1 := ti_lo a1
  have hi_a1 := ti_hi a1
  have lo_a2 := ti_lo a2
  have hi_a2 := ti_hi a2
  have lo_a3 := ti_lo a3
  have hi_a3 := ti_hi a3
  have g28 := rgm_0_4 hI_μ
  have g29 := rgm_0_28 hI_μ
  have g30 := rgm_0_32 hI_μ
  refine ok_gd (inb_iff.mpr (by omega)) ?_
  refine ok_ite ?_ ?_
  · intro c31
    rw [ti_le] at c31
    refine ok_ite ?_ ?_
    · intro c32
      rw [ti_eq] at c32
      exact ok_mono (k_X12_hasMore_b132 _ hK0 a1 a3 μ hI_μ (by omega)) (fun q h => ⟨h.1, hF_μ.trans h.2.1, by have h9 := h.2.2; (try dsimp only at h9 ⊢); omega⟩)
    · intro c32
      rw [ti_eq] at c32
      refine ok_ite ?_ ?_
      · intro c74
        rw [ti_eq] at c74
        exact ok_mono (k_X12_hasMore_b132 _ hK0 a1 a3 μ hI_μ (by omega)) (fun q h => ⟨h.1, hF_μ.trans h.2.1, by have h9 := h.2.2; (try dsimp only at h9 ⊢); omega⟩)
      · intro c74
        rw [ti_eq] at c74
        refine ok_ite ?_ ?_
        · intro c75
          rw [ti_eq] at c75
          exact ok_mono (k_X12_hasMore_b132 _ hK0 a1 a3 μ hI_μ (by omega)) (fun q h => ⟨h.1, hF_μ.trans h.2.1, by have h9 := h.2.2; (try dsimp only at h9 ⊢); omega⟩)
        · intro c75
          rw [ti_eq] at c75
          refine ok_ite ?_ ?_
          · intro c76
            rw [ti_eq] at c76
            exact ok_mono (k_X12_hasMore_b148 _ hK0 a1 a3 (93 : Int32) μ hI_μ (by omega)) (fun q h => ⟨h.1, hF_μ.trans h.2.1, by have h9 := h.2.2; (try dsimp only at h9 ⊢); omega⟩)
          · intro c76
            rw [ti_eq] at c76
            exact ok_mono (k_X12_hasMore_b148 _ hK0 a1 a3 (-1 : Int32) μ hI_μ (by omega)) (fun q h => ⟨h.1, hF_μ.trans h.2.1, by have h9 := h.2.2; (try dsimp only at h9 ⊢); omega⟩)
  · intro c31
    rw [ti_le] at c31
    refine ok_bd (k_X12_goesOn a1 a3 μ hI_μ (by omega)) ?_
    rintro r78 μ77 ⟨hI_μ77, hC_μ77, p_μ77⟩
    have hI_μ77 : IM μ77 := hI_μ77
    have hC_μ77 : Fr [(0, 0, 4), (0, 0, 5), (1, 17, 0), (1, 21, 0)] true μ μ77 := hC_μ77
    dsimp only at p_μ77
    have lo_r78 := ti_lo r78
    have hi_r78 := ti_hi r78
    have hF_μ77 : Fr [(0, 0, 32), (0, 0, 4), (0, 0, 5), (1, 17, 0), (1, 18, 0), (1, 20, 0), (1, 21, 0)] true μ μ77 := hF_μ.trans (hC_μ77.mono (by decide +kernel) (by decide))
    have hr_μ77 : μ77.2.2 = μ.2.2 := (hC_μ77.2 rfl : μ77.2.2 = μ.2.2).trans hr_μ
    try simp only [hr_μ77, hr_μ] at p_μ77
    have g79 := rgm_0_4 hI_μ77
    refine ok_gd (isB_of (by omega)) ?_
    have g80 := rgm_0_28 hI_μ77
    have f81 : (μ77.1 0 28).toInt = (μ.1 0 28).toInt := congrArg Int32.toInt (hC_μ77.1 0 28 (by decide +kernel))
    exact ok_some ⟨hI_μ77, hF_μ77, by (try dsimp only); (try rw [hr_μ77]); omega⟩
set_option maxHeartbeats 4000000 in
set_option maxRecDepth 100000 in
theorem k_X12_hasMore_b85 {n0 : Nat} (K0 : Mem → Option (Int32 × Mem)) (hK0 : ∀  (μ1 : Mem), IM μ1 → ((μ1.1 0 28).toInt ≤ (μ1.1 0 4).toInt ∧ 0 ≤ (μ1.1 0 32).toInt ∧ (μ1.1 0 32).toInt < n0) → ok (K0  μ1) (fun q => IM q.2 ∧ Fr [(0, 0, 32), (0, 0, 4), (0, 0, 5), (1, 17, 0), (1, 18, 0), (1, 20, 0), (1, 21, 0)] true μ1 q.2 ∧ (((q.1).toInt = 0 ∨ (q.1).toInt = 1) ∧ (q.2.1 0 28).toInt ≤ (q.2.1 0 4).toInt ∧ (μ1.1 0 4).toInt ≤ (q.2.1 0 4).toInt))) (a1 : Int32) (a2 : Int32) (a3 : Int32) (μ : Mem) (hI_μ : IM μ) (hc : 0 ≤ (a1).toInt ∧ (a1).toInt < 800 ∧ (a3).toInt = (μ.1 16 (a1).toNatClampNeg).toInt ∧ (μ.1 0 28).toInt ≤ (μ.1 0 4).toInt ∧ 1 ≤ (μ.1 0 32).toInt ∧ (μ.1 0 32).toInt < n0 + 1) : ok (p_X12_hasMore_b85 K0 a1 a2 a3 μ) (fun q => IM q.2 ∧ Fr [(0, 0, 32), (0, 0, 4), (0, 0, 5), (1, 17, 0), (1, 18, 0), (1, 20, 0), (1, 21, 0)] true μ q.2 ∧ (((q.1).toInt = 0 ∨ (q.1).toInt = 1) ∧ (q.2.1 0 28).toInt ≤ (q.2.1 0 4).toInt ∧ (μ.1 0 4).toInt ≤ (q.2.1 0 4).toInt)) := by
  have li0 : (0 : Int32).toInt = 0 := by decide
  have li1 : (1 : Int32).toInt = 1 := by decide
  have li12 : (12 : Int32).toInt = 12 := by decide
  have hF_μ : Fr [(0, 0, 32), (0, 0, 4), (0, 0, 5), (1, 17, 0), (1, 18, 0), (1, 20, 0), (1, 21, 0)] true μ μ := Fr.rf
  have hr_μ : μ.2.2 = μ.2.2 := rfl
  rw [p_X12_hasMore_b85_eq]
  have lo_a1 := ti_lo a1
  have hi_a1 := ti_hi a1
  have lo_a2 := ti_lo a2
  have hi_a2 := ti_hi a2
  have lo_a3 := ti_lo a3
  have hi_a3 := ti_hi a3
  have g23 := rgm_0_4 hI_μ
  have g24 := rgm_0_28 hI_μ
  have g25 := rgm_0_32 hI_μ
  refine ok_ite ?_ ?_
  · intro c26
    rw [ti_eq] at c26
    refine ok_gd (inb_iff.mpr (by omega)) ?_
    refine ok_bv (fun μ27 e_μ27 => ?_)
    have hI_μ27 : IM μ27 := by rw [e_μ27]; exact IM_F hI_μ (rtma_18 _ _)
    have hF_μ27 : Fr [(0, 0, 32), (0, 0, 4), (0, 0, 5), (1, 17, 0), (1, 18, 0), (1, 20, 0), (1, 21, 0)] true μ μ27 := by rw [e_μ27]; exact Fr.puta hF_μ (by decide +kernel)
    have hr_μ27 : μ27.2.2 = μ.2.2 := (by rw [e_μ27]; rfl : μ27.2.2 = μ.2.2).trans hr_μ
    have g83 := rgm_0_28 hI_μ27
    have f84 : (μ27.1 0 28).toInt = (μ.1 0 28).toInt := congrArg Int32.toInt ((by rw [e_μ27]; rfl : μ27.1 0 28 = μ.1 0 28))
    have g85 := rgm_0_4 hI_μ27
    have f86 : (μ27.1 0 4).toInt = (μ.1 0 4).toInt := congrArg Int32.toInt ((by rw [e_μ27]; rfl : μ27.1 0 4 = μ.1 0 4))
    have g87 := rgm_0_32 hI_μ27
    have f88 : (μ27.1 0 32).toInt = (μ.1 0 32).toInt := congrArg Int32.toInt ((by rw [e_μ27]; rfl : μ27.1 0 32 = μ.1 0 32))
    have f89 : (μ27.1 16 a1.toNatClampNeg).toInt = (μ.1 16 a1.toNatClampNeg).toInt := congrArg Int32.toInt ((by rw [e_μ27]; rfl : μ27.1 16 a1.toNatClampNeg = μ.1 16 a1.toNatClampNeg))
    exact ok_mono (k_X12_hasMore_b98 _ hK0 a1 a2 a3 μ27 hI_μ27 (by (try rw [hr_μ27]); omega)) (fun q h => ⟨h.1, hF_μ27.trans h.2.1, by have h9 := h.2.2; (try dsimp only at h9 ⊢); omega⟩)
  · intro c26
    rw [ti_eq] at c26
    exact ok_mono (k_X12_hasMore_b98 _ hK0 a1 a2 a3 μ hI_μ (by omega)) (fun q h => ⟨h.1, hF_μ.trans h.2.1, by have h9 := h.2.2; (try dsimp only at h9 ⊢); omega⟩)
set_option maxHeartbeats 4000000 in
set_option maxRecDepth 100000 in
theorem k_X12_hasMore_b0 : ∀ (n : Nat)  (μ : Mem), IM μ → ((μ.1 0 28).toInt ≤ (μ.1 0 4).toInt ∧ 0 ≤ (μ.1 0 32).toInt ∧ (μ.1 0 32).toInt < n) → ok (p_X12_hasMore_b0 n  μ) (fun q => IM q.2 ∧ Fr [(0, 0, 32), (0, 0, 4), (0, 0, 5), (1, 17, 0), (1, 18, 0), (1, 20, 0), (1, 21, 0)] true μ q.2 ∧ (((q.1).toInt = 0 ∨ (q.1).toInt = 1) ∧ (q.2.1 0 28).toInt ≤ (q.2.1 0 4).toInt ∧ (μ.1 0 4).toInt ≤ (q.2.1 0 4).toInt)) := by
  have li0 : (0 : Int32).toInt = 0 := by decide
  have li1 : (1 : Int32).toInt = 1 := by decide
  have li5 : (5 : Int32).toInt = 5 := by decide
  have li12 : (12 : Int32).toInt = 12 := by decide
  have li44 : (44 : Int32).toInt = 44 := by decide
  intro n
  induction n with
  | zero => intro  μ hI_μ hc; exact absurd hc (by omega)
  | succ n ih =>
    intro  μ hI_μ hc
    have hF_μ : Fr [(0, 0, 32), (0, 0, 4), (0, 0, 5), (1, 17, 0), (1, 18, 0), (1, 20, 0), (1, 21, 0)] true μ μ := Fr.rf
    have hr_μ : μ.2.2 = μ.2.2 := rfl
    rw [p_X12_hasMore_b0_s]
    have g3 := rgm_0_4 hI_μ
    have g4 := rgm_0_28 hI_μ
    have g5 := rgm_0_32 hI_μ
    refine ok_ite ?_ ?_
    · intro c6
      rw [ti_le] at c6
      exact ok_some ⟨hI_μ, hF_μ, by (try dsimp only); omega⟩
    · intro c6
      rw [ti_le] at c6
      refine ok_gd (inb_iff.mpr (by (try rw [TI.e (e := ((μ.1 0 32) - (1 : Int32))) (n := ((μ.1 0 32).toInt - 1)) (TI.sub TI.rf (TI.lit (by decide)) (by omega) (by omega))]); omega)) ?_
      have g7 := rgm_19 hI_μ ((μ.1 0 32) - (1 : Int32)).toNatClampNeg
      refine ok_bv (fun v8 ev8 => ?_)
      have tv8 : v8.toInt = (μ.1 19 ((μ.1 0 32) - (1 : Int32)).toNatClampNeg).toInt := congrArg Int32.toInt ev8
      refine ok_bv (fun v9 ev9 => ?_)
      first | have tv9 : v9.toInt = ((μ.1 0 32).toInt - 1) := (congrArg Int32.toInt ev9).trans (TI.e (n := ((μ.1 0 32).toInt - 1)) (TI.sub TI.rf (TI.lit (by decide)) (by omega) (by omega))) | skip
      refine ok_gd (inb_iff.mpr (by omega)) ?_
      refine ok_gd (inb_iff.mpr (by omega)) ?_
      refine ok_bv (fun μ10 e_μ10 => ?_)
      have hI_μ10 : IM μ10 := by rw [e_μ10]; exact IM_F hI_μ (rtma_20 _ _)
      have hF_μ10 : Fr [(0, 0, 32), (0, 0, 4), (0, 0, 5), (1, 17, 0), (1, 18, 0), (1, 20, 0), (1, 21, 0)] true μ μ10 := by rw [e_μ10]; exact Fr.puta hF_μ (by decide +kernel)
      have hr_μ10 : μ10.2.2 = μ.2.2 := (by rw [e_μ10]; rfl : μ10.2.2 = μ.2.2).trans hr_μ
      have g11 := rgm_0_32 hI_μ10
      have f12 : (μ10.1 0 32).toInt = (μ.1 0 32).toInt := congrArg Int32.toInt ((by rw [e_μ10]; rfl : μ10.1 0 32 = μ.1 0 32))
      refine ok_gd (inb_iff.mpr (by (try rw [TI.e (e := ((μ10.1 0 32) - (1 : Int32))) (n := ((μ10.1 0 32).toInt - 1)) (TI.sub TI.rf (TI.lit (by decide)) (by omega) (by omega))]); omega)) ?_
      refine ok_bv (fun v13 ev13 => ?_)
      have tv13 : v13.toInt = (μ10.1 20 ((μ10.1 0 32) - (1 : Int32)).toNatClampNeg).toInt := congrArg Int32.toInt ev13
      refine ok_gd (inb_iff.mpr (by omega)) ?_
      refine ok_bv (fun v14 ev14 => ?_)
      have tv14 : v14.toInt = (μ10.1 16 v8.toNatClampNeg).toInt := congrArg Int32.toInt ev14
      refine ok_ite ?_ ?_
      · intro c15
        rw [ti_eq] at c15
        have g18 := rgm_0_3 hI_μ10
        have g19 := rgm_0_4 hI_μ10
        have f20 : (μ10.1 0 4).toInt = (μ.1 0 4).toInt := congrArg Int32.toInt ((by rw [e_μ10]; rfl : μ10.1 0 4 = μ.1 0 4))
        refine ok_bd (k_X12_here  μ10 hI_μ10) ?_
        rintro r17 μ16 ⟨hq9, p_r17⟩
        obtain rfl : μ10 = μ16 := hq9
        dsimp only at p_r17
        have lo_r17 := ti_lo r17
        have hi_r17 := ti_hi r17
        try simp only [hr_μ10] at p_r17
        refine ok_ite ?_ ?_
        · intro c21
          rw [ti_eq] at c21
          refine ok_ite ?_ ?_
          · intro c22
            rw [ti_le] at c22
            have g90 := rgm_0_28 hI_μ10
            have f91 : (μ10.1 0 28).toInt = (μ.1 0 28).toInt := congrArg Int32.toInt ((by rw [e_μ10]; rfl : μ10.1 0 28 = μ.1 0 28))
            exact ok_mono (k_X12_hasMore_b85 _ ih v8 v13 v14 μ10 hI_μ10 (by (try rw [hr_μ10]); omega)) (fun q h => ⟨h.1, hF_μ10.trans h.2.1, by have h9 := h.2.2; (try dsimp only at h9 ⊢); omega⟩)
          · intro c22
            rw [ti_le] at c22
            refine ok_bv (fun μ92 e_μ92 => ?_)
            have hI_μ92 : IM μ92 := by rw [e_μ92]; exact IM_F hI_μ10 (rpm_0_4 (by (try rw [TI.e (e := ((μ10.1 0 4) + (1 : Int32))) (n := ((μ10.1 0 4).toInt + 1)) (TI.add TI.rf (TI.lit (by decide)) (by omega) (by omega))]); omega))
            have hF_μ92 : Fr [(0, 0, 32), (0, 0, 4), (0, 0, 5), (1, 17, 0), (1, 18, 0), (1, 20, 0), (1, 21, 0)] true μ μ92 := by rw [e_μ92]; exact Fr.put hF_μ10 (by decide +kernel)
            have v_μ92 : (μ92.1 0 4).toInt = ((μ10.1 0 4).toInt + 1) := by rw [e_μ92, sF_v]; exact TI.e (n := ((μ10.1 0 4).toInt + 1)) (TI.add TI.rf (TI.lit (by decide)) (by omega) (by omega))
            have hr_μ92 : μ92.2.2 = μ.2.2 := (by rw [e_μ92]; rfl : μ92.2.2 = μ10.2.2).trans hr_μ10
            have g93 := rgm_0_28 hI_μ92
            have f94 : (μ92.1 0 28).toInt = (μ.1 0 28).toInt := congrArg Int32.toInt (((by rw [e_μ92]; rfl : μ92.1 0 28 = μ10.1 0 28)).trans ((by rw [e_μ10]; rfl : μ10.1 0 28 = μ.1 0 28)))
            have g95 := rgm_0_4 hI_μ92
            exact ok_some ⟨hI_μ92, hF_μ92, by (try dsimp only); (try rw [hr_μ92]); omega⟩
        · intro c21
          rw [ti_eq] at c21
          have g96 := rgm_0_28 hI_μ10
          have f97 : (μ10.1 0 28).toInt = (μ.1 0 28).toInt := congrArg Int32.toInt ((by rw [e_μ10]; rfl : μ10.1 0 28 = μ.1 0 28))
          exact ok_mono (k_X12_hasMore_b85 _ ih v8 v13 v14 μ10 hI_μ10 (by (try rw [hr_μ10]); omega)) (fun q h => ⟨h.1, hF_μ10.trans h.2.1, by have h9 := h.2.2; (try dsimp only at h9 ⊢); omega⟩)
      · intro c15
        rw [ti_eq] at c15
        have g98 := rgm_0_28 hI_μ10
        have f99 : (μ10.1 0 28).toInt = (μ.1 0 28).toInt := congrArg Int32.toInt ((by rw [e_μ10]; rfl : μ10.1 0 28 = μ.1 0 28))
        have g100 := rgm_0_4 hI_μ10
        have f101 : (μ10.1 0 4).toInt = (μ.1 0 4).toInt := congrArg Int32.toInt ((by rw [e_μ10]; rfl : μ10.1 0 4 = μ.1 0 4))
        exact ok_mono (k_X12_hasMore_b85 _ ih v8 v13 v14 μ10 hI_μ10 (by (try rw [hr_μ10]); omega)) (fun q h => ⟨h.1, hF_μ10.trans h.2.1, by have h9 := h.2.2; (try dsimp only at h9 ⊢); omega⟩)
set_option maxHeartbeats 4000000 in
set_option maxRecDepth 100000 in
theorem k_X12_hasMore  (μ : Mem) (hI_μ : IM μ) (hc : (μ.1 0 28).toInt ≤ (μ.1 0 4).toInt) : ok (p_X12_hasMore  μ) (fun q => IM q.2 ∧ Fr [(0, 0, 32), (0, 0, 4), (0, 0, 5), (1, 17, 0), (1, 18, 0), (1, 20, 0), (1, 21, 0)] true μ q.2 ∧ (((q.1).toInt = 0 ∨ (q.1).toInt = 1) ∧ (q.2.1 0 28).toInt ≤ (q.2.1 0 4).toInt ∧ (μ.1 0 4).toInt ≤ (q.2.1 0 4).toInt)) := by
  have li0 : (0 : Int32).toInt = 0 := by decide
  have li1 : (1 : Int32).toInt = 1 := by decide
  have hF_μ : Fr [(0, 0, 32), (0, 0, 4), (0, 0, 5), (1, 17, 0), (1, 18, 0), (1, 20, 0), (1, 21, 0)] true μ μ := Fr.rf
  have hr_μ : μ.2.2 = μ.2.2 := rfl
  rw [p_X12_hasMore_eq]
  have g1 := rgm_0_28 hI_μ
  have g2 := rgm_0_4 hI_μ
  have g102 := rgm_0_32 hI_μ
  obtain ⟨fu, hfu0, hfu⟩ := fuel_ex
  rw [hfu0]
  exact ok_mono (k_X12_hasMore_b0  fu  μ hI_μ (by omega)) (fun q h => ⟨h.1, hF_μ.trans h.2.1, by have h9 := h.2.2; (try dsimp only at h9 ⊢); omega⟩)

set_option maxHeartbeats 4000000 in
set_option maxRecDepth 100000 in
theorem k_X12_readExpression_b62 {n7 : Nat} (K7 : Int32 → Mem → Option (Int32 × Mem)) (hK7 : ∀ (z1 : Int32) (μ1 : Mem), IM μ1 → ((μ1.1 0 28).toInt ≤ (μ1.1 0 4).toInt ∧ (μ1.1 0 4).toInt ≤ 800 ∧ 801 - (μ1.1 0 4).toInt < n7) → ok (K7 z1 μ1) (fun q => IM q.2 ∧ Fr [(0, 0, 28), (0, 0, 32), (0, 0, 4), (0, 0, 5), (0, 0, 6), (0, 0, 7), (1, 16, 0), (1, 17, 0), (1, 18, 0), (1, 19, 0), (1, 20, 0), (1, 21, 0)] true μ1 q.2 ∧ (((q.1).toInt = 0 ∨ (q.1).toInt = 1) ∧ ((q.1).toInt = 0 ∨ ((q.2.1 0 28).toInt ≤ (q.2.1 0 4).toInt ∧ (μ1.1 0 4).toInt ≤ (q.2.1 0 4).toInt))))) (k0 : Int32) (μ : Mem) (hI_μ : IM μ) (hc : (μ.1 0 28).toInt ≤ (μ.1 0 4).toInt ∧ 801 - (μ.1 0 4).toInt < n7) : ok (p_X12_readExpression_b62 K7 k0 μ) (fun q => IM q.2 ∧ Fr [(0, 0, 28), (0, 0, 32), (0, 0, 4), (0, 0, 5), (0, 0, 6), (0, 0, 7), (1, 16, 0), (1, 17, 0), (1, 18, 0), (1, 19, 0), (1, 20, 0), (1, 21, 0)] true μ q.2 ∧ (((q.1).toInt = 0 ∨ (q.1).toInt = 1) ∧ ((q.1).toInt = 0 ∨ ((q.2.1 0 28).toInt ≤ (q.2.1 0 4).toInt ∧ (μ.1 0 4).toInt ≤ (q.2.1 0 4).toInt)))) := by
  have lim1 : (-1 : Int32).toInt = -1 := by decide
  have li0 : (0 : Int32).toInt = 0 := by decide
  have li1 : (1 : Int32).toInt = 1 := by decide
  have hF_μ : Fr [(0, 0, 28), (0, 0, 32), (0, 0, 4), (0, 0, 5), (0, 0, 6), (0, 0, 7), (1, 16, 0), (1, 17, 0), (1, 18, 0), (1, 19, 0), (1, 20, 0), (1, 21, 0)] true μ μ := Fr.rf
  have hr_μ : μ.2.2 = μ.2.2 := rfl
  rw [p_X12_readExpression_b62_eq]
  have lo_k0 := ti_lo k0
  have hi_k0 := ti_hi k0
  have g26 := rgm_0_4 hI_μ
  have g27 := rgm_0_28 hI_μ
  have g28 := ti_lo (μ.1 0 5)
  have g28h := ti_hi (μ.1 0 5)
  refine ok_ite ?_ ?_
  · intro c29
    rw [ti_eq] at c29
    exact ok_mono (hK7 k0 μ hI_μ (by omega)) (fun q h => ⟨h.1, hF_μ.trans h.2.1, by have h9 := h.2.2; (try dsimp only at h9 ⊢); omega⟩)
  · intro c29
    rw [ti_eq] at c29
    exact ok_some ⟨hI_μ, hF_μ, by (try dsimp only); omega⟩
set_option maxHeartbeats 4000000 in
set_option maxRecDepth 100000 in
theorem k_X12_readExpression_b57 {n7 : Nat} (K7 : Int32 → Mem → Option (Int32 × Mem)) (hK7 : ∀ (z1 : Int32) (μ1 : Mem), IM μ1 → ((μ1.1 0 28).toInt ≤ (μ1.1 0 4).toInt ∧ (μ1.1 0 4).toInt ≤ 800 ∧ 801 - (μ1.1 0 4).toInt < n7) → ok (K7 z1 μ1) (fun q => IM q.2 ∧ Fr [(0, 0, 28), (0, 0, 32), (0, 0, 4), (0, 0, 5), (0, 0, 6), (0, 0, 7), (1, 16, 0), (1, 17, 0), (1, 18, 0), (1, 19, 0), (1, 20, 0), (1, 21, 0)] true μ1 q.2 ∧ (((q.1).toInt = 0 ∨ (q.1).toInt = 1) ∧ ((q.1).toInt = 0 ∨ ((q.2.1 0 28).toInt ≤ (q.2.1 0 4).toInt ∧ (μ1.1 0 4).toInt ≤ (q.2.1 0 4).toInt)))))  (μ : Mem) (hI_μ : IM μ) (hc : (μ.1 0 28).toInt ≤ (μ.1 0 4).toInt ∧ 801 - (μ.1 0 4).toInt < n7) : ok (p_X12_readExpression_b57 K7  μ) (fun q => IM q.2 ∧ Fr [(0, 0, 28), (0, 0, 32), (0, 0, 4), (0, 0, 5), (0, 0, 6), (0, 0, 7), (1, 16, 0), (1, 17, 0), (1, 18, 0), (1, 19, 0), (1, 20, 0), (1, 21, 0)] true μ q.2 ∧ (((q.1).toInt = 0 ∨ (q.1).toInt = 1) ∧ ((q.1).toInt = 0 ∨ ((q.2.1 0 28).toInt ≤ (q.2.1 0 4).toInt ∧ (μ.1 0 4).toInt ≤ (q.2.1 0 4).toInt)))) := by
  have li0 : (0 : Int32).toInt = 0 := by decide
  have li1 : (1 : Int32).toInt = 1 := by decide
  have hF_μ : Fr [(0, 0, 28), (0, 0, 32), (0, 0, 4), (0, 0, 5), (0, 0, 6), (0, 0, 7), (1, 16, 0), (1, 17, 0), (1, 18, 0), (1, 19, 0), (1, 20, 0), (1, 21, 0)] true μ μ := Fr.rf
  have hr_μ : μ.2.2 = μ.2.2 := rfl
  rw [p_X12_readExpression_b57_eq]
  have g30 := rgm_0_4 hI_μ
  have g31 := rgm_0_28 hI_μ
  exact ok_mono (k_X12_readExpression_b62 _ hK7 (1 : Int32) μ hI_μ (by omega)) (fun q h => ⟨h.1, hF_μ.trans h.2.1, by have h9 := h.2.2; (try dsimp only at h9 ⊢); omega⟩)
set_option maxHeartbeats 4000000 in
set_option maxRecDepth 100000 in
theorem k_X12_readExpression_b43 {n7 : Nat} (K7 : Int32 → Mem → Option (Int32 × Mem)) (hK7 : ∀ (z1 : Int32) (μ1 : Mem), IM μ1 → ((μ1.1 0 28).toInt ≤ (μ1.1 0 4).toInt ∧ (μ1.1 0 4).toInt ≤ 800 ∧ 801 - (μ1.1 0 4).toInt < n7) → ok (K7 z1 μ1) (fun q => IM q.2 ∧ Fr [(0, 0, 28), (0, 0, 32), (0, 0, 4), (0, 0, 5), (0, 0, 6), (0, 0, 7), (1, 16, 0), (1, 17, 0), (1, 18, 0), (1, 19, 0), (1, 20, 0), (1, 21, 0)] true μ1 q.2 ∧ (((q.1).toInt = 0 ∨ (q.1).toInt = 1) ∧ ((q.1).toInt = 0 ∨ ((q.2.1 0 28).toInt ≤ (q.2.1 0 4).toInt ∧ (μ1.1 0 4).toInt ≤ (q.2.1 0 4).toInt))))) (k0 : Int32) (μ : Mem) (hI_μ : IM μ) (hc : (μ.1 0 28).toInt ≤ (μ.1 0 4).toInt ∧ 801 - (μ.1 0 4).toInt < n7) : ok (p_X12_readExpression_b43 K7 k0 μ) (fun q => IM q.2 ∧ Fr [(0, 0, 28), (0, 0, 32), (0, 0, 4), (0, 0, 5), (0, 0, 6), (0, 0, 7), (1, 16, 0), (1, 17, 0), (1, 18, 0), (1, 19, 0), (1, 20, 0), (1, 21, 0)] true μ q.2 ∧ (((q.1).toInt = 0 ∨ (q.1).toInt = 1) ∧ ((q.1).toInt = 0 ∨ ((q.2.1 0 28).toInt ≤ (q.2.1 0 4).toInt ∧ (μ.1 0 4).toInt ≤ (q.2.1 0 4).toInt)))) := by
  have li0 : (0 : Int32).toInt = 0 := by decide
  have li1 : (1 : Int32).toInt = 1 := by decide
  have hF_μ : Fr [(0, 0, 28), (0, 0, 32), (0, 0, 4), (0, 0, 5), (0, 0, 6), (0, 0, 7), (1, 16, 0), (1, 17, 0), (1, 18, 0), (1, 19, 0), (1, 20, 0), (1, 21, 0)] true μ μ := Fr.rf
  have hr_μ : μ.2.2 = μ.2.2 := rfl
  rw [p_X12_readExpression_b43_eq]
  have lo_k0 := ti_lo k0
  have hi_k0 := ti_hi k0
  have g17 := rgm_0_4 hI_μ
  have g18 := rgm_0_28 hI_μ
  refine ok_ite ?_ ?_
  · intro c19
    rw [ti_eq] at c19
    refine ok_bd (k_X12_hasMore  μ hI_μ (by omega)) ?_
    rintro r21 μ20 ⟨hI_μ20, hC_μ20, p_μ20⟩
    have hI_μ20 : IM μ20 := hI_μ20
    have hC_μ20 : Fr [(0, 0, 32), (0, 0, 4), (0, 0, 5), (1, 17, 0), (1, 18, 0), (1, 20, 0), (1, 21, 0)] true μ μ20 := hC_μ20
    dsimp only at p_μ20
    have lo_r21 := ti_lo r21
    have hi_r21 := ti_hi r21
    have hF_μ20 : Fr [(0, 0, 28), (0, 0, 32), (0, 0, 4), (0, 0, 5), (0, 0, 6), (0, 0, 7), (1, 16, 0), (1, 17, 0), (1, 18, 0), (1, 19, 0), (1, 20, 0), (1, 21, 0)] true μ μ20 := hF_μ.trans (hC_μ20.mono (by decide +kernel) (by decide))
    have hr_μ20 : μ20.2.2 = μ.2.2 := (hC_μ20.2 rfl : μ20.2.2 = μ.2.2).trans hr_μ
    try simp only [hr_μ20, hr_μ] at p_μ20
    have g22 := rgm_0_28 hI_μ20
    have f23 : (μ20.1 0 28).toInt = (μ.1 0 28).toInt := congrArg Int32.toInt (hC_μ20.1 0 28 (by decide +kernel))
    have g24 := rgm_0_4 hI_μ20
    refine ok_ite ?_ ?_
    · intro c25
      rw [ti_eq] at c25
      exact ok_mono (k_X12_readExpression_b62 _ hK7 (0 : Int32) μ20 hI_μ20 (by (try rw [hr_μ20]); omega)) (fun q h => ⟨h.1, hF_μ20.trans h.2.1, by have h9 := h.2.2; (try dsimp only at h9 ⊢); omega⟩)
    · intro c25
      rw [ti_eq] at c25
      exact ok_mono (k_X12_readExpression_b57 _ hK7  μ20 hI_μ20 (by (try rw [hr_μ20]); omega)) (fun q h => ⟨h.1, hF_μ20.trans h.2.1, by have h9 := h.2.2; (try dsimp only at h9 ⊢); omega⟩)
  · intro c19
    rw [ti_eq] at c19
    exact ok_mono (k_X12_readExpression_b57 _ hK7  μ hI_μ (by omega)) (fun q h => ⟨h.1, hF_μ.trans h.2.1, by have h9 := h.2.2; (try dsimp only at h9 ⊢); omega⟩)
set_option maxHeartbeats 4000000 in
set_option maxRecDepth 100000 in
theorem k_X12_readExpression_b7 : ∀ (n : Nat) (a1 : Int32) (μ : Mem), IM μ → ((μ.1 0 28).toInt ≤ (μ.1 0 4).toInt ∧ (μ.1 0 4).toInt ≤ 800 ∧ 801 - (μ.1 0 4).toInt < n) → ok (p_X12_readExpression_b7 n a1 μ) (fun q => IM q.2 ∧ Fr [(0, 0, 28), (0, 0, 32), (0, 0, 4), (0, 0, 5), (0, 0, 6), (0, 0, 7), (1, 16, 0), (1, 17, 0), (1, 18, 0), (1, 19, 0), (1, 20, 0), (1, 21, 0)] true μ q.2 ∧ (((q.1).toInt = 0 ∨ (q.1).toInt = 1) ∧ ((q.1).toInt = 0 ∨ ((q.2.1 0 28).toInt ≤ (q.2.1 0 4).toInt ∧ (μ.1 0 4).toInt ≤ (q.2.1 0 4).toInt)))) := by
  have li0 : (0 : Int32).toInt = 0 := by decide
  have li1 : (1 : Int32).toInt = 1 := by decide
  intro n
  induction n with
  | zero => intro a1 μ hI_μ hc; exact absurd hc (by have lo_a1 := ti_lo a1; have hi_a1 := ti_hi a1; omega)
  | succ n ih =>
    intro a1 μ hI_μ hc
    have hF_μ : Fr [(0, 0, 28), (0, 0, 32), (0, 0, 4), (0, 0, 5), (0, 0, 6), (0, 0, 7), (1, 16, 0), (1, 17, 0), (1, 18, 0), (1, 19, 0), (1, 20, 0), (1, 21, 0)] true μ μ := Fr.rf
    have hr_μ : μ.2.2 = μ.2.2 := rfl
    rw [p_X12_readExpression_b7_s]
    have lo_a1 := ti_lo a1
    have hi_a1 := ti_hi a1
    have g4 := rgm_0_4 hI_μ
    have g5 := rgm_0_28 hI_μ
    refine ok_ite ?_ ?_
    · intro c6
      rw [ti_eq] at c6
      exact ok_some ⟨hI_μ, hF_μ, by (try dsimp only); omega⟩
    · intro c6
      rw [ti_eq] at c6
      have g7 := rgm_0_32 hI_μ
      refine ok_bv (fun v8 ev8 => ?_)
      have tv8 : v8.toInt = (μ.1 0 32).toInt := congrArg Int32.toInt ev8
      refine ok_bv (fun v9 ev9 => ?_)
      have tv9 : v9.toInt = (μ.1 0 28).toInt := congrArg Int32.toInt ev9
      refine ok_bd (k_X12_readThing  μ hI_μ (by omega)) ?_
      rintro r11 μ10 ⟨hI_μ10, hC_μ10, p_μ10⟩
      have hI_μ10 : IM μ10 := hI_μ10
      have hC_μ10 : Fr [(0, 0, 28), (0, 0, 32), (0, 0, 4), (0, 0, 5), (0, 0, 6), (0, 0, 7), (1, 16, 0), (1, 17, 0), (1, 18, 0), (1, 19, 0), (1, 20, 0)] true μ μ10 := hC_μ10
      dsimp only at p_μ10
      have lo_r11 := ti_lo r11
      have hi_r11 := ti_hi r11
      have hF_μ10 : Fr [(0, 0, 28), (0, 0, 32), (0, 0, 4), (0, 0, 5), (0, 0, 6), (0, 0, 7), (1, 16, 0), (1, 17, 0), (1, 18, 0), (1, 19, 0), (1, 20, 0), (1, 21, 0)] true μ μ10 := hF_μ.trans (hC_μ10.mono (by decide +kernel) (by decide))
      have hr_μ10 : μ10.2.2 = μ.2.2 := (hC_μ10.2 rfl : μ10.2.2 = μ.2.2).trans hr_μ
      try simp only [hr_μ10, hr_μ] at p_μ10
      have g12 := rgm_0_28 hI_μ10
      have g13 := rgm_0_4 hI_μ10
      refine ok_ite ?_ ?_
      · intro c14
        rw [ti_eq] at c14
        exact ok_some ⟨hI_μ10, hF_μ10, by (try dsimp only); (try rw [hr_μ10]); omega⟩
      · intro c14
        rw [ti_eq] at c14
        have g15 := rgm_0_32 hI_μ10
        refine ok_ite ?_ ?_
        · intro c16
          rw [ti_le] at c16
          exact ok_mono (k_X12_readExpression_b43 _ ih (0 : Int32) μ10 hI_μ10 (by (try rw [hr_μ10]); omega)) (fun q h => ⟨h.1, hF_μ10.trans h.2.1, by have h9 := h.2.2; (try dsimp only at h9 ⊢); omega⟩)
        · intro c16
          rw [ti_le] at c16
          exact ok_mono (k_X12_readExpression_b43 _ ih (1 : Int32) μ10 hI_μ10 (by (try rw [hr_μ10]); omega)) (fun q h => ⟨h.1, hF_μ10.trans h.2.1, by have h9 := h.2.2; (try dsimp only at h9 ⊢); omega⟩)
set_option maxHeartbeats 4000000 in
set_option maxRecDepth 100000 in
theorem k_X12_readExpression  (μ : Mem) (hI_μ : IM μ) (hc : (μ.1 0 28).toInt ≤ (μ.1 0 4).toInt) : ok (p_X12_readExpression  μ) (fun q => IM q.2 ∧ Fr [(0, 0, 28), (0, 0, 32), (0, 0, 4), (0, 0, 5), (0, 0, 6), (0, 0, 7), (1, 16, 0), (1, 17, 0), (1, 18, 0), (1, 19, 0), (1, 20, 0), (1, 21, 0)] true μ q.2 ∧ (((q.1).toInt = 0 ∨ (q.1).toInt = 1) ∧ ((q.1).toInt = 0 ∨ ((q.2.1 0 28).toInt ≤ (q.2.1 0 4).toInt ∧ (μ.1 0 4).toInt ≤ (q.2.1 0 4).toInt)))) := by
  have li0 : (0 : Int32).toInt = 0 := by decide
  have li1 : (1 : Int32).toInt = 1 := by decide
  have hF_μ : Fr [(0, 0, 28), (0, 0, 32), (0, 0, 4), (0, 0, 5), (0, 0, 6), (0, 0, 7), (1, 16, 0), (1, 17, 0), (1, 18, 0), (1, 19, 0), (1, 20, 0), (1, 21, 0)] true μ μ := Fr.rf
  have hr_μ : μ.2.2 = μ.2.2 := rfl
  rw [p_X12_readExpression_eq]
  have g1 := rgm_0_28 hI_μ
  have g2 := rgm_0_4 hI_μ
  refine ok_bv (fun μ3 e_μ3 => ?_)
  have hI_μ3 : IM μ3 := by rw [e_μ3]; exact IM_F hI_μ (rpm_0_32 (by omega))
  have hF_μ3 : Fr [(0, 0, 28), (0, 0, 32), (0, 0, 4), (0, 0, 5), (0, 0, 6), (0, 0, 7), (1, 16, 0), (1, 17, 0), (1, 18, 0), (1, 19, 0), (1, 20, 0), (1, 21, 0)] true μ μ3 := by rw [e_μ3]; exact Fr.put hF_μ (by decide +kernel)
  have v_μ3 : (μ3.1 0 32).toInt = 0 := by rw [e_μ3, sF_v]; exact TI.e (n := 0) (TI.lit (by decide))
  have hr_μ3 : μ3.2.2 = μ.2.2 := (by rw [e_μ3]; rfl : μ3.2.2 = μ.2.2).trans hr_μ
  have g32 := rgm_0_28 hI_μ3
  have f33 : (μ3.1 0 28).toInt = (μ.1 0 28).toInt := congrArg Int32.toInt ((by rw [e_μ3]; rfl : μ3.1 0 28 = μ.1 0 28))
  have g34 := rgm_0_4 hI_μ3
  have f35 : (μ3.1 0 4).toInt = (μ.1 0 4).toInt := congrArg Int32.toInt ((by rw [e_μ3]; rfl : μ3.1 0 4 = μ.1 0 4))
  obtain ⟨fu, hfu0, hfu⟩ := fuel_ex
  rw [hfu0]
  exact ok_mono (k_X12_readExpression_b7  fu (1 : Int32) μ3 hI_μ3 (by (try rw [hr_μ3]); omega)) (fun q h => ⟨h.1, hF_μ3.trans h.2.1, by have h9 := h.2.2; (try dsimp only at h9 ⊢); omega⟩)
