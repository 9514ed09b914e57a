set_option maxHeartbeats 4000000 in
set_option maxRecDepth 100000 in
theorem k_X10_leaveCall_b86 (a2 : Int32) (μ : Mem) (hI_μ : IX μ) : ok (p_X10_leaveCall_b86 a2 μ) (fun q => IX q ∧ Fr [(0, 30, 7), (0, 39, 1), (0, 39, 2), (0, 39, 5), (0, 137, 6), (1, 40, 0), (1, 42, 0), (1, 43, 0), (1, 45, 0), (2, 1, 2), (2, 1, 3)] false μ q) := by
  have lim4 : (-4 : Int32).toInt = -4 := by decide
  have lim1 : (-1 : Int32).toInt = -1 := by decide
  have li0 : (0 : Int32).toInt = 0 := by decide
  have li1 : (1 : Int32).toInt = 1 := by decide
  have hF_μ : Fr [(0, 30, 7), (0, 39, 1), (0, 39, 2), (0, 39, 5), (0, 137, 6), (1, 40, 0), (1, 42, 0), (1, 43, 0), (1, 45, 0), (2, 1, 2), (2, 1, 3)] false μ μ := Fr.rf
  have hr_μ : μ.2.2 = μ.2.2 := rfl
  rw [p_X10_leaveCall_b86_eq]
  have lo_a2 := ti_lo a2
  have hi_a2 := ti_hi a2
  refine ok_ite ?_ ?_
  · intro c11
    rw [ti_eq] at c11
    refine ok_bw (k_X10_breakOff (-4 : Int32) μ hI_μ) ?_
    rintro μ12 ⟨hI_μ12, hC_μ12⟩
    have hF_μ12 : Fr [(0, 30, 7), (0, 39, 1), (0, 39, 2), (0, 39, 5), (0, 137, 6), (1, 40, 0), (1, 42, 0), (1, 43, 0), (1, 45, 0), (2, 1, 2), (2, 1, 3)] false μ μ12 := hF_μ.trans (hC_μ12.mono (by decide +kernel) (by decide))
    have hr_μ12 : μ12.2.2 = μ.2.2 := (hC_μ12.2 rfl : μ12.2.2 = μ.2.2).trans hr_μ
    try rw [hr_μ12]
    exact ok_some ⟨hI_μ12, hF_μ12⟩
  · intro c11
    rw [ti_eq] at c11
    refine ok_bw (k_X10_leaveCallTo a2 μ hI_μ) ?_
    rintro μ14 ⟨hI_μ14, hC_μ14⟩
    have hF_μ14 : Fr [(0, 30, 7), (0, 39, 1), (0, 39, 2), (0, 39, 5), (0, 137, 6), (1, 40, 0), (1, 42, 0), (1, 43, 0), (1, 45, 0), (2, 1, 2), (2, 1, 3)] false μ μ14 := hF_μ.trans (hC_μ14.mono (by decide +kernel) (by decide))
    have hr_μ14 : μ14.2.2 = μ.2.2 := (hC_μ14.2 rfl : μ14.2.2 = μ.2.2).trans hr_μ
    try rw [hr_μ14]
    exact ok_some ⟨hI_μ14, hF_μ14⟩
set_option maxHeartbeats 4000000 in
set_option maxRecDepth 100000 in
theorem k_X10_leaveCall_b65 (a2 : Int32) (μ : Mem) (hI_μ : IX μ) : ok (p_X10_leaveCall_b65 a2 μ) (fun q => IX q ∧ Fr [(0, 30, 7), (0, 39, 1), (0, 39, 2), (0, 39, 5), (0, 137, 6), (1, 40, 0), (1, 42, 0), (1, 43, 0), (1, 45, 0), (2, 1, 2), (2, 1, 3)] false μ q) := by
  have lim1 : (-1 : Int32).toInt = -1 := by decide
  have li0 : (0 : Int32).toInt = 0 := by decide
  have li1 : (1 : Int32).toInt = 1 := by decide
  have hF_μ : Fr [(0, 30, 7), (0, 39, 1), (0, 39, 2), (0, 39, 5), (0, 137, 6), (1, 40, 0), (1, 42, 0), (1, 43, 0), (1, 45, 0), (2, 1, 2), (2, 1, 3)] false μ μ := Fr.rf
  have hr_μ : μ.2.2 = μ.2.2 := rfl
  rw [p_X10_leaveCall_b65_eq]
  have lo_a2 := ti_lo a2
  have hi_a2 := ti_hi a2
  refine ok_ite ?_ ?_
  · intro c7
    rw [ti_eq] at c7
    have g8 := ti_lo (μ.1 137 7)
    have g8h := ti_hi (μ.1 137 7)
    refine ok_bd (k_X5_addVariant (sel 1 (μ.2.2 137 14)) (sel_1 _) (μ.1 137 7) μ hI_μ) ?_
    rintro r10 μ9 ⟨hI_μ9, hC_μ9⟩
    have hI_μ9 : IX μ9 := hI_μ9
    have hC_μ9 : Fr [(0, 39, 2), (1, 45, 0), (2, 1, 2), (2, 1, 3)] true μ μ9 := hC_μ9
    have lo_r10 := ti_lo r10
    have hi_r10 := ti_hi r10
    have hF_μ9 : Fr [(0, 30, 7), (0, 39, 1), (0, 39, 2), (0, 39, 5), (0, 137, 6), (1, 40, 0), (1, 42, 0), (1, 43, 0), (1, 45, 0), (2, 1, 2), (2, 1, 3)] false μ μ9 := hF_μ.trans (hC_μ9.mono (by decide +kernel) (by decide))
    have hr_μ9 : μ9.2.2 = μ.2.2 := (hC_μ9.2 rfl : μ9.2.2 = μ.2.2).trans hr_μ
    try rw [hr_μ9]
    exact ok_mono (k_X10_leaveCall_b86  r10 μ9 hI_μ9) (fun q h => ⟨h.1, hF_μ9.trans h.2⟩)
  · intro c7
    rw [ti_eq] at c7
    exact ok_mono (k_X10_leaveCall_b86  a2 μ hI_μ) (fun q h => ⟨h.1, hF_μ.trans h.2⟩)
set_option maxHeartbeats 4000000 in
set_option maxRecDepth 100000 in
theorem k_X10_leaveCall (a1 : Int32) (μ : Mem) (hI_μ : IX μ) : ok (p_X10_leaveCall a1 μ) (fun q => IX q ∧ Fr [(0, 30, 7), (0, 39, 1), (0, 39, 2), (0, 39, 5), (0, 137, 6), (1, 40, 0), (1, 42, 0), (1, 43, 0), (1, 45, 0), (2, 1, 2), (2, 1, 3)] false μ q) := by
  have lim1 : (-1 : Int32).toInt = -1 := by decide
  have li0 : (0 : Int32).toInt = 0 := by decide
  have li1 : (1 : Int32).toInt = 1 := by decide
  have hF_μ : Fr [(0, 30, 7), (0, 39, 1), (0, 39, 2), (0, 39, 5), (0, 137, 6), (1, 40, 0), (1, 42, 0), (1, 43, 0), (1, 45, 0), (2, 1, 2), (2, 1, 3)] false μ μ := Fr.rf
  have hr_μ : μ.2.2 = μ.2.2 := rfl
  rw [p_X10_leaveCall_eq]
  have lo_a1 := ti_lo a1
  have hi_a1 := ti_hi a1
  refine ok_bd (k_X5_find (sel 1 (μ.2.2 137 14)) (sel_1 _) μ hI_μ) ?_
  rintro r2 μ1 ⟨hI_μ1, hC_μ1⟩
  have hI_μ1 : IX μ1 := hI_μ1
  have hC_μ1 : Fr [] true μ μ1 := hC_μ1
  have lo_r2 := ti_lo r2
  have hi_r2 := ti_hi r2
  have hF_μ1 : Fr [(0, 30, 7), (0, 39, 1), (0, 39, 2), (0, 39, 5), (0, 137, 6), (1, 40, 0), (1, 42, 0), (1, 43, 0), (1, 45, 0), (2, 1, 2), (2, 1, 3)] false μ μ1 := hF_μ.trans (hC_μ1.mono (by decide +kernel) (by decide))
  have hr_μ1 : μ1.2.2 = μ.2.2 := (hC_μ1.2 rfl : μ1.2.2 = μ.2.2).trans hr_μ
  try rw [hr_μ1]
  refine ok_ite ?_ ?_
  · intro c3
    rw [ti_eq] at c3
    refine ok_bd (k_X10_isTooMuch a1 μ1 hI_μ1) ?_
    rintro r5 μ4 ⟨hI_μ4, hC_μ4, p_μ4⟩
    have hI_μ4 : IX μ4 := hI_μ4
    have hC_μ4 : Fr [] true μ1 μ4 := hC_μ4
    dsimp only at p_μ4
    have lo_r5 := ti_lo r5
    have hi_r5 := ti_hi r5
    have hF_μ4 : Fr [(0, 30, 7), (0, 39, 1), (0, 39, 2), (0, 39, 5), (0, 137, 6), (1, 40, 0), (1, 42, 0), (1, 43, 0), (1, 45, 0), (2, 1, 2), (2, 1, 3)] false μ μ4 := hF_μ1.trans (hC_μ4.mono (by decide +kernel) (by decide))
    have hr_μ4 : μ4.2.2 = μ.2.2 := (hC_μ4.2 rfl : μ4.2.2 = μ1.2.2).trans hr_μ1
    try rw [hr_μ4]
    refine ok_ite ?_ ?_
    · intro c6
      rw [ti_eq] at c6
      exact ok_mono (k_X10_leaveCall_b65  r2 μ4 hI_μ4) (fun q h => ⟨h.1, hF_μ4.trans h.2⟩)
    · intro c6
      rw [ti_eq] at c6
      have g16 := ti_lo (μ4.1 39 5)
      have g16h := ti_hi (μ4.1 39 5)
      refine ok_bv (fun μ17 e_μ17 => ?_)
      have hI_μ17 : IX μ17 := by rw [e_μ17]; exact IX_F hI_μ4 (rt_39_5 _)
      have hF_μ17 : Fr [(0, 30, 7), (0, 39, 1), (0, 39, 2), (0, 39, 5), (0, 137, 6), (1, 40, 0), (1, 42, 0), (1, 43, 0), (1, 45, 0), (2, 1, 2), (2, 1, 3)] false μ μ17 := by rw [e_μ17]; exact Fr.put hF_μ4 (by decide +kernel)
      have hr_μ17 : μ17.2.2 = μ.2.2 := (by rw [e_μ17]; rfl : μ17.2.2 = μ4.2.2).trans hr_μ4
      try rw [hr_μ17]
      refine ok_bw (k_X2_letAllGo (sel 1 (μ.2.2 137 14)) (sel_1 _) (sel 1 (μ.2.2 137 15)) (sel_1 _) μ17 hI_μ17) ?_
      rintro μ18 ⟨hI_μ18, hC_μ18⟩
      have hF_μ18 : Fr [(0, 30, 7), (0, 39, 1), (0, 39, 2), (0, 39, 5), (0, 137, 6), (1, 40, 0), (1, 42, 0), (1, 43, 0), (1, 45, 0), (2, 1, 2), (2, 1, 3)] false μ μ18 := hF_μ17.trans (hC_μ18.mono (by decide +kernel) (by decide))
      have hr_μ18 : μ18.2.2 = μ.2.2 := (hC_μ18.2 rfl : μ18.2.2 = μ17.2.2).trans hr_μ17
      try rw [hr_μ18]
      refine ok_bw (k_X10_swapCalls  μ18 hI_μ18) ?_
      rintro μ20 ⟨hI_μ20, hC_μ20⟩
      have hF_μ20 : Fr [(0, 30, 7), (0, 39, 1), (0, 39, 2), (0, 39, 5), (0, 137, 6), (1, 40, 0), (1, 42, 0), (1, 43, 0), (1, 45, 0), (2, 1, 2), (2, 1, 3)] false μ μ20 := hF_μ18.trans (hC_μ20.mono (by decide +kernel) (by decide))
      have hr_μ20 : μ20.2.2 = μ20.2.2 := rfl
      refine ok_bd (k_X5_find (sel 1 (μ20.2.2 137 14)) (sel_1 _) μ20 hI_μ20) ?_
      rintro r23 μ22 ⟨hI_μ22, hC_μ22⟩
      have hI_μ22 : IX μ22 := hI_μ22
      have hC_μ22 : Fr [] true μ20 μ22 := hC_μ22
      have lo_r23 := ti_lo r23
      have hi_r23 := ti_hi r23
      have hF_μ22 : Fr [(0, 30, 7), (0, 39, 1), (0, 39, 2), (0, 39, 5), (0, 137, 6), (1, 40, 0), (1, 42, 0), (1, 43, 0), (1, 45, 0), (2, 1, 2), (2, 1, 3)] false μ μ22 := hF_μ20.trans (hC_μ22.mono (by decide +kernel) (by decide))
      have hr_μ22 : μ22.2.2 = μ20.2.2 := (hC_μ22.2 rfl : μ22.2.2 = μ20.2.2).trans hr_μ20
      try rw [hr_μ22]
      exact ok_mono (k_X10_leaveCall_b65  r23 μ22 hI_μ22) (fun q h => ⟨h.1, hF_μ22.trans h.2⟩)
  · intro c3
    rw [ti_eq] at c3
    exact ok_mono (k_X10_leaveCall_b65  r2 μ1 hI_μ1) (fun q h => ⟨h.1, hF_μ1.trans h.2⟩)

set_option maxHeartbeats 4000000 in
set_option maxRecDepth 100000 in
theorem k_X8_closeFrame  (μ : Mem) (hI_μ : IX μ) : ok (p_X8_closeFrame  μ) (fun q => IX q.2 ∧ Fr [(0, 30, 10)] true μ q.2) := by
  have lim1 : (-1 : Int32).toInt = -1 := by decide
  have li0 : (0 : Int32).toInt = 0 := by decide
  have li1 : (1 : Int32).toInt = 1 := by decide
  have hF_μ : Fr [(0, 30, 10)] true μ μ := Fr.rf
  have hr_μ : μ.2.2 = μ.2.2 := rfl
  rw [p_X8_closeFrame_eq]
  have g1 := rg_30_10 hI_μ
  refine ok_ite ?_ ?_
  · intro c2
    rw [ti_le] at c2
    refine ok_bv (fun μ3 e_μ3 => ?_)
    have hI_μ3 : IX μ3 := by rw [e_μ3]; exact IX_F hI_μ (rp_30_10 (by (try rw [TI.e (e := ((μ.1 30 10) - (1 : Int32))) (n := ((μ.1 30 10).toInt - 1)) (TI.sub TI.rf (TI.lit (by decide)) (by omega) (by omega))]); omega))
    have hF_μ3 : Fr [(0, 30, 10)] true μ μ3 := by rw [e_μ3]; exact Fr.put hF_μ (by decide +kernel)
    have v_μ3 : (μ3.1 30 10).toInt = ((μ.1 30 10).toInt - 1) := by rw [e_μ3, sF_v]; exact TI.e (n := ((μ.1 30 10).toInt - 1)) (TI.sub TI.rf (TI.lit (by decide)) (by omega) (by omega))
    have hr_μ3 : μ3.2.2 = μ.2.2 := (by rw [e_μ3]; rfl : μ3.2.2 = μ.2.2).trans hr_μ
    have g4 := rg_30_10 hI_μ3
    refine ok_gd (inb_iff.mpr (by (try rw [TI.e (e := ((μ3.1 30 10) + (1 : Int32))) (n := ((μ3.1 30 10).toInt + 1)) (TI.add TI.rf (TI.lit (by decide)) (by omega) (by omega))]); omega)) ?_
    exact ok_some ⟨hI_μ3, hF_μ3⟩
  · intro c2
    rw [ti_le] at c2
    exact ok_some ⟨hI_μ, hF_μ⟩

set_option maxHeartbeats 4000000 in
set_option maxRecDepth 100000 in
theorem k_X10_goBack  (μ : Mem) (hI_μ : IX μ) : ok (p_X10_goBack  μ) (fun q => IX q ∧ Fr [(0, 30, 5), (0, 30, 7), (0, 30, 10), (0, 39, 1), (0, 39, 6), (0, 137, 6), (0, 137, 7), (0, 137, 8), (0, 137, 9), (0, 137, 12), (0, 137, 13), (1, 33, 0), (1, 34, 0), (1, 40, 0), (1, 42, 0), (1, 43, 0), (1, 45, 0)] true μ q) := by
  have lim1 : (-1 : Int32).toInt = -1 := by decide
  have li0 : (0 : Int32).toInt = 0 := by decide
  have li1 : (1 : Int32).toInt = 1 := by decide
  have hF_μ : Fr [(0, 30, 5), (0, 30, 7), (0, 30, 10), (0, 39, 1), (0, 39, 6), (0, 137, 6), (0, 137, 7), (0, 137, 8), (0, 137, 9), (0, 137, 12), (0, 137, 13), (1, 33, 0), (1, 34, 0), (1, 40, 0), (1, 42, 0), (1, 43, 0), (1, 45, 0)] true μ μ := Fr.rf
  have hr_μ : μ.2.2 = μ.2.2 := rfl
  rw [p_X10_goBack_eq]
  refine ok_bd (k_X8_closeFrame  μ hI_μ) ?_
  rintro r2 μ1 ⟨hI_μ1, hC_μ1⟩
  have hI_μ1 : IX μ1 := hI_μ1
  have hC_μ1 : Fr [(0, 30, 10)] true μ μ1 := hC_μ1
  have lo_r2 := ti_lo r2
  have hi_r2 := ti_hi r2
  have hF_μ1 : Fr [(0, 30, 5), (0, 30, 7), (0, 30, 10), (0, 39, 1), (0, 39, 6), (0, 137, 6), (0, 137, 7), (0, 137, 8), (0, 137, 9), (0, 137, 12), (0, 137, 13), (1, 33, 0), (1, 34, 0), (1, 40, 0), (1, 42, 0), (1, 43, 0), (1, 45, 0)] true μ μ1 := hF_μ.trans (hC_μ1.mono (by decide +kernel) (by decide))
  have hr_μ1 : μ1.2.2 = μ.2.2 := (hC_μ1.2 rfl : μ1.2.2 = μ.2.2).trans hr_μ
  try rw [hr_μ1]
  refine ok_bv (fun μ3 e_μ3 => ?_)
  have hI_μ3 : IX μ3 := by rw [e_μ3]; exact IX_F hI_μ1 (rt_137_9 _)
  have hF_μ3 : Fr [(0, 30, 5), (0, 30, 7), (0, 30, 10), (0, 39, 1), (0, 39, 6), (0, 137, 6), (0, 137, 7), (0, 137, 8), (0, 137, 9), (0, 137, 12), (0, 137, 13), (1, 33, 0), (1, 34, 0), (1, 40, 0), (1, 42, 0), (1, 43, 0), (1, 45, 0)] true μ μ3 := by rw [e_μ3]; exact Fr.put hF_μ1 (by decide +kernel)
  have v_μ3 : (μ3.1 137 9).toInt = r2.toInt := by rw [e_μ3, sF_v]
  have hr_μ3 : μ3.2.2 = μ.2.2 := (by rw [e_μ3]; rfl : μ3.2.2 = μ1.2.2).trans hr_μ1
  try rw [hr_μ3]
  have g4 := ti_lo (μ3.1 137 9)
  have g4h := ti_hi (μ3.1 137 9)
  refine ok_ite ?_ ?_
  · intro c5
    rw [ti_eq] at c5
    have g6 := ti_lo (μ3.1 137 8)
    have g6h := ti_hi (μ3.1 137 8)
    refine ok_bd (k_X8_pop  μ3 hI_μ3) ?_
    rintro r8 μ7 ⟨hI_μ7, hC_μ7⟩
    have hI_μ7 : IX μ7 := hI_μ7
    have hC_μ7 : Fr [(0, 30, 7)] true μ3 μ7 := hC_μ7
    have hF_μ7 : Fr [(0, 30, 5), (0, 30, 7), (0, 30, 10), (0, 39, 1), (0, 39, 6), (0, 137, 6), (0, 137, 7), (0, 137, 8), (0, 137, 9), (0, 137, 12), (0, 137, 13), (1, 33, 0), (1, 34, 0), (1, 40, 0), (1, 42, 0), (1, 43, 0), (1, 45, 0)] true μ μ7 := hF_μ3.trans (hC_μ7.mono (by decide +kernel) (by decide))
    have hr_μ7 : μ7.2.2 = μ.2.2 := (hC_μ7.2 rfl : μ7.2.2 = μ3.2.2).trans hr_μ3
    try rw [hr_μ7]
    refine ok_bd (kr_X10_lift 50 r8 (0 : Int32) μ7 hI_μ7 (by (try simp only [hr_μ7]); omega)) ?_
    rintro r10 μ9 ⟨hI_μ9, hC_μ9⟩
    have hI_μ9 : IX μ9 := hI_μ9
    have hC_μ9 : Fr [(0, 39, 1), (0, 137, 6), (1, 40, 0), (1, 42, 0), (1, 43, 0), (1, 45, 0)] true μ7 μ9 := hC_μ9
    have hF_μ9 : Fr [(0, 30, 5), (0, 30, 7), (0, 30, 10), (0, 39, 1), (0, 39, 6), (0, 137, 6), (0, 137, 7), (0, 137, 8), (0, 137, 9), (0, 137, 12), (0, 137, 13), (1, 33, 0), (1, 34, 0), (1, 40, 0), (1, 42, 0), (1, 43, 0), (1, 45, 0)] true μ μ9 := hF_μ7.trans (hC_μ9.mono (by decide +kernel) (by decide))
    have hr_μ9 : μ9.2.2 = μ.2.2 := (hC_μ9.2 rfl : μ9.2.2 = μ7.2.2).trans hr_μ7
    try rw [hr_μ9]
    refine ok_bw (k_X5_endBlock (μ3.1 137 8) r10 μ9 hI_μ9) ?_
    rintro μ11 ⟨hI_μ11, hC_μ11⟩
    have hF_μ11 : Fr [(0, 30, 5), (0, 30, 7), (0, 30, 10), (0, 39, 1), (0, 39, 6), (0, 137, 6), (0, 137, 7), (0, 137, 8), (0, 137, 9), (0, 137, 12), (0, 137, 13), (1, 33, 0), (1, 34, 0), (1, 40, 0), (1, 42, 0), (1, 43, 0), (1, 45, 0)] true μ μ11 := hF_μ9.trans (hC_μ11.mono (by decide +kernel) (by decide))
    have hr_μ11 : μ11.2.2 = μ.2.2 := (hC_μ11.2 rfl : μ11.2.2 = μ9.2.2).trans hr_μ9
    try rw [hr_μ11]
    have g13 := ti_lo (μ11.1 137 7)
    have g13h := ti_hi (μ11.1 137 7)
    refine ok_bw (k_X10_beginVariant ((μ11.1 137 7) + (1 : Int32)) μ11 hI_μ11) ?_
    rintro μ14 ⟨hI_μ14, hC_μ14⟩
    have hF_μ14 : Fr [(0, 30, 5), (0, 30, 7), (0, 30, 10), (0, 39, 1), (0, 39, 6), (0, 137, 6), (0, 137, 7), (0, 137, 8), (0, 137, 9), (0, 137, 12), (0, 137, 13), (1, 33, 0), (1, 34, 0), (1, 40, 0), (1, 42, 0), (1, 43, 0), (1, 45, 0)] true μ μ14 := hF_μ11.trans (hC_μ14.mono (by decide +kernel) (by decide))
    have hr_μ14 : μ14.2.2 = μ.2.2 := (hC_μ14.2 rfl : μ14.2.2 = μ11.2.2).trans hr_μ11
    try rw [hr_μ14]
    exact ok_some ⟨hI_μ14, hF_μ14⟩
  · intro c5
    rw [ti_eq] at c5
    exact ok_some ⟨hI_μ3, hF_μ3⟩

set_option maxHeartbeats 4000000 in
set_option maxRecDepth 100000 in
theorem k_X10_step  (μ : Mem) (hI_μ : IX μ) : ok (p_X10_step  μ) (fun q => IX q ∧ Fr [(0, 30, 5), (0, 30, 7), (0, 30, 10), (0, 39, 1), (0, 39, 2), (0, 39, 3), (0, 39, 4), (0, 39, 5), (0, 39, 6), (0, 137, 6), (0, 137, 7), (0, 137, 8), (0, 137, 9), (0, 137, 12), (0, 137, 13), (1, 33, 0), (1, 34, 0), (1, 38, 0), (1, 40, 0), (1, 42, 0), (1, 43, 0), (1, 45, 0), (1, 138, 0), (2, 1, 2), (2, 1, 3)] false μ q) := by
  have li0 : (0 : Int32).toInt = 0 := by decide
  have li1 : (1 : Int32).toInt = 1 := by decide
  have li2 : (2 : Int32).toInt = 2 := by decide
  have li3 : (3 : Int32).toInt = 3 := by decide
  have li4 : (4 : Int32).toInt = 4 := by decide
  have li5 : (5 : Int32).toInt = 5 := by decide
  have li6 : (6 : Int32).toInt = 6 := by decide
  have li7 : (7 : Int32).toInt = 7 := by decide
  have li8 : (8 : Int32).toInt = 8 := by decide
  have li9 : (9 : Int32).toInt = 9 := by decide
  have li10 : (10 : Int32).toInt = 10 := by decide
  have li11 : (11 : Int32).toInt = 11 := by decide
  have li12 : (12 : Int32).toInt = 12 := by decide
  have li13 : (13 : Int32).toInt = 13 := by decide
  have hF_μ : Fr [(0, 30, 5), (0, 30, 7), (0, 30, 10), (0, 39, 1), (0, 39, 2), (0, 39, 3), (0, 39, 4), (0, 39, 5), (0, 39, 6), (0, 137, 6), (0, 137, 7), (0, 137, 8), (0, 137, 9), (0, 137, 12), (0, 137, 13), (1, 33, 0), (1, 34, 0), (1, 38, 0), (1, 40, 0), (1, 42, 0), (1, 43, 0), (1, 45, 0), (1, 138, 0), (2, 1, 2), (2, 1, 3)] false μ μ := Fr.rf
  have hr_μ : μ.2.2 = μ.2.2 := rfl
  rw [p_X10_step_eq]
  have g1 := ti_lo (μ.1 137 9)
  have g1h := ti_hi (μ.1 137 9)
  refine ok_bd (k_X3_stepAt (sel 2 (μ.2.2 137 5)) (sel_2 _) (μ.1 137 9) μ hI_μ) ?_
  rintro r3 μ2 ⟨hI_μ2, hC_μ2⟩
  have hI_μ2 : IX μ2 := hI_μ2
  have hC_μ2 : Fr [] true μ μ2 := hC_μ2
  have lo_r3 := ti_lo r3
  have hi_r3 := ti_hi r3
  have hF_μ2 : Fr [(0, 30, 5), (0, 30, 7), (0, 30, 10), (0, 39, 1), (0, 39, 2), (0, 39, 3), (0, 39, 4), (0, 39, 5), (0, 39, 6), (0, 137, 6), (0, 137, 7), (0, 137, 8), (0, 137, 9), (0, 137, 12), (0, 137, 13), (1, 33, 0), (1, 34, 0), (1, 38, 0), (1, 40, 0), (1, 42, 0), (1, 43, 0), (1, 45, 0), (1, 138, 0), (2, 1, 2), (2, 1, 3)] false μ μ2 := hF_μ.trans (hC_μ2.mono (by decide +kernel) (by decide))
  have hr_μ2 : μ2.2.2 = μ.2.2 := (hC_μ2.2 rfl : μ2.2.2 = μ.2.2).trans hr_μ
  try rw [hr_μ2]
  have g4 := ti_lo (μ2.1 137 9)
  have g4h := ti_hi (μ2.1 137 9)
  have f5 : (μ2.1 137 9).toInt = (μ.1 137 9).toInt := congrArg Int32.toInt (hC_μ2.1 137 9 (by decide +kernel))
  refine ok_bd (k_X3_markAt (sel 2 (μ.2.2 137 5)) (sel_2 _) (μ2.1 137 9) μ2 hI_μ2) ?_
  rintro r7 μ6 ⟨hI_μ6, hC_μ6⟩
  have hI_μ6 : IX μ6 := hI_μ6
  have hC_μ6 : Fr [] true μ2 μ6 := hC_μ6
  have lo_r7 := ti_lo r7
  have hi_r7 := ti_hi r7
  have hF_μ6 : Fr [(0, 30, 5), (0, 30, 7), (0, 30, 10), (0, 39, 1), (0, 39, 2), (0, 39, 3), (0, 39, 4), (0, 39, 5), (0, 39, 6), (0, 137, 6), (0, 137, 7), (0, 137, 8), (0, 137, 9), (0, 137, 12), (0, 137, 13), (1, 33, 0), (1, 34, 0), (1, 38, 0), (1, 40, 0), (1, 42, 0), (1, 43, 0), (1, 45, 0), (1, 138, 0), (2, 1, 2), (2, 1, 3)] false μ μ6 := hF_μ2.trans (hC_μ6.mono (by decide +kernel) (by decide))
  have hr_μ6 : μ6.2.2 = μ.2.2 := (hC_μ6.2 rfl : μ6.2.2 = μ2.2.2).trans hr_μ2
  try rw [hr_μ6]
  have g8 := ti_lo (μ6.1 137 9)
  have g8h := ti_hi (μ6.1 137 9)
  have f9 : (μ6.1 137 9).toInt = (μ2.1 137 9).toInt := congrArg Int32.toInt (hC_μ6.1 137 9 (by decide +kernel))
  refine ok_bd (k_X3_bitsAt (sel 2 (μ.2.2 137 5)) (sel_2 _) (μ6.1 137 9) μ6 hI_μ6) ?_
  rintro r11 μ10 ⟨hI_μ10, hC_μ10⟩
  have hI_μ10 : IX μ10 := hI_μ10
  have hC_μ10 : Fr [] true μ6 μ10 := hC_μ10
  have lo_r11 := ti_lo r11
  have hi_r11 := ti_hi r11
  have hF_μ10 : Fr [(0, 30, 5), (0, 30, 7), (0, 30, 10), (0, 39, 1), (0, 39, 2), (0, 39, 3), (0, 39, 4), (0, 39, 5), (0, 39, 6), (0, 137, 6), (0, 137, 7), (0, 137, 8), (0, 137, 9), (0, 137, 12), (0, 137, 13), (1, 33, 0), (1, 34, 0), (1, 38, 0), (1, 40, 0), (1, 42, 0), (1, 43, 0), (1, 45, 0), (1, 138, 0), (2, 1, 2), (2, 1, 3)] false μ μ10 := hF_μ6.trans (hC_μ10.mono (by decide +kernel) (by decide))
  have hr_μ10 : μ10.2.2 = μ.2.2 := (hC_μ10.2 rfl : μ10.2.2 = μ6.2.2).trans hr_μ6
  try rw [hr_μ10]
  have g12 := ti_lo (μ10.1 137 9)
  have g12h := ti_hi (μ10.1 137 9)
  have f13 : (μ10.1 137 9).toInt = (μ6.1 137 9).toInt := congrArg Int32.toInt (hC_μ10.1 137 9 (by decide +kernel))
  refine ok_bv (fun μ14 e_μ14 => ?_)
  have hI_μ14 : IX μ14 := by rw [e_μ14]; exact IX_F hI_μ10 (rt_137_9 _)
  have hF_μ14 : Fr [(0, 30, 5), (0, 30, 7), (0, 30, 10), (0, 39, 1), (0, 39, 2), (0, 39, 3), (0, 39, 4), (0, 39, 5), (0, 39, 6), (0, 137, 6), (0, 137, 7), (0, 137, 8), (0, 137, 9), (0, 137, 12), (0, 137, 13), (1, 33, 0), (1, 34, 0), (1, 38, 0), (1, 40, 0), (1, 42, 0), (1, 43, 0), (1, 45, 0), (1, 138, 0), (2, 1, 2), (2, 1, 3)] false μ μ14 := by rw [e_μ14]; exact Fr.put hF_μ10 (by decide +kernel)
  have hr_μ14 : μ14.2.2 = μ.2.2 := (by rw [e_μ14]; rfl : μ14.2.2 = μ10.2.2).trans hr_μ10
  try rw [hr_μ14]
  refine ok_ite ?_ ?_
  · intro c16
    rw [ti_eq] at c16
    refine ok_bw (k_X8_push (s_X0_make r7 r11) μ14 hI_μ14) ?_
    rintro μ17 ⟨hI_μ17, hC_μ17⟩
    have hF_μ17 : Fr [(0, 30, 5), (0, 30, 7), (0, 30, 10), (0, 39, 1), (0, 39, 2), (0, 39, 3), (0, 39, 4), (0, 39, 5), (0, 39, 6), (0, 137, 6), (0, 137, 7), (0, 137, 8), (0, 137, 9), (0, 137, 12), (0, 137, 13), (1, 33, 0), (1, 34, 0), (1, 38, 0), (1, 40, 0), (1, 42, 0), (1, 43, 0), (1, 45, 0), (1, 138, 0), (2, 1, 2), (2, 1, 3)] false μ μ17 := hF_μ14.trans (hC_μ17.mono (by decide +kernel) (by decide))
    have hr_μ17 : μ17.2.2 = μ.2.2 := (hC_μ17.2 rfl : μ17.2.2 = μ14.2.2).trans hr_μ14
    try rw [hr_μ17]
    exact ok_some ⟨hI_μ17, hF_μ17⟩
  intro c16
  rw [ti_eq] at c16
  refine ok_ite ?_ ?_
  · intro c19
    rw [ti_eq] at c19
    refine ok_bd (k_X8_varAt r7 μ14 hI_μ14) ?_
    rintro r21 μ20 ⟨hI_μ20, hC_μ20⟩
    have hI_μ20 : IX μ20 := hI_μ20
    have hC_μ20 : Fr [] true μ14 μ20 := hC_μ20
    have hF_μ20 : Fr [(0, 30, 5), (0, 30, 7), (0, 30, 10), (0, 39, 1), (0, 39, 2), (0, 39, 3), (0, 39, 4), (0, 39, 5), (0, 39, 6), (0, 137, 6), (0, 137, 7), (0, 137, 8), (0, 137, 9), (0, 137, 12), (0, 137, 13), (1, 33, 0), (1, 34, 0), (1, 38, 0), (1, 40, 0), (1, 42, 0), (1, 43, 0), (1, 45, 0), (1, 138, 0), (2, 1, 2), (2, 1, 3)] false μ μ20 := hF_μ14.trans (hC_μ20.mono (by decide +kernel) (by decide))
    have hr_μ20 : μ20.2.2 = μ.2.2 := (hC_μ20.2 rfl : μ20.2.2 = μ14.2.2).trans hr_μ14
    try rw [hr_μ20]
    refine ok_bw (k_X8_push r21 μ20 hI_μ20) ?_
    rintro μ22 ⟨hI_μ22, hC_μ22⟩
    have hF_μ22 : Fr [(0, 30, 5), (0, 30, 7), (0, 30, 10), (0, 39, 1), (0, 39, 2), (0, 39, 3), (0, 39, 4), (0, 39, 5), (0, 39, 6), (0, 137, 6), (0, 137, 7), (0, 137, 8), (0, 137, 9), (0, 137, 12), (0, 137, 13), (1, 33, 0), (1, 34, 0), (1, 38, 0), (1, 40, 0), (1, 42, 0), (1, 43, 0), (1, 45, 0), (1, 138, 0), (2, 1, 2), (2, 1, 3)] false μ μ22 := hF_μ20.trans (hC_μ22.mono (by decide +kernel) (by decide))
    have hr_μ22 : μ22.2.2 = μ.2.2 := (hC_μ22.2 rfl : μ22.2.2 = μ20.2.2).trans hr_μ20
    try rw [hr_μ22]
    exact ok_some ⟨hI_μ22, hF_μ22⟩
  intro c19
  rw [ti_eq] at c19
  refine ok_ite ?_ ?_
  · intro c24
    rw [ti_eq] at c24
    refine ok_bw (k_X10_reckon r7 μ14 hI_μ14) ?_
    rintro μ25 ⟨hI_μ25, hC_μ25⟩
    have hF_μ25 : Fr [(0, 30, 5), (0, 30, 7), (0, 30, 10), (0, 39, 1), (0, 39, 2), (0, 39, 3), (0, 39, 4), (0, 39, 5), (0, 39, 6), (0, 137, 6), (0, 137, 7), (0, 137, 8), (0, 137, 9), (0, 137, 12), (0, 137, 13), (1, 33, 0), (1, 34, 0), (1, 38, 0), (1, 40, 0), (1, 42, 0), (1, 43, 0), (1, 45, 0), (1, 138, 0), (2, 1, 2), (2, 1, 3)] false μ μ25 := hF_μ14.trans (hC_μ25.mono (by decide +kernel) (by decide))
    have hr_μ25 : μ25.2.2 = μ.2.2 := (hC_μ25.2 rfl : μ25.2.2 = μ14.2.2).trans hr_μ14
    try rw [hr_μ25]
    exact ok_some ⟨hI_μ25, hF_μ25⟩
  intro c24
  rw [ti_eq] at c24
  refine ok_ite ?_ ?_
  · intro c27
    rw [ti_eq] at c27
    refine ok_bw (k_X10_turn r7 μ14 hI_μ14) ?_
    rintro μ28 ⟨hI_μ28, hC_μ28⟩
    have hF_μ28 : Fr [(0, 30, 5), (0, 30, 7), (0, 30, 10), (0, 39, 1), (0, 39, 2), (0, 39, 3), (0, 39, 4), (0, 39, 5), (0, 39, 6), (0, 137, 6), (0, 137, 7), (0, 137, 8), (0, 137, 9), (0, 137, 12), (0, 137, 13), (1, 33, 0), (1, 34, 0), (1, 38, 0), (1, 40, 0), (1, 42, 0), (1, 43, 0), (1, 45, 0), (1, 138, 0), (2, 1, 2), (2, 1, 3)] false μ μ28 := hF_μ14.trans (hC_μ28.mono (by decide +kernel) (by decide))
    have hr_μ28 : μ28.2.2 = μ.2.2 := (hC_μ28.2 rfl : μ28.2.2 = μ14.2.2).trans hr_μ14
    try rw [hr_μ28]
    exact ok_some ⟨hI_μ28, hF_μ28⟩
  intro c27
  rw [ti_eq] at c27
  refine ok_ite ?_ ?_
  · intro c30
    rw [ti_eq] at c30
    refine ok_bw (k_X10_takePart r7 μ14 hI_μ14) ?_
    rintro μ31 ⟨hI_μ31, hC_μ31⟩
    have hF_μ31 : Fr [(0, 30, 5), (0, 30, 7), (0, 30, 10), (0, 39, 1), (0, 39, 2), (0, 39, 3), (0, 39, 4), (0, 39, 5), (0, 39, 6), (0, 137, 6), (0, 137, 7), (0, 137, 8), (0, 137, 9), (0, 137, 12), (0, 137, 13), (1, 33, 0), (1, 34, 0), (1, 38, 0), (1, 40, 0), (1, 42, 0), (1, 43, 0), (1, 45, 0), (1, 138, 0), (2, 1, 2), (2, 1, 3)] false μ μ31 := hF_μ14.trans (hC_μ31.mono (by decide +kernel) (by decide))
    have hr_μ31 : μ31.2.2 = μ.2.2 := (hC_μ31.2 rfl : μ31.2.2 = μ14.2.2).trans hr_μ14
    try rw [hr_μ31]
    exact ok_some ⟨hI_μ31, hF_μ31⟩
  intro c30
  rw [ti_eq] at c30
  refine ok_ite ?_ ?_
  · intro c33
    rw [ti_eq] at c33
    refine ok_bw (k_X10_makePair  μ14 hI_μ14) ?_
    rintro μ34 ⟨hI_μ34, hC_μ34⟩
    have hF_μ34 : Fr [(0, 30, 5), (0, 30, 7), (0, 30, 10), (0, 39, 1), (0, 39, 2), (0, 39, 3), (0, 39, 4), (0, 39, 5), (0, 39, 6), (0, 137, 6), (0, 137, 7), (0, 137, 8), (0, 137, 9), (0, 137, 12), (0, 137, 13), (1, 33, 0), (1, 34, 0), (1, 38, 0), (1, 40, 0), (1, 42, 0), (1, 43, 0), (1, 45, 0), (1, 138, 0), (2, 1, 2), (2, 1, 3)] false μ μ34 := hF_μ14.trans (hC_μ34.mono (by decide +kernel) (by decide))
    have hr_μ34 : μ34.2.2 = μ.2.2 := (hC_μ34.2 rfl : μ34.2.2 = μ14.2.2).trans hr_μ14
    try rw [hr_μ34]
    exact ok_some ⟨hI_μ34, hF_μ34⟩
  intro c33
  rw [ti_eq] at c33
  refine ok_ite ?_ ?_
  · intro c36
    rw [ti_eq] at c36
    refine ok_bw (k_X10_test r7 μ14 hI_μ14) ?_
    rintro μ37 ⟨hI_μ37, hC_μ37⟩
    have hF_μ37 : Fr [(0, 30, 5), (0, 30, 7), (0, 30, 10), (0, 39, 1), (0, 39, 2), (0, 39, 3), (0, 39, 4), (0, 39, 5), (0, 39, 6), (0, 137, 6), (0, 137, 7), (0, 137, 8), (0, 137, 9), (0, 137, 12), (0, 137, 13), (1, 33, 0), (1, 34, 0), (1, 38, 0), (1, 40, 0), (1, 42, 0), (1, 43, 0), (1, 45, 0), (1, 138, 0), (2, 1, 2), (2, 1, 3)] false μ μ37 := hF_μ14.trans (hC_μ37.mono (by decide +kernel) (by decide))
    have hr_μ37 : μ37.2.2 = μ.2.2 := (hC_μ37.2 rfl : μ37.2.2 = μ14.2.2).trans hr_μ14
    try rw [hr_μ37]
    exact ok_some ⟨hI_μ37, hF_μ37⟩
  intro c36
  rw [ti_eq] at c36
  refine ok_ite ?_ ?_
  · intro c39
    rw [ti_eq] at c39
    refine ok_bw (k_X10_endThen r7 μ14 hI_μ14) ?_
    rintro μ40 ⟨hI_μ40, hC_μ40⟩
    have hF_μ40 : Fr [(0, 30, 5), (0, 30, 7), (0, 30, 10), (0, 39, 1), (0, 39, 2), (0, 39, 3), (0, 39, 4), (0, 39, 5), (0, 39, 6), (0, 137, 6), (0, 137, 7), (0, 137, 8), (0, 137, 9), (0, 137, 12), (0, 137, 13), (1, 33, 0), (1, 34, 0), (1, 38, 0), (1, 40, 0), (1, 42, 0), (1, 43, 0), (1, 45, 0), (1, 138, 0), (2, 1, 2), (2, 1, 3)] false μ μ40 := hF_μ14.trans (hC_μ40.mono (by decide +kernel) (by decide))
    have hr_μ40 : μ40.2.2 = μ.2.2 := (hC_μ40.2 rfl : μ40.2.2 = μ14.2.2).trans hr_μ14
    try rw [hr_μ40]
    exact ok_some ⟨hI_μ40, hF_μ40⟩
  intro c39
  rw [ti_eq] at c39
  refine ok_ite ?_ ?_
  · intro c42
    rw [ti_eq] at c42
    refine ok_bw (k_X10_endElse  μ14 hI_μ14) ?_
    rintro μ43 ⟨hI_μ43, hC_μ43⟩
    have hF_μ43 : Fr [(0, 30, 5), (0, 30, 7), (0, 30, 10), (0, 39, 1), (0, 39, 2), (0, 39, 3), (0, 39, 4), (0, 39, 5), (0, 39, 6), (0, 137, 6), (0, 137, 7), (0, 137, 8), (0, 137, 9), (0, 137, 12), (0, 137, 13), (1, 33, 0), (1, 34, 0), (1, 38, 0), (1, 40, 0), (1, 42, 0), (1, 43, 0), (1, 45, 0), (1, 138, 0), (2, 1, 2), (2, 1, 3)] false μ μ43 := hF_μ14.trans (hC_μ43.mono (by decide +kernel) (by decide))
    have hr_μ43 : μ43.2.2 = μ.2.2 := (hC_μ43.2 rfl : μ43.2.2 = μ14.2.2).trans hr_μ14
    try rw [hr_μ43]
    exact ok_some ⟨hI_μ43, hF_μ43⟩
  intro c42
  rw [ti_eq] at c42
  refine ok_ite ?_ ?_
  · intro c45
    rw [ti_eq] at c45
    refine ok_bd (k_X8_fromTop (0 : Int32) μ14 hI_μ14) ?_
    rintro r47 μ46 ⟨hI_μ46, hC_μ46⟩
    have hI_μ46 : IX μ46 := hI_μ46
    have hC_μ46 : Fr [] true μ14 μ46 := hC_μ46
    have hF_μ46 : Fr [(0, 30, 5), (0, 30, 7), (0, 30, 10), (0, 39, 1), (0, 39, 2), (0, 39, 3), (0, 39, 4), (0, 39, 5), (0, 39, 6), (0, 137, 6), (0, 137, 7), (0, 137, 8), (0, 137, 9), (0, 137, 12), (0, 137, 13), (1, 33, 0), (1, 34, 0), (1, 38, 0), (1, 40, 0), (1, 42, 0), (1, 43, 0), (1, 45, 0), (1, 138, 0), (2, 1, 2), (2, 1, 3)] false μ μ46 := hF_μ14.trans (hC_μ46.mono (by decide +kernel) (by decide))
    have hr_μ46 : μ46.2.2 = μ.2.2 := (hC_μ46.2 rfl : μ46.2.2 = μ14.2.2).trans hr_μ14
    try rw [hr_μ46]
    refine ok_bd (k_X8_num r47 μ46 hI_μ46) ?_
    rintro r49 μ48 ⟨hI_μ48, hC_μ48⟩
    have hI_μ48 : IX μ48 := hI_μ48
    have hC_μ48 : Fr [] true μ46 μ48 := hC_μ48
    have hF_μ48 : Fr [(0, 30, 5), (0, 30, 7), (0, 30, 10), (0, 39, 1), (0, 39, 2), (0, 39, 3), (0, 39, 4), (0, 39, 5), (0, 39, 6), (0, 137, 6), (0, 137, 7), (0, 137, 8), (0, 137, 9), (0, 137, 12), (0, 137, 13), (1, 33, 0), (1, 34, 0), (1, 38, 0), (1, 40, 0), (1, 42, 0), (1, 43, 0), (1, 45, 0), (1, 138, 0), (2, 1, 2), (2, 1, 3)] false μ μ48 := hF_μ46.trans (hC_μ48.mono (by decide +kernel) (by decide))
    have hr_μ48 : μ48.2.2 = μ.2.2 := (hC_μ48.2 rfl : μ48.2.2 = μ46.2.2).trans hr_μ46
    try rw [hr_μ48]
    refine ok_bd (k_X10_leave (7 : Int32) (0 : Int32) r49 (0 : Int64) μ48 hI_μ48) ?_
    rintro r51 μ50 ⟨hI_μ50, hC_μ50⟩
    have hI_μ50 : IX μ50 := hI_μ50
    have hC_μ50 : Fr [(0, 39, 1), (0, 137, 6), (1, 40, 0), (1, 42, 0), (1, 43, 0), (1, 45, 0)] true μ48 μ50 := hC_μ50
    have hF_μ50 : Fr [(0, 30, 5), (0, 30, 7), (0, 30, 10), (0, 39, 1), (0, 39, 2), (0, 39, 3), (0, 39, 4), (0, 39, 5), (0, 39, 6), (0, 137, 6), (0, 137, 7), (0, 137, 8), (0, 137, 9), (0, 137, 12), (0, 137, 13), (1, 33, 0), (1, 34, 0), (1, 38, 0), (1, 40, 0), (1, 42, 0), (1, 43, 0), (1, 45, 0), (1, 138, 0), (2, 1, 2), (2, 1, 3)] false μ μ50 := hF_μ48.trans (hC_μ50.mono (by decide +kernel) (by decide))
    have hr_μ50 : μ50.2.2 = μ.2.2 := (hC_μ50.2 rfl : μ50.2.2 = μ48.2.2).trans hr_μ48
    try rw [hr_μ50]
    exact ok_some ⟨hI_μ50, hF_μ50⟩
  intro c45
  rw [ti_eq] at c45
  refine ok_ite ?_ ?_
  · intro c52
    rw [ti_eq] at c52
    refine ok_bw (k_X10_putAt r7 μ14 hI_μ14) ?_
    rintro μ53 ⟨hI_μ53, hC_μ53⟩
    have hF_μ53 : Fr [(0, 30, 5), (0, 30, 7), (0, 30, 10), (0, 39, 1), (0, 39, 2), (0, 39, 3), (0, 39, 4), (0, 39, 5), (0, 39, 6), (0, 137, 6), (0, 137, 7), (0, 137, 8), (0, 137, 9), (0, 137, 12), (0, 137, 13), (1, 33, 0), (1, 34, 0), (1, 38, 0), (1, 40, 0), (1, 42, 0), (1, 43, 0), (1, 45, 0), (1, 138, 0), (2, 1, 2), (2, 1, 3)] false μ μ53 := hF_μ14.trans (hC_μ53.mono (by decide +kernel) (by decide))
    have hr_μ53 : μ53.2.2 = μ.2.2 := (hC_μ53.2 rfl : μ53.2.2 = μ14.2.2).trans hr_μ14
    try rw [hr_μ53]
    exact ok_some ⟨hI_μ53, hF_μ53⟩
  intro c52
  rw [ti_eq] at c52
  refine ok_ite ?_ ?_
  · intro c55
    rw [ti_eq] at c55
    refine ok_bd (k_X10_leave (9 : Int32) r7 (0 : Int64) (0 : Int64) μ14 hI_μ14) ?_
    rintro r57 μ56 ⟨hI_μ56, hC_μ56⟩
    have hI_μ56 : IX μ56 := hI_μ56
    have hC_μ56 : Fr [(0, 39, 1), (0, 137, 6), (1, 40, 0), (1, 42, 0), (1, 43, 0), (1, 45, 0)] true μ14 μ56 := hC_μ56
    have hF_μ56 : Fr [(0, 30, 5), (0, 30, 7), (0, 30, 10), (0, 39, 1), (0, 39, 2), (0, 39, 3), (0, 39, 4), (0, 39, 5), (0, 39, 6), (0, 137, 6), (0, 137, 7), (0, 137, 8), (0, 137, 9), (0, 137, 12), (0, 137, 13), (1, 33, 0), (1, 34, 0), (1, 38, 0), (1, 40, 0), (1, 42, 0), (1, 43, 0), (1, 45, 0), (1, 138, 0), (2, 1, 2), (2, 1, 3)] false μ μ56 := hF_μ14.trans (hC_μ56.mono (by decide +kernel) (by decide))
    have hr_μ56 : μ56.2.2 = μ.2.2 := (hC_μ56.2 rfl : μ56.2.2 = μ14.2.2).trans hr_μ14
    try rw [hr_μ56]
    refine ok_bw (k_X8_push r57 μ56 hI_μ56) ?_
    rintro μ58 ⟨hI_μ58, hC_μ58⟩
    have hF_μ58 : Fr [(0, 30, 5), (0, 30, 7), (0, 30, 10), (0, 39, 1), (0, 39, 2), (0, 39, 3), (0, 39, 4), (0, 39, 5), (0, 39, 6), (0, 137, 6), (0, 137, 7), (0, 137, 8), (0, 137, 9), (0, 137, 12), (0, 137, 13), (1, 33, 0), (1, 34, 0), (1, 38, 0), (1, 40, 0), (1, 42, 0), (1, 43, 0), (1, 45, 0), (1, 138, 0), (2, 1, 2), (2, 1, 3)] false μ μ58 := hF_μ56.trans (hC_μ58.mono (by decide +kernel) (by decide))
    have hr_μ58 : μ58.2.2 = μ.2.2 := (hC_μ58.2 rfl : μ58.2.2 = μ56.2.2).trans hr_μ56
    try rw [hr_μ58]
    exact ok_some ⟨hI_μ58, hF_μ58⟩
  intro c55
  rw [ti_eq] at c55
  refine ok_ite ?_ ?_
  · intro c60
    rw [ti_eq] at c60
    refine ok_bd (k_X8_pop  μ14 hI_μ14) ?_
    rintro r62 μ61 ⟨hI_μ61, hC_μ61⟩
    have hI_μ61 : IX μ61 := hI_μ61
    have hC_μ61 : Fr [(0, 30, 7)] true μ14 μ61 := hC_μ61
    have hF_μ61 : Fr [(0, 30, 5), (0, 30, 7), (0, 30, 10), (0, 39, 1), (0, 39, 2), (0, 39, 3), (0, 39, 4), (0, 39, 5), (0, 39, 6), (0, 137, 6), (0, 137, 7), (0, 137, 8), (0, 137, 9), (0, 137, 12), (0, 137, 13), (1, 33, 0), (1, 34, 0), (1, 38, 0), (1, 40, 0), (1, 42, 0), (1, 43, 0), (1, 45, 0), (1, 138, 0), (2, 1, 2), (2, 1, 3)] false μ μ61 := hF_μ14.trans (hC_μ61.mono (by decide +kernel) (by decide))
    have hr_μ61 : μ61.2.2 = μ.2.2 := (hC_μ61.2 rfl : μ61.2.2 = μ14.2.2).trans hr_μ14
    try rw [hr_μ61]
    refine ok_bw (k_X8_setVar r7 r62 μ61 hI_μ61) ?_
    rintro μ63 ⟨hI_μ63, hC_μ63⟩
    have hF_μ63 : Fr [(0, 30, 5), (0, 30, 7), (0, 30, 10), (0, 39, 1), (0, 39, 2), (0, 39, 3), (0, 39, 4), (0, 39, 5), (0, 39, 6), (0, 137, 6), (0, 137, 7), (0, 137, 8), (0, 137, 9), (0, 137, 12), (0, 137, 13), (1, 33, 0), (1, 34, 0), (1, 38, 0), (1, 40, 0), (1, 42, 0), (1, 43, 0), (1, 45, 0), (1, 138, 0), (2, 1, 2), (2, 1, 3)] false μ μ63 := hF_μ61.trans (hC_μ63.mono (by decide +kernel) (by decide))
    have hr_μ63 : μ63.2.2 = μ.2.2 := (hC_μ63.2 rfl : μ63.2.2 = μ61.2.2).trans hr_μ61
    try rw [hr_μ63]
    exact ok_some ⟨hI_μ63, hF_μ63⟩
  intro c60
  rw [ti_eq] at c60
  refine ok_ite ?_ ?_
  · intro c65
    rw [ti_eq] at c65
    refine ok_bd (k_X10_workCall r7 r11 μ14 hI_μ14) ?_
    rintro r67 μ66 ⟨hI_μ66, hC_μ66, p_μ66⟩
    have hI_μ66 : IX μ66 := hI_μ66
    have hC_μ66 : Fr [(0, 30, 7), (0, 30, 10), (0, 39, 1), (0, 39, 3), (0, 137, 6), (0, 137, 9), (1, 38, 0), (1, 40, 0), (1, 42, 0), (1, 43, 0), (1, 45, 0)] true μ14 μ66 := hC_μ66
    dsimp only at p_μ66
    have lo_r67 := ti_lo r67
    have hi_r67 := ti_hi r67
    have hF_μ66 : Fr [(0, 30, 5), (0, 30, 7), (0, 30, 10), (0, 39, 1), (0, 39, 2), (0, 39, 3), (0, 39, 4), (0, 39, 5), (0, 39, 6), (0, 137, 6), (0, 137, 7), (0, 137, 8), (0, 137, 9), (0, 137, 12), (0, 137, 13), (1, 33, 0), (1, 34, 0), (1, 38, 0), (1, 40, 0), (1, 42, 0), (1, 43, 0), (1, 45, 0), (1, 138, 0), (2, 1, 2), (2, 1, 3)] false μ μ66 := hF_μ14.trans (hC_μ66.mono (by decide +kernel) (by decide))
    have hr_μ66 : μ66.2.2 = μ.2.2 := (hC_μ66.2 rfl : μ66.2.2 = μ14.2.2).trans hr_μ14
    try rw [hr_μ66]
    refine ok_ite ?_ ?_
    · intro c68
      rw [ti_eq] at c68
      refine ok_bw (k_X10_shapeCall r7 r11 μ66 hI_μ66) ?_
      rintro μ69 ⟨hI_μ69, hC_μ69⟩
      have hF_μ69 : Fr [(0, 30, 5), (0, 30, 7), (0, 30, 10), (0, 39, 1), (0, 39, 2), (0, 39, 3), (0, 39, 4), (0, 39, 5), (0, 39, 6), (0, 137, 6), (0, 137, 7), (0, 137, 8), (0, 137, 9), (0, 137, 12), (0, 137, 13), (1, 33, 0), (1, 34, 0), (1, 38, 0), (1, 40, 0), (1, 42, 0), (1, 43, 0), (1, 45, 0), (1, 138, 0), (2, 1, 2), (2, 1, 3)] false μ μ69 := hF_μ66.trans (hC_μ69.mono (by decide +kernel) (by decide))
      have hr_μ69 : μ69.2.2 = μ69.2.2 := rfl
      refine ok_bw (k_X10_leaveCall r7 μ69 hI_μ69) ?_
      rintro μ71 ⟨hI_μ71, hC_μ71⟩
      have hF_μ71 : Fr [(0, 30, 5), (0, 30, 7), (0, 30, 10), (0, 39, 1), (0, 39, 2), (0, 39, 3), (0, 39, 4), (0, 39, 5), (0, 39, 6), (0, 137, 6), (0, 137, 7), (0, 137, 8), (0, 137, 9), (0, 137, 12), (0, 137, 13), (1, 33, 0), (1, 34, 0), (1, 38, 0), (1, 40, 0), (1, 42, 0), (1, 43, 0), (1, 45, 0), (1, 138, 0), (2, 1, 2), (2, 1, 3)] false μ μ71 := hF_μ69.trans (hC_μ71.mono (by decide +kernel) (by decide))
      have hr_μ71 : μ71.2.2 = μ71.2.2 := rfl
      exact ok_some ⟨hI_μ71, hF_μ71⟩
    · intro c68
      rw [ti_eq] at c68
      exact ok_some ⟨hI_μ66, hF_μ66⟩
  intro c65
  rw [ti_eq] at c65
  refine ok_bw (k_X10_goBack  μ14 hI_μ14) ?_
  rintro μ73 ⟨hI_μ73, hC_μ73⟩
  have hF_μ73 : Fr [(0, 30, 5), (0, 30, 7), (0, 30, 10), (0, 39, 1), (0, 39, 2), (0, 39, 3), (0, 39, 4), (0, 39, 5), (0, 39, 6), (0, 137, 6), (0, 137, 7), (0, 137, 8), (0, 137, 9), (0, 137, 12), (0, 137, 13), (1, 33, 0), (1, 34, 0), (1, 38, 0), (1, 40, 0), (1, 42, 0), (1, 43, 0), (1, 45, 0), (1, 138, 0), (2, 1, 2), (2, 1, 3)] false μ μ73 := hF_μ14.trans (hC_μ73.mono (by decide +kernel) (by decide))
  have hr_μ73 : μ73.2.2 = μ.2.2 := (hC_μ73.2 rfl : μ73.2.2 = μ14.2.2).trans hr_μ14
  try rw [hr_μ73]
  exact ok_some ⟨hI_μ73, hF_μ73⟩

set_option maxHeartbeats 4000000 in
set_option maxRecDepth 100000 in
theorem k_X10_answer  (μ : Mem) (hI_μ : IX μ) : ok (p_X10_answer  μ) (fun q => IX q.2 ∧ Fr [(0, 39, 0), (0, 39, 1), (0, 39, 2), (0, 39, 3), (0, 39, 4), (0, 39, 5), (0, 39, 6)] true μ q.2) := by
  have li0 : (0 : Int32).toInt = 0 := by decide
  have li1 : (1 : Int32).toInt = 1 := by decide
  have hF_μ : Fr [(0, 39, 0), (0, 39, 1), (0, 39, 2), (0, 39, 3), (0, 39, 4), (0, 39, 5), (0, 39, 6)] true μ μ := Fr.rf
  have hr_μ : μ.2.2 = μ.2.2 := rfl
  rw [p_X10_answer_eq]
  have g1 := ti_lo (μ.1 137 6)
  have g1h := ti_hi (μ.1 137 6)
  refine ok_ite ?_ ?_
  · intro c2
    rw [ti_eq] at c2
    refine ok_bv (fun μ3 e_μ3 => ?_)
    have hI_μ3 : IX μ3 := by rw [e_μ3]; exact IX_F hI_μ (rt_39_0 _)
    have hF_μ3 : Fr [(0, 39, 0), (0, 39, 1), (0, 39, 2), (0, 39, 3), (0, 39, 4), (0, 39, 5), (0, 39, 6)] true μ μ3 := by rw [e_μ3]; exact Fr.put hF_μ (by decide +kernel)
    have v_μ3 : (μ3.1 39 0).toInt = 1 := by rw [e_μ3, sF_v]; exact TI.e (n := 1) (TI.lit (by decide))
    have hr_μ3 : μ3.2.2 = μ.2.2 := (by rw [e_μ3]; rfl : μ3.2.2 = μ.2.2).trans hr_μ
    try rw [hr_μ3]
    have g4 := rg_39_2 hI_μ3
    exact ok_some ⟨hI_μ3, hF_μ3⟩
  · intro c2
    rw [ti_eq] at c2
    refine ok_bw (k_X5_clear  μ hI_μ) ?_
    rintro μ5 ⟨hI_μ5, hC_μ5⟩
    have hF_μ5 : Fr [(0, 39, 0), (0, 39, 1), (0, 39, 2), (0, 39, 3), (0, 39, 4), (0, 39, 5), (0, 39, 6)] true μ μ5 := hF_μ.trans (hC_μ5.mono (by decide +kernel) (by decide))
    have hr_μ5 : μ5.2.2 = μ.2.2 := (hC_μ5.2 rfl : μ5.2.2 = μ.2.2).trans hr_μ
    try rw [hr_μ5]
    have g7 := ti_lo (μ5.1 137 6)
    have g7h := ti_hi (μ5.1 137 6)
    have f8 : (μ5.1 137 6).toInt = (μ.1 137 6).toInt := congrArg Int32.toInt (hC_μ5.1 137 6 (by decide +kernel))
    exact ok_some ⟨hI_μ5, hF_μ5⟩

set_option maxHeartbeats 4000000 in
set_option maxRecDepth 100000 in
theorem k_X11_specialise_b17 : ∀ (n : Nat) (a1 : Int32) (μ : Mem), IX μ → (0 ≤ (a1).toInt ∧ (a1).toInt ≤ 1000000 ∧ 1000000 - (a1).toInt < n) → ok (p_X11_specialise_b17 n a1 μ) (fun q => IX q.2 ∧ Fr [(0, 30, 5), (0, 30, 7), (0, 30, 10), (0, 39, 0), (0, 39, 1), (0, 39, 2), (0, 39, 3), (0, 39, 4), (0, 39, 5), (0, 39, 6), (0, 137, 6), (0, 137, 7), (0, 137, 8), (0, 137, 9), (0, 137, 12), (0, 137, 13), (1, 33, 0), (1, 34, 0), (1, 38, 0), (1, 40, 0), (1, 42, 0), (1, 43, 0), (1, 45, 0), (1, 138, 0), (2, 1, 2), (2, 1, 3)] false μ q.2) := by
  have li0 : (0 : Int32).toInt = 0 := by decide
  have li1 : (1 : Int32).toInt = 1 := by decide
  have li1000000 : (1000000 : Int32).toInt = 1000000 := by decide
  intro n
  induction n with
  | zero => intro a1 μ hI_μ hc; exact absurd hc (by have lo_a1 := ti_lo a1; have hi_a1 := ti_hi a1; omega)
  | succ n ih =>
    intro a1 μ hI_μ hc
    have hF_μ : Fr [(0, 30, 5), (0, 30, 7), (0, 30, 10), (0, 39, 0), (0, 39, 1), (0, 39, 2), (0, 39, 3), (0, 39, 4), (0, 39, 5), (0, 39, 6), (0, 137, 6), (0, 137, 7), (0, 137, 8), (0, 137, 9), (0, 137, 12), (0, 137, 13), (1, 33, 0), (1, 34, 0), (1, 38, 0), (1, 40, 0), (1, 42, 0), (1, 43, 0), (1, 45, 0), (1, 138, 0), (2, 1, 2), (2, 1, 3)] false μ μ := Fr.rf
    have hr_μ : μ.2.2 = μ.2.2 := rfl
    rw [p_X11_specialise_b17_s]
    have lo_a1 := ti_lo a1
    have hi_a1 := ti_hi a1
    refine ok_ite ?_ ?_
    · intro c3
      rw [ti_le] at c3
      refine ok_bd (k_X10_answer  μ hI_μ) ?_
      rintro r5 μ4 ⟨hI_μ4, hC_μ4⟩
      have hI_μ4 : IX μ4 := hI_μ4
      have hC_μ4 : Fr [(0, 39, 0), (0, 39, 1), (0, 39, 2), (0, 39, 3), (0, 39, 4), (0, 39, 5), (0, 39, 6)] true μ μ4 := hC_μ4
      have lo_r5 := ti_lo r5
      have hi_r5 := ti_hi r5
      have hF_μ4 : Fr [(0, 30, 5), (0, 30, 7), (0, 30, 10), (0, 39, 0), (0, 39, 1), (0, 39, 2), (0, 39, 3), (0, 39, 4), (0, 39, 5), (0, 39, 6), (0, 137, 6), (0, 137, 7), (0, 137, 8), (0, 137, 9), (0, 137, 12), (0, 137, 13), (1, 33, 0), (1, 34, 0), (1, 38, 0), (1, 40, 0), (1, 42, 0), (1, 43, 0), (1, 45, 0), (1, 138, 0), (2, 1, 2), (2, 1, 3)] false μ μ4 := hF_μ.trans (hC_μ4.mono (by decide +kernel) (by decide))
      have hr_μ4 : μ4.2.2 = μ.2.2 := (hC_μ4.2 rfl : μ4.2.2 = μ.2.2).trans hr_μ
      try rw [hr_μ4]
      exact ok_some ⟨hI_μ4, hF_μ4⟩
    · intro c3
      rw [ti_le] at c3
      refine ok_bd (k_X10_isWorking  μ hI_μ) ?_
      rintro r7 μ6 ⟨hI_μ6, hC_μ6, p_μ6⟩
      have hI_μ6 : IX μ6 := hI_μ6
      have hC_μ6 : Fr [] true μ μ6 := hC_μ6
      dsimp only at p_μ6
      have lo_r7 := ti_lo r7
      have hi_r7 := ti_hi r7
      have hF_μ6 : Fr [(0, 30, 5), (0, 30, 7), (0, 30, 10), (0, 39, 0), (0, 39, 1), (0, 39, 2), (0, 39, 3), (0, 39, 4), (0, 39, 5), (0, 39, 6), (0, 137, 6), (0, 137, 7), (0, 137, 8), (0, 137, 9), (0, 137, 12), (0, 137, 13), (1, 33, 0), (1, 34, 0), (1, 38, 0), (1, 40, 0), (1, 42, 0), (1, 43, 0), (1, 45, 0), (1, 138, 0), (2, 1, 2), (2, 1, 3)] false μ μ6 := hF_μ.trans (hC_μ6.mono (by decide +kernel) (by decide))
      have hr_μ6 : μ6.2.2 = μ.2.2 := (hC_μ6.2 rfl : μ6.2.2 = μ.2.2).trans hr_μ
      try rw [hr_μ6]
      refine ok_ite ?_ ?_
      · intro c8
        rw [ti_eq] at c8
        refine ok_bd (k_X10_answer  μ6 hI_μ6) ?_
        rintro r10 μ9 ⟨hI_μ9, hC_μ9⟩
        have hI_μ9 : IX μ9 := hI_μ9
        have hC_μ9 : Fr [(0, 39, 0), (0, 39, 1), (0, 39, 2), (0, 39, 3), (0, 39, 4), (0, 39, 5), (0, 39, 6)] true μ6 μ9 := hC_μ9
        have lo_r10 := ti_lo r10
        have hi_r10 := ti_hi r10
        have hF_μ9 : Fr [(0, 30, 5), (0, 30, 7), (0, 30, 10), (0, 39, 0), (0, 39, 1), (0, 39, 2), (0, 39, 3), (0, 39, 4), (0, 39, 5), (0, 39, 6), (0, 137, 6), (0, 137, 7), (0, 137, 8), (0, 137, 9), (0, 137, 12), (0, 137, 13), (1, 33, 0), (1, 34, 0), (1, 38, 0), (1, 40, 0), (1, 42, 0), (1, 43, 0), (1, 45, 0), (1, 138, 0), (2, 1, 2), (2, 1, 3)] false μ μ9 := hF_μ6.trans (hC_μ9.mono (by decide +kernel) (by decide))
        have hr_μ9 : μ9.2.2 = μ.2.2 := (hC_μ9.2 rfl : μ9.2.2 = μ6.2.2).trans hr_μ6
        try rw [hr_μ9]
        exact ok_some ⟨hI_μ9, hF_μ9⟩
      · intro c8
        rw [ti_eq] at c8
        refine ok_bw (k_X10_step  μ6 hI_μ6) ?_
        rintro μ11 ⟨hI_μ11, hC_μ11⟩
        have hF_μ11 : Fr [(0, 30, 5), (0, 30, 7), (0, 30, 10), (0, 39, 0), (0, 39, 1), (0, 39, 2), (0, 39, 3), (0, 39, 4), (0, 39, 5), (0, 39, 6), (0, 137, 6), (0, 137, 7), (0, 137, 8), (0, 137, 9), (0, 137, 12), (0, 137, 13), (1, 33, 0), (1, 34, 0), (1, 38, 0), (1, 40, 0), (1, 42, 0), (1, 43, 0), (1, 45, 0), (1, 138, 0), (2, 1, 2), (2, 1, 3)] false μ μ11 := hF_μ6.trans (hC_μ11.mono (by decide +kernel) (by decide))
        have hr_μ11 : μ11.2.2 = μ11.2.2 := rfl
        refine ok_bv (fun v13 ev13 => ?_)
        first | have tv13 : v13.toInt = (a1.toInt + 1) := (congrArg Int32.toInt ev13).trans (TI.e (n := (a1.toInt + 1)) (TI.add TI.rf (TI.lit (by decide)) (by omega) (by omega))) | have tv13 : v13.toInt ≤ a1.toInt + 1 := by rw [ev13]; exact ti_inc _ | skip
        exact ok_mono (ih v13 μ11 hI_μ11 (by omega)) (fun q h => ⟨h.1, hF_μ11.trans h.2⟩)
set_option maxHeartbeats 4000000 in
set_option maxRecDepth 100000 in
theorem k_X11_specialise  (μ : Mem) (hI_μ : IX μ) : ok (p_X11_specialise  μ) (fun q => IX q.2 ∧ Fr [(0, 30, 5), (0, 30, 7), (0, 30, 10), (0, 39, 0), (0, 39, 1), (0, 39, 2), (0, 39, 3), (0, 39, 4), (0, 39, 5), (0, 39, 6), (0, 137, 6), (0, 137, 7), (0, 137, 8), (0, 137, 9), (0, 137, 12), (0, 137, 13), (1, 33, 0), (1, 34, 0), (1, 38, 0), (1, 40, 0), (1, 42, 0), (1, 43, 0), (1, 45, 0), (1, 138, 0), (2, 1, 2), (2, 1, 3)] false μ q.2) := by
  have li0 : (0 : Int32).toInt = 0 := by decide
  have li1 : (1 : Int32).toInt = 1 := by decide
  have hF_μ : Fr [(0, 30, 5), (0, 30, 7), (0, 30, 10), (0, 39, 0), (0, 39, 1), (0, 39, 2), (0, 39, 3), (0, 39, 4), (0, 39, 5), (0, 39, 6), (0, 137, 6), (0, 137, 7), (0, 137, 8), (0, 137, 9), (0, 137, 12), (0, 137, 13), (1, 33, 0), (1, 34, 0), (1, 38, 0), (1, 40, 0), (1, 42, 0), (1, 43, 0), (1, 45, 0), (1, 138, 0), (2, 1, 2), (2, 1, 3)] false μ μ := Fr.rf
  have hr_μ : μ.2.2 = μ.2.2 := rfl
  rw [p_X11_specialise_eq]
  refine ok_bw (k_X10_begin (sel 2 (μ.2.2 0 4)) (sel_2 _) (sel 1 (μ.2.2 0 6)) (sel_1 _) μ hI_μ) ?_
  rintro μ1 ⟨hI_μ1, hC_μ1⟩
  have hF_μ1 : Fr [(0, 30, 5), (0, 30, 7), (0, 30, 10), (0, 39, 0), (0, 39, 1), (0, 39, 2), (0, 39, 3), (0, 39, 4), (0, 39, 5), (0, 39, 6), (0, 137, 6), (0, 137, 7), (0, 137, 8), (0, 137, 9), (0, 137, 12), (0, 137, 13), (1, 33, 0), (1, 34, 0), (1, 38, 0), (1, 40, 0), (1, 42, 0), (1, 43, 0), (1, 45, 0), (1, 138, 0), (2, 1, 2), (2, 1, 3)] false μ μ1 := hF_μ.trans (hC_μ1.mono (by decide +kernel) (by decide))
  have hr_μ1 : μ1.2.2 = μ1.2.2 := rfl
  obtain ⟨fu, hfu0, hfu⟩ := fuel_ex
  rw [hfu0]
  exact ok_mono (k_X11_specialise_b17  fu (0 : Int32) μ1 hI_μ1 (by omega)) (fun q h => ⟨h.1, hF_μ1.trans h.2⟩)
