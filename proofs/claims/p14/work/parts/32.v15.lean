set_option maxHeartbeats 4000000 in
set_option maxRecDepth 100000 in
theorem k_X6_goOn (a1 : Int32) (a2 : Int64) (μ : Mem) (hI_μ : IX μ) : ok (p_X6_goOn a1 a2 μ) (fun q => IX q ∧ Fr [(1, 155, 0)] true μ q) := by
  have li0 : (0 : Int32).toInt = 0 := by decide
  have li1 : (1 : Int32).toInt = 1 := by decide
  have li5 : (5 : Int32).toInt = 5 := by decide
  have hF_μ : Fr [(1, 155, 0)] true μ μ := Fr.rf
  have hr_μ : μ.2.2 = μ.2.2 := rfl
  rw [p_X6_goOn_eq]
  have lo_a1 := ti_lo a1
  have hi_a1 := ti_hi a1
  have g1 := ti_lo (μ.1 151 6)
  have g1h := ti_hi (μ.1 151 6)
  refine ok_bd (k_X5_cell a1 (1 : Int32) μ hI_μ (by omega)) ?_
  rintro r3 μ2 hq9
  obtain rfl : μ = μ2 := hq9
  have lo_r3 := ti_lo r3
  have hi_r3 := ti_hi r3
  refine ok_bw (k_X6_setRegister (μ.1 151 6) r3 a2 μ hI_μ) ?_
  rintro μ4 ⟨hI_μ4, hC_μ4⟩
  have hF_μ4 : Fr [(1, 155, 0)] true μ μ4 := hF_μ.trans (hC_μ4.mono (by decide +kernel) (by decide))
  have hr_μ4 : μ4.2.2 = μ.2.2 := (hC_μ4.2 rfl : μ4.2.2 = μ.2.2).trans hr_μ
  try rw [hr_μ4]
  have g6 := rg_151_5 hI_μ4
  refine ok_ite ?_ ?_
  · intro c7
    rw [ti_lt] at c7
    exact ok_some ⟨hI_μ4, hF_μ4⟩
  · intro c7
    rw [ti_lt] at c7
    refine ok_bd (k_X5_cell a1 (5 : Int32) μ4 hI_μ4 (by (try rw [hr_μ4]); omega)) ?_
    rintro r9 μ8 hq9
    obtain rfl : μ4 = μ8 := hq9
    have lo_r9 := ti_lo r9
    have hi_r9 := ti_hi r9
    try rw [hr_μ4]
    refine ok_gd (inb_iff.mpr (by (try rw [TI.e (e := ((μ4.1 151 5) - (1 : Int32))) (n := ((μ4.1 151 5).toInt - 1)) (TI.sub TI.rf (TI.lit (by decide)) (by omega) (by omega))]); omega)) ?_
    refine ok_bv (fun μ10 e_μ10 => ?_)
    have hI_μ10 : IX μ10 := by rw [e_μ10]; exact IX_F hI_μ4 (rta_155 _ _)
    have hF_μ10 : Fr [(1, 155, 0)] true μ μ10 := by rw [e_μ10]; exact Fr.puta hF_μ4 (by decide +kernel)
    have hr_μ10 : μ10.2.2 = μ.2.2 := (by rw [e_μ10]; rfl : μ10.2.2 = μ4.2.2).trans hr_μ4
    try rw [hr_μ10]
    exact ok_some ⟨hI_μ10, hF_μ10⟩

set_option maxHeartbeats 4000000 in
set_option maxRecDepth 100000 in
theorem k_X6_endBlock  (μ : Mem) (hI_μ : IX μ) (hc : 1 ≤ (μ.1 151 5).toInt) : ok (p_X6_endBlock  μ) (fun q => IX q ∧ Fr [(0, 151, 5), (0, 151, 6), (1, 155, 0), (2, 0, 0), (2, 0, 2), (2, 0, 5), (2, 0, 6), (2, 1, 2)] true μ q) := by
  have li0 : (0 : Int32).toInt = 0 := by decide
  have li1 : (1 : Int32).toInt = 1 := by decide
  have li2 : (2 : Int32).toInt = 2 := by decide
  have li6 : (6 : Int32).toInt = 6 := by decide
  have li11 : (11 : Int32).toInt = 11 := by decide
  have hF_μ : Fr [(0, 151, 5), (0, 151, 6), (1, 155, 0), (2, 0, 0), (2, 0, 2), (2, 0, 5), (2, 0, 6), (2, 1, 2)] true μ μ := Fr.rf
  have hr_μ : μ.2.2 = μ.2.2 := rfl
  rw [p_X6_endBlock_eq]
  have g1 := rg_151_5 hI_μ
  refine ok_gd (inb_iff.mpr (by (try rw [TI.e (e := ((μ.1 151 5) - (1 : Int32))) (n := ((μ.1 151 5).toInt - 1)) (TI.sub TI.rf (TI.lit (by decide)) (by omega) (by omega))]); omega)) ?_
  refine ok_bd (k_X5_endOf (μ.1 154 ((μ.1 151 5) - (1 : Int32)).toNatClampNeg) μ hI_μ) ?_
  rintro r3 μ2 hq9
  obtain rfl : μ = μ2 := hq9
  refine ok_bd (k_X6_known r3 μ hI_μ) ?_
  rintro r5 μ4 hq9
  obtain rfl : μ = μ4 := hq9
  refine ok_bv (fun μ6 e_μ6 => ?_)
  have hI_μ6 : IX μ6 := by rw [e_μ6]; exact IX_F hI_μ (rp_151_5 (by (try rw [TI.e (e := ((μ.1 151 5) - (1 : Int32))) (n := ((μ.1 151 5).toInt - 1)) (TI.sub TI.rf (TI.lit (by decide)) (by omega) (by omega))]); omega))
  have hF_μ6 : Fr [(0, 151, 5), (0, 151, 6), (1, 155, 0), (2, 0, 0), (2, 0, 2), (2, 0, 5), (2, 0, 6), (2, 1, 2)] true μ μ6 := by rw [e_μ6]; exact Fr.put hF_μ (by decide +kernel)
  have v_μ6 : (μ6.1 151 5).toInt = ((μ.1 151 5).toInt - 1) := by rw [e_μ6, sF_v]; exact TI.e (n := ((μ.1 151 5).toInt - 1)) (TI.sub TI.rf (TI.lit (by decide)) (by omega) (by omega))
  have hr_μ6 : μ6.2.2 = μ.2.2 := (by rw [e_μ6]; rfl : μ6.2.2 = μ.2.2).trans hr_μ
  try rw [hr_μ6]
  have g7 := rg_151_5 hI_μ6
  refine ok_ite ?_ ?_
  · intro c8
    rw [ti_le] at c8
    refine ok_gd (inb_iff.mpr (by (try rw [TI.e (e := ((μ6.1 151 5) - (1 : Int32))) (n := ((μ6.1 151 5).toInt - 1)) (TI.sub TI.rf (TI.lit (by decide)) (by omega) (by omega))]); omega)) ?_
    refine ok_bv (fun v9 ev9 => ?_)
    have tv9 : v9.toInt = (μ6.1 155 ((μ6.1 151 5) - (1 : Int32)).toNatClampNeg).toInt := congrArg Int32.toInt ev9
    refine ok_bd (k_X5_cell v9 (0 : Int32) μ6 hI_μ6 (by (try rw [hr_μ6]); omega)) ?_
    rintro r11 μ10 hq9
    obtain rfl : μ6 = μ10 := hq9
    have lo_r11 := ti_lo r11
    have hi_r11 := ti_hi r11
    try rw [hr_μ6]
    refine ok_ite ?_ ?_
    · intro c12
      rw [ti_eq] at c12
      refine ok_bw (k_X1_endCall (sel 0 (μ.2.2 151 8)) (sel_0 _) μ6 hI_μ6) ?_
      rintro μ13 ⟨hI_μ13, hC_μ13⟩
      have hF_μ13 : Fr [(0, 151, 5), (0, 151, 6), (1, 155, 0), (2, 0, 0), (2, 0, 2), (2, 0, 5), (2, 0, 6), (2, 1, 2)] true μ μ13 := hF_μ6.trans (hC_μ13.mono (by decide +kernel) (by decide))
      have hr_μ13 : μ13.2.2 = μ.2.2 := (hC_μ13.2 rfl : μ13.2.2 = μ6.2.2).trans hr_μ6
      try rw [hr_μ13]
      have g15 := ti_lo (μ13.1 151 6)
      have g15h := ti_hi (μ13.1 151 6)
      refine ok_bd (k_X5_cell v9 (6 : Int32) μ13 hI_μ13 (by (try rw [hr_μ13]); omega)) ?_
      rintro r17 μ16 hq9
      obtain rfl : μ13 = μ16 := hq9
      have lo_r17 := ti_lo r17
      have hi_r17 := ti_hi r17
      try rw [hr_μ13]
      refine ok_bd (k_X5_ofVariant r17 (2 : Int32) μ13 hI_μ13 (by (try rw [hr_μ13]); omega)) ?_
      rintro r19 μ18 hq9
      obtain rfl : μ13 = μ18 := hq9
      have lo_r19 := ti_lo r19
      have hi_r19 := ti_hi r19
      try rw [hr_μ13]
      refine ok_bv (fun μ20 e_μ20 => ?_)
      have hI_μ20 : IX μ20 := by rw [e_μ20]; exact IX_F hI_μ13 (rt_151_6 _)
      have hF_μ20 : Fr [(0, 151, 5), (0, 151, 6), (1, 155, 0), (2, 0, 0), (2, 0, 2), (2, 0, 5), (2, 0, 6), (2, 1, 2)] true μ μ20 := by rw [e_μ20]; exact Fr.put hF_μ13 (by decide +kernel)
      have hr_μ20 : μ20.2.2 = μ.2.2 := (by rw [e_μ20]; rfl : μ20.2.2 = μ13.2.2).trans hr_μ13
      try rw [hr_μ20]
      refine ok_bw (k_X6_goOn v9 r5 μ20 hI_μ20) ?_
      rintro μ21 ⟨hI_μ21, hC_μ21⟩
      have hF_μ21 : Fr [(0, 151, 5), (0, 151, 6), (1, 155, 0), (2, 0, 0), (2, 0, 2), (2, 0, 5), (2, 0, 6), (2, 1, 2)] true μ μ21 := hF_μ20.trans (hC_μ21.mono (by decide +kernel) (by decide))
      have hr_μ21 : μ21.2.2 = μ.2.2 := (hC_μ21.2 rfl : μ21.2.2 = μ20.2.2).trans hr_μ20
      try rw [hr_μ21]
      exact ok_some ⟨hI_μ21, hF_μ21⟩
    · intro c12
      rw [ti_eq] at c12
      refine ok_bw (k_X6_goOn v9 r5 μ6 hI_μ6) ?_
      rintro μ23 ⟨hI_μ23, hC_μ23⟩
      have hF_μ23 : Fr [(0, 151, 5), (0, 151, 6), (1, 155, 0), (2, 0, 0), (2, 0, 2), (2, 0, 5), (2, 0, 6), (2, 1, 2)] true μ μ23 := hF_μ6.trans (hC_μ23.mono (by decide +kernel) (by decide))
      have hr_μ23 : μ23.2.2 = μ.2.2 := (hC_μ23.2 rfl : μ23.2.2 = μ6.2.2).trans hr_μ6
      try rw [hr_μ23]
      exact ok_some ⟨hI_μ23, hF_μ23⟩
  · intro c8
    rw [ti_le] at c8
    refine ok_bw (k_X1_endWith (sel 0 (μ.2.2 151 8)) (sel_0 _) r5 μ6 hI_μ6) ?_
    rintro μ25 ⟨hI_μ25, hC_μ25⟩
    have hF_μ25 : Fr [(0, 151, 5), (0, 151, 6), (1, 155, 0), (2, 0, 0), (2, 0, 2), (2, 0, 5), (2, 0, 6), (2, 1, 2)] true μ μ25 := hF_μ6.trans (hC_μ25.mono (by decide +kernel) (by decide))
    have hr_μ25 : μ25.2.2 = μ.2.2 := (hC_μ25.2 rfl : μ25.2.2 = μ6.2.2).trans hr_μ6
    try rw [hr_μ25]
    exact ok_some ⟨hI_μ25, hF_μ25⟩

set_option maxHeartbeats 4000000 in
set_option maxRecDepth 100000 in
theorem k_X5_operand_b27 (a1 : Int32) (a2 : Int32) (k0 : Int32) (μ : Mem) (hI_μ : IX μ) (hc : ((k0).toInt = 0 ∨ (0 ≤ (a1).toInt ∧ (a1).toInt < (μ.1 39 1).toInt ∧ 0 ≤ (a2).toInt ∧ (a2).toInt < 10))) : ok (p_X5_operand_b27 a1 a2 k0 μ) (fun q => μ = q.2) := by
  have li0 : (0 : Int32).toInt = 0 := by decide
  have li1 : (1 : Int32).toInt = 1 := by decide
  have li10 : (10 : Int32).toInt = 10 := by decide
  have hF_μ : Fr [] true μ μ := Fr.rf
  have hr_μ : μ.2.2 = μ.2.2 := rfl
  rw [p_X5_operand_b27_eq]
  have lo_a1 := ti_lo a1
  have hi_a1 := ti_hi a1
  have lo_a2 := ti_lo a2
  have hi_a2 := ti_hi a2
  have lo_k0 := ti_lo k0
  have hi_k0 := ti_hi k0
  have g2 := rg_39_1 hI_μ
  refine ok_ite ?_ ?_
  · intro c3
    rw [ti_eq] at c3
    exact ok_some rfl
  · intro c3
    rw [ti_eq] at c3
    refine ok_gd (inb_iff.mpr (by (try rw [TI.e (e := ((a1 * (10 : Int32)) + a2)) (n := ((a1.toInt * 10) + a2.toInt)) (TI.add (TI.mul TI.rf (TI.lit (by decide)) (by omega) (by omega)) TI.rf (by omega) (by omega))]); omega)) ?_
    exact ok_some rfl
set_option maxHeartbeats 4000000 in
set_option maxRecDepth 100000 in
theorem k_X5_operand_b26 (a1 : Int32) (a2 : Int32) (μ : Mem) (hI_μ : IX μ) : ok (p_X5_operand_b26 a1 a2 μ) (fun q => μ = q.2) := by
  have li0 : (0 : Int32).toInt = 0 := by decide
  have li1 : (1 : Int32).toInt = 1 := by decide
  have hF_μ : Fr [] true μ μ := Fr.rf
  have hr_μ : μ.2.2 = μ.2.2 := rfl
  rw [p_X5_operand_b26_eq]
  have lo_a1 := ti_lo a1
  have hi_a1 := ti_hi a1
  have lo_a2 := ti_lo a2
  have hi_a2 := ti_hi a2
  have g4 := rg_39_1 hI_μ
  exact ok_mono (k_X5_operand_b27  a1 a2 (0 : Int32) μ hI_μ (by omega)) (fun q h => h)
set_option maxHeartbeats 4000000 in
set_option maxRecDepth 100000 in
theorem k_X5_operand (a1 : Int32) (a2 : Int32) (μ : Mem) (hI_μ : IX μ) : ok (p_X5_operand a1 a2 μ) (fun q => μ = q.2) := by
  have li0 : (0 : Int32).toInt = 0 := by decide
  have li1 : (1 : Int32).toInt = 1 := by decide
  have li10 : (10 : Int32).toInt = 10 := by decide
  have hF_μ : Fr [] true μ μ := Fr.rf
  have hr_μ : μ.2.2 = μ.2.2 := rfl
  rw [p_X5_operand_eq]
  have lo_a1 := ti_lo a1
  have hi_a1 := ti_hi a1
  have lo_a2 := ti_lo a2
  have hi_a2 := ti_hi a2
  refine ok_ite ?_ ?_
  · intro c1
    rw [ti_lt] at c1
    exact ok_mono (k_X5_operand_b26  a1 a2 μ hI_μ) (fun q h => h)
  · intro c1
    rw [ti_lt] at c1
    have g5 := rg_39_1 hI_μ
    refine ok_ite ?_ ?_
    · intro c6
      rw [ti_le] at c6
      exact ok_mono (k_X5_operand_b26  a1 a2 μ hI_μ) (fun q h => h)
    · intro c6
      rw [ti_le] at c6
      refine ok_ite ?_ ?_
      · intro c7
        rw [ti_lt] at c7
        exact ok_mono (k_X5_operand_b26  a1 a2 μ hI_μ) (fun q h => h)
      · intro c7
        rw [ti_lt] at c7
        refine ok_ite ?_ ?_
        · intro c8
          rw [ti_le] at c8
          exact ok_mono (k_X5_operand_b26  a1 a2 μ hI_μ) (fun q h => h)
        · intro c8
          rw [ti_le] at c8
          exact ok_mono (k_X5_operand_b27  a1 a2 (1 : Int32) μ hI_μ (by omega)) (fun q h => h)

set_option maxHeartbeats 4000000 in
set_option maxRecDepth 100000 in
theorem k_X6_operand (a1 : Int32) (a2 : Int32) (μ : Mem) (hI_μ : IX μ) : ok (p_X6_operand a1 a2 μ) (fun q => μ = q.2) := by
  have li0 : (0 : Int32).toInt = 0 := by decide
  have li1 : (1 : Int32).toInt = 1 := by decide
  have hF_μ : Fr [] true μ μ := Fr.rf
  have hr_μ : μ.2.2 = μ.2.2 := rfl
  rw [p_X6_operand_eq]
  have lo_a1 := ti_lo a1
  have hi_a1 := ti_hi a1
  have lo_a2 := ti_lo a2
  have hi_a2 := ti_hi a2
  refine ok_bd (k_X5_operand a1 a2 μ hI_μ) ?_
  rintro r2 μ1 hq9
  obtain rfl : μ = μ1 := hq9
  refine ok_bd (k_X6_known r2 μ hI_μ) ?_
  rintro r4 μ3 hq9
  obtain rfl : μ = μ3 := hq9
  exact ok_some rfl

set_option maxHeartbeats 4000000 in
set_option maxRecDepth 100000 in
theorem k_X6_num (a1 : Int32) (a2 : Int32) (μ : Mem) (hI_μ : IX μ) : ok (p_X6_num a1 a2 μ) (fun q => μ = q.2) := by
  have li0 : (0 : Int32).toInt = 0 := by decide
  have li1 : (1 : Int32).toInt = 1 := by decide
  have hF_μ : Fr [] true μ μ := Fr.rf
  have hr_μ : μ.2.2 = μ.2.2 := rfl
  rw [p_X6_num_eq]
  have lo_a1 := ti_lo a1
  have hi_a1 := ti_hi a1
  have lo_a2 := ti_lo a2
  have hi_a2 := ti_hi a2
  refine ok_bd (k_X6_operand a1 a2 μ hI_μ) ?_
  rintro r2 μ1 hq9
  obtain rfl : μ = μ1 := hq9
  refine ok_bd (k_X8_num r2 μ hI_μ) ?_
  rintro r4 μ3 hq9
  obtain rfl : μ = μ3 := hq9
  exact ok_some rfl

set_option maxHeartbeats 4000000 in
set_option maxRecDepth 100000 in
theorem k_X6_makePair (a1 : Int32) (μ : Mem) (hI_μ : IX μ) : ok (p_X6_makePair a1 μ) (fun q => IX q ∧ Fr [(0, 30, 5), (1, 33, 0), (1, 34, 0), (1, 155, 0), (2, 0, 0)] true μ q) := by
  have li0 : (0 : Int32).toInt = 0 := by decide
  have li1 : (1 : Int32).toInt = 1 := by decide
  have li2 : (2 : Int32).toInt = 2 := by decide
  have hF_μ : Fr [(0, 30, 5), (1, 33, 0), (1, 34, 0), (1, 155, 0), (2, 0, 0)] true μ μ := Fr.rf
  have hr_μ : μ.2.2 = μ.2.2 := rfl
  rw [p_X6_makePair_eq]
  have lo_a1 := ti_lo a1
  have hi_a1 := ti_hi a1
  refine ok_bd (k_X6_operand a1 (0 : Int32) μ hI_μ) ?_
  rintro r2 μ1 hq9
  obtain rfl : μ = μ1 := hq9
  refine ok_bd (k_X6_operand a1 (1 : Int32) μ hI_μ) ?_
  rintro r4 μ3 hq9
  obtain rfl : μ = μ3 := hq9
  refine ok_bd (k_X8_isTooHeavy r2 r4 μ hI_μ) ?_
  rintro r6 μ5 ⟨hq9, p_r6⟩
  obtain rfl : μ = μ5 := hq9
  dsimp only at p_r6
  have lo_r6 := ti_lo r6
  have hi_r6 := ti_hi r6
  refine ok_ite ?_ ?_
  · intro c7
    rw [ti_eq] at c7
    refine ok_bd (k_X8_pair r2 r4 μ hI_μ) ?_
    rintro r9 μ8 ⟨hI_μ8, hC_μ8⟩
    have hI_μ8 : IX μ8 := hI_μ8
    have hC_μ8 : Fr [(0, 30, 5), (1, 33, 0), (1, 34, 0)] true μ μ8 := hC_μ8
    have hF_μ8 : Fr [(0, 30, 5), (1, 33, 0), (1, 34, 0), (1, 155, 0), (2, 0, 0)] true μ μ8 := hF_μ.trans (hC_μ8.mono (by decide +kernel) (by decide))
    have hr_μ8 : μ8.2.2 = μ.2.2 := (hC_μ8.2 rfl : μ8.2.2 = μ.2.2).trans hr_μ
    try rw [hr_μ8]
    refine ok_bw (k_X6_goOn a1 r9 μ8 hI_μ8) ?_
    rintro μ10 ⟨hI_μ10, hC_μ10⟩
    have hF_μ10 : Fr [(0, 30, 5), (1, 33, 0), (1, 34, 0), (1, 155, 0), (2, 0, 0)] true μ μ10 := hF_μ8.trans (hC_μ10.mono (by decide +kernel) (by decide))
    have hr_μ10 : μ10.2.2 = μ.2.2 := (hC_μ10.2 rfl : μ10.2.2 = μ8.2.2).trans hr_μ8
    try rw [hr_μ10]
    exact ok_some ⟨hI_μ10, hF_μ10⟩
  · intro c7
    rw [ti_eq] at c7
    refine ok_bv (fun μ12 e_μ12 => ?_)
    have hI_μ12 : IX μ12 := by rw [e_μ12]; exact IX_F hI_μ (rtc_0_0 (sel_0 (μ.2.2 151 8)) _)
    have hF_μ12 : Fr [(0, 30, 5), (1, 33, 0), (1, 34, 0), (1, 155, 0), (2, 0, 0)] true μ μ12 := by rw [e_μ12]; exact Fr.putc (ci := 0) hF_μ (by decide +kernel) (sel_0 (μ.2.2 151 8))
    have v_μ12 : (μ12.1 (sel 0 (μ.2.2 151 8)) 0).toInt = 2 := by rw [e_μ12, sF_v]; exact TI.e (n := 2) (TI.lit (by decide))
    have hr_μ12 : μ12.2.2 = μ.2.2 := (by rw [e_μ12]; rfl : μ12.2.2 = μ.2.2).trans hr_μ
    try rw [hr_μ12]
    exact ok_some ⟨hI_μ12, hF_μ12⟩

set_option maxHeartbeats 4000000 in
set_option maxRecDepth 100000 in
theorem k_X6_call_b53 : ∀ (n : Nat) (a1 : Int32) (a2 : Int32) (a4 : Int32) (a5 : Int32) (a6 : Int32) (μ : Mem), IX μ → (0 ≤ (a6).toInt ∧ 2147483648 - (a6).toInt < n) → ok (p_X6_call_b53 n a1 a2 a4 a5 a6 μ) (fun q => IX q ∧ Fr [(0, 151, 5), (0, 151, 6), (1, 154, 0), (1, 155, 0), (2, 0, 0), (2, 0, 1), (2, 0, 2), (2, 0, 3)] true μ q) := by
  have li0 : (0 : Int32).toInt = 0 := by decide
  have li1 : (1 : Int32).toInt = 1 := by decide
  have li2 : (2 : Int32).toInt = 2 := by decide
  have li3 : (3 : Int32).toInt = 3 := by decide
  intro n
  induction n with
  | zero => intro a1 a2 a4 a5 a6 μ hI_μ hc; exact absurd hc (by have lo_a1 := ti_lo a1; have hi_a1 := ti_hi a1; have lo_a2 := ti_lo a2; have hi_a2 := ti_hi a2; have lo_a4 := ti_lo a4; have hi_a4 := ti_hi a4; have lo_a5 := ti_lo a5; have hi_a5 := ti_hi a5; have lo_a6 := ti_lo a6; have hi_a6 := ti_hi a6; omega)
  | succ n ih =>
    intro a1 a2 a4 a5 a6 μ hI_μ hc
    have hF_μ : Fr [(0, 151, 5), (0, 151, 6), (1, 154, 0), (1, 155, 0), (2, 0, 0), (2, 0, 1), (2, 0, 2), (2, 0, 3)] true μ μ := Fr.rf
    have hr_μ : μ.2.2 = μ.2.2 := rfl
    rw [p_X6_call_b53_s]
    have lo_a1 := ti_lo a1
    have hi_a1 := ti_hi a1
    have lo_a2 := ti_lo a2
    have hi_a2 := ti_hi a2
    have lo_a4 := ti_lo a4
    have hi_a4 := ti_hi a4
    have lo_a5 := ti_lo a5
    have hi_a5 := ti_hi a5
    have lo_a6 := ti_lo a6
    have hi_a6 := ti_hi a6
    refine ok_ite ?_ ?_
    · intro c12
      rw [ti_le] at c12
      refine ok_bv (fun μ13 e_μ13 => ?_)
      have hI_μ13 : IX μ13 := by rw [e_μ13]; exact IX_F hI_μ (rt_151_6 _)
      have hF_μ13 : Fr [(0, 151, 5), (0, 151, 6), (1, 154, 0), (1, 155, 0), (2, 0, 0), (2, 0, 1), (2, 0, 2), (2, 0, 3)] true μ μ13 := by rw [e_μ13]; exact Fr.put hF_μ (by decide +kernel)
      have v_μ13 : (μ13.1 151 6).toInt = a4.toInt := by rw [e_μ13, sF_v]
      have hr_μ13 : μ13.2.2 = μ.2.2 := (by rw [e_μ13]; rfl : μ13.2.2 = μ.2.2).trans hr_μ
      try rw [hr_μ13]
      refine ok_bd (k_X5_ofVariant a2 (3 : Int32) μ13 hI_μ13 (by (try rw [hr_μ13]); omega)) ?_
      rintro r15 μ14 hq9
      obtain rfl : μ13 = μ14 := hq9
      have lo_r15 := ti_lo r15
      have hi_r15 := ti_hi r15
      try rw [hr_μ13]
      refine ok_bw (k_X6_enter r15 μ13 hI_μ13) ?_
      rintro μ16 ⟨hI_μ16, hC_μ16⟩
      have hF_μ16 : Fr [(0, 151, 5), (0, 151, 6), (1, 154, 0), (1, 155, 0), (2, 0, 0), (2, 0, 1), (2, 0, 2), (2, 0, 3)] true μ μ16 := hF_μ13.trans (hC_μ16.mono (by decide +kernel) (by decide))
      have hr_μ16 : μ16.2.2 = μ.2.2 := (hC_μ16.2 rfl : μ16.2.2 = μ13.2.2).trans hr_μ13
      try rw [hr_μ16]
      exact ok_some ⟨hI_μ16, hF_μ16⟩
    · intro c12
      rw [ti_le] at c12
      refine ok_bd (k_X6_operand a1 ((2 : Int32) + a6) μ hI_μ) ?_
      rintro r19 μ18 hq9
      obtain rfl : μ = μ18 := hq9
      refine ok_bw (k_X6_setRegister a4 a6 r19 μ hI_μ) ?_
      rintro μ20 ⟨hI_μ20, hC_μ20⟩
      have hF_μ20 : Fr [(0, 151, 5), (0, 151, 6), (1, 154, 0), (1, 155, 0), (2, 0, 0), (2, 0, 1), (2, 0, 2), (2, 0, 3)] true μ μ20 := hF_μ.trans (hC_μ20.mono (by decide +kernel) (by decide))
      have hr_μ20 : μ20.2.2 = μ.2.2 := (hC_μ20.2 rfl : μ20.2.2 = μ.2.2).trans hr_μ
      try rw [hr_μ20]
      refine ok_bv (fun v22 ev22 => ?_)
      first | have tv22 : v22.toInt = (a6.toInt + 1) := (congrArg Int32.toInt ev22).trans (TI.e (n := (a6.toInt + 1)) (TI.add TI.rf (TI.lit (by decide)) (by omega) (by omega))) | have tv22 : v22.toInt ≤ a6.toInt + 1 := by rw [ev22]; exact ti_inc _ | skip
      exact ok_mono (ih a1 a2 a4 a5 v22 μ20 hI_μ20 (by (try rw [hr_μ20]); omega)) (fun q h => ⟨h.1, hF_μ20.trans h.2⟩)
set_option maxHeartbeats 4000000 in
set_option maxRecDepth 100000 in
theorem k_X6_call (a1 : Int32) (a2 : Int32) (μ : Mem) (hI_μ : IX μ) : ok (p_X6_call a1 a2 μ) (fun q => IX q ∧ Fr [(0, 151, 5), (0, 151, 6), (1, 154, 0), (1, 155, 0), (2, 0, 0), (2, 0, 1), (2, 0, 2), (2, 0, 3)] true μ q) := by
  have li0 : (0 : Int32).toInt = 0 := by decide
  have li1 : (1 : Int32).toInt = 1 := by decide
  have li2 : (2 : Int32).toInt = 2 := by decide
  have li6 : (6 : Int32).toInt = 6 := by decide
  have li7 : (7 : Int32).toInt = 7 := by decide
  have hF_μ : Fr [(0, 151, 5), (0, 151, 6), (1, 154, 0), (1, 155, 0), (2, 0, 0), (2, 0, 1), (2, 0, 2), (2, 0, 3)] true μ μ := Fr.rf
  have hr_μ : μ.2.2 = μ.2.2 := rfl
  rw [p_X6_call_eq]
  have lo_a1 := ti_lo a1
  have hi_a1 := ti_hi a1
  have lo_a2 := ti_lo a2
  have hi_a2 := ti_hi a2
  refine ok_bd (k_X5_cell a1 (6 : Int32) μ hI_μ (by omega)) ?_
  rintro r2 μ1 hq9
  obtain rfl : μ = μ1 := hq9
  have lo_r2 := ti_lo r2
  have hi_r2 := ti_hi r2
  refine ok_bd (k_X1_beginCall (sel 0 (μ.2.2 151 8)) (sel_0 _) μ hI_μ) ?_
  rintro r4 μ3 ⟨hI_μ3, hC_μ3, p_μ3⟩
  have hI_μ3 : IX μ3 := hI_μ3
  have hC_μ3 : Fr [(2, 0, 0), (2, 0, 1), (2, 0, 2), (2, 0, 3)] true μ μ3 := hC_μ3
  dsimp only at p_μ3
  have lo_r4 := ti_lo r4
  have hi_r4 := ti_hi r4
  have hF_μ3 : Fr [(0, 151, 5), (0, 151, 6), (1, 154, 0), (1, 155, 0), (2, 0, 0), (2, 0, 1), (2, 0, 2), (2, 0, 3)] true μ μ3 := hF_μ.trans (hC_μ3.mono (by decide +kernel) (by decide))
  have hr_μ3 : μ3.2.2 = μ.2.2 := (hC_μ3.2 rfl : μ3.2.2 = μ.2.2).trans hr_μ
  try rw [hr_μ3]
  refine ok_ite ?_ ?_
  · intro c5
    rw [ti_eq] at c5
    exact ok_some ⟨hI_μ3, hF_μ3⟩
  · intro c5
    rw [ti_eq] at c5
    have g6 := ti_lo (μ3.1 151 6)
    have g6h := ti_hi (μ3.1 151 6)
    refine ok_bd (k_X5_ofVariant r2 (2 : Int32) μ3 hI_μ3 (by (try rw [hr_μ3]); omega)) ?_
    rintro r8 μ7 hq9
    obtain rfl : μ3 = μ7 := hq9
    have lo_r8 := ti_lo r8
    have hi_r8 := ti_hi r8
    try rw [hr_μ3]
    refine ok_bv (fun v9 ev9 => ?_)
    first | have tv9 : v9.toInt = ((μ3.1 151 6).toInt + r8.toInt) := (congrArg Int32.toInt ev9).trans (TI.e (n := ((μ3.1 151 6).toInt + r8.toInt)) (TI.add TI.rf TI.rf (by omega) (by omega))) | skip
    refine ok_bd (k_X5_cell a1 (7 : Int32) μ3 hI_μ3 (by (try rw [hr_μ3]); omega)) ?_
    rintro r11 μ10 hq9
    obtain rfl : μ3 = μ10 := hq9
    have lo_r11 := ti_lo r11
    have hi_r11 := ti_hi r11
    try rw [hr_μ3]
    obtain ⟨fu, hfu0, hfu⟩ := fuel_ex
    rw [hfu0]
    exact ok_mono (k_X6_call_b53  fu a1 a2 v9 r11 (0 : Int32) μ3 hI_μ3 (by (try rw [hr_μ3]); omega)) (fun q h => ⟨h.1, hF_μ3.trans h.2⟩)

set_option maxHeartbeats 4000000 in
set_option maxRecDepth 100000 in
theorem k_X6_step (a1 : Int32) (μ : Mem) (hI_μ : IX μ) (hc : (μ.1 (sel 0 (μ.2.2 151 8)) 4).toInt < 1000000) : ok (p_X6_step a1 μ) (fun q => IX q ∧ Fr [(0, 30, 5), (0, 151, 5), (0, 151, 6), (1, 33, 0), (1, 34, 0), (1, 154, 0), (1, 155, 0), (2, 0, 0), (2, 0, 1), (2, 0, 2), (2, 0, 3), (2, 0, 4), (3, 0, 2)] true μ q ∧ ((q.1 (sel 0 (q.2.2 151 8)) 4).toInt ≤ (μ.1 (sel 0 (μ.2.2 151 8)) 4).toInt + 1)) := by
  have li0 : (0 : Int32).toInt = 0 := by decide
  have li1 : (1 : Int32).toInt = 1 := by decide
  have li2 : (2 : Int32).toInt = 2 := by decide
  have li3 : (3 : Int32).toInt = 3 := by decide
  have li4 : (4 : Int32).toInt = 4 := by decide
  have li5 : (5 : Int32).toInt = 5 := by decide
  have li6 : (6 : Int32).toInt = 6 := by decide
  have li7 : (7 : Int32).toInt = 7 := by decide
  have li8 : (8 : Int32).toInt = 8 := by decide
  have li9 : (9 : Int32).toInt = 9 := by decide
  have li10 : (10 : Int32).toInt = 10 := by decide
  have li11 : (11 : Int32).toInt = 11 := by decide
  have hF_μ : Fr [(0, 30, 5), (0, 151, 5), (0, 151, 6), (1, 33, 0), (1, 34, 0), (1, 154, 0), (1, 155, 0), (2, 0, 0), (2, 0, 1), (2, 0, 2), (2, 0, 3), (2, 0, 4), (3, 0, 2)] true μ μ := Fr.rf
  have hr_μ : μ.2.2 = μ.2.2 := rfl
  rw [p_X6_step_eq]
  have lo_a1 := ti_lo a1
  have hi_a1 := ti_hi a1
  have g1 := rgc_0_4 (sel_0 (μ.2.2 151 8)) hI_μ
  refine ok_bd (k_X5_cell a1 (2 : Int32) μ hI_μ (by omega)) ?_
  rintro r3 μ2 hq9
  obtain rfl : μ = μ2 := hq9
  have lo_r3 := ti_lo r3
  have hi_r3 := ti_hi r3
  refine ok_bd (k_X5_cell a1 (0 : Int32) μ hI_μ (by omega)) ?_
  rintro r5 μ4 hq9
  obtain rfl : μ = μ4 := hq9
  have lo_r5 := ti_lo r5
  have hi_r5 := ti_hi r5
  refine ok_ite ?_ ?_
  · intro c7
    rw [ti_eq] at c7
    refine ok_bd (k_X6_num a1 (0 : Int32) μ hI_μ) ?_
    rintro r9 μ8 hq9
    obtain rfl : μ = μ8 := hq9
    refine ok_bd (k_X6_num a1 (1 : Int32) μ hI_μ) ?_
    rintro r11 μ10 hq9
    obtain rfl : μ = μ10 := hq9
    refine ok_bw (k_X6_goOn a1 (s_X0_apply r3 r9 r11) μ hI_μ) ?_
    rintro μ12 ⟨hI_μ12, hC_μ12⟩
    have hF_μ12 : Fr [(0, 30, 5), (0, 151, 5), (0, 151, 6), (1, 33, 0), (1, 34, 0), (1, 154, 0), (1, 155, 0), (2, 0, 0), (2, 0, 1), (2, 0, 2), (2, 0, 3), (2, 0, 4), (3, 0, 2)] true μ μ12 := hF_μ.trans (hC_μ12.mono (by decide +kernel) (by decide))
    have hr_μ12 : μ12.2.2 = μ.2.2 := (hC_μ12.2 rfl : μ12.2.2 = μ.2.2).trans hr_μ
    try rw [hr_μ12]
    have g14 := rgc_0_4 (sel_0 (μ.2.2 151 8)) hI_μ12
    have f15 : (μ12.1 (sel 0 (μ.2.2 151 8)) 4).toInt = (μ.1 (sel 0 (μ.2.2 151 8)) 4).toInt := congrArg Int32.toInt (hC_μ12.1 _ _ (cls_free (by decide +kernel) (sel_0 (μ.2.2 151 8))))
    exact ok_some ⟨hI_μ12, hF_μ12, by (try dsimp only); (try rw [hr_μ12]); omega⟩
  intro c7
  rw [ti_eq] at c7
  refine ok_ite ?_ ?_
  · intro c16
    rw [ti_eq] at c16
    refine ok_bd (k_X6_num a1 (0 : Int32) μ hI_μ) ?_
    rintro r18 μ17 hq9
    obtain rfl : μ = μ17 := hq9
    refine ok_bw (k_X6_goOn a1 (s_X0_turn (36 : Int32) r18) μ hI_μ) ?_
    rintro μ19 ⟨hI_μ19, hC_μ19⟩
    have hF_μ19 : Fr [(0, 30, 5), (0, 151, 5), (0, 151, 6), (1, 33, 0), (1, 34, 0), (1, 154, 0), (1, 155, 0), (2, 0, 0), (2, 0, 1), (2, 0, 2), (2, 0, 3), (2, 0, 4), (3, 0, 2)] true μ μ19 := hF_μ.trans (hC_μ19.mono (by decide +kernel) (by decide))
    have hr_μ19 : μ19.2.2 = μ.2.2 := (hC_μ19.2 rfl : μ19.2.2 = μ.2.2).trans hr_μ
    try rw [hr_μ19]
    have g21 := rgc_0_4 (sel_0 (μ.2.2 151 8)) hI_μ19
    have f22 : (μ19.1 (sel 0 (μ.2.2 151 8)) 4).toInt = (μ.1 (sel 0 (μ.2.2 151 8)) 4).toInt := congrArg Int32.toInt (hC_μ19.1 _ _ (cls_free (by decide +kernel) (sel_0 (μ.2.2 151 8))))
    exact ok_some ⟨hI_μ19, hF_μ19, by (try dsimp only); (try rw [hr_μ19]); omega⟩
  intro c16
  rw [ti_eq] at c16
  refine ok_ite ?_ ?_
  · intro c23
    rw [ti_eq] at c23
    refine ok_bd (k_X6_num a1 (0 : Int32) μ hI_μ) ?_
    rintro r25 μ24 hq9
    obtain rfl : μ = μ24 := hq9
    refine ok_bw (k_X6_goOn a1 (s_X0_turn (94 : Int32) r25) μ hI_μ) ?_
    rintro μ26 ⟨hI_μ26, hC_μ26⟩
    have hF_μ26 : Fr [(0, 30, 5), (0, 151, 5), (0, 151, 6), (1, 33, 0), (1, 34, 0), (1, 154, 0), (1, 155, 0), (2, 0, 0), (2, 0, 1), (2, 0, 2), (2, 0, 3), (2, 0, 4), (3, 0, 2)] true μ μ26 := hF_μ.trans (hC_μ26.mono (by decide +kernel) (by decide))
    have hr_μ26 : μ26.2.2 = μ.2.2 := (hC_μ26.2 rfl : μ26.2.2 = μ.2.2).trans hr_μ
    try rw [hr_μ26]
    have g28 := rgc_0_4 (sel_0 (μ.2.2 151 8)) hI_μ26
    have f29 : (μ26.1 (sel 0 (μ.2.2 151 8)) 4).toInt = (μ.1 (sel 0 (μ.2.2 151 8)) 4).toInt := congrArg Int32.toInt (hC_μ26.1 _ _ (cls_free (by decide +kernel) (sel_0 (μ.2.2 151 8))))
    exact ok_some ⟨hI_μ26, hF_μ26, by (try dsimp only); (try rw [hr_μ26]); omega⟩
  intro c23
  rw [ti_eq] at c23
  refine ok_ite ?_ ?_
  · intro c30
    rw [ti_eq] at c30
    refine ok_bd (k_X6_num a1 (0 : Int32) μ hI_μ) ?_
    rintro r32 μ31 hq9
    obtain rfl : μ = μ31 := hq9
    refine ok_bw (k_X6_goOn a1 (s_X0_turn (35 : Int32) r32) μ hI_μ) ?_
    rintro μ33 ⟨hI_μ33, hC_μ33⟩
    have hF_μ33 : Fr [(0, 30, 5), (0, 151, 5), (0, 151, 6), (1, 33, 0), (1, 34, 0), (1, 154, 0), (1, 155, 0), (2, 0, 0), (2, 0, 1), (2, 0, 2), (2, 0, 3), (2, 0, 4), (3, 0, 2)] true μ μ33 := hF_μ.trans (hC_μ33.mono (by decide +kernel) (by decide))
    have hr_μ33 : μ33.2.2 = μ.2.2 := (hC_μ33.2 rfl : μ33.2.2 = μ.2.2).trans hr_μ
    try rw [hr_μ33]
    have g35 := rgc_0_4 (sel_0 (μ.2.2 151 8)) hI_μ33
    have f36 : (μ33.1 (sel 0 (μ.2.2 151 8)) 4).toInt = (μ.1 (sel 0 (μ.2.2 151 8)) 4).toInt := congrArg Int32.toInt (hC_μ33.1 _ _ (cls_free (by decide +kernel) (sel_0 (μ.2.2 151 8))))
    exact ok_some ⟨hI_μ33, hF_μ33, by (try dsimp only); (try rw [hr_μ33]); omega⟩
  intro c30
  rw [ti_eq] at c30
  refine ok_ite ?_ ?_
  · intro c37
    rw [ti_eq] at c37
    refine ok_bd (k_X6_operand a1 (0 : Int32) μ hI_μ) ?_
    rintro r39 μ38 hq9
    obtain rfl : μ = μ38 := hq9
    refine ok_bd (k_X8_firstOf r39 μ hI_μ) ?_
    rintro r41 μ40 hq9
    obtain rfl : μ = μ40 := hq9
    refine ok_bw (k_X6_goOn a1 r41 μ hI_μ) ?_
    rintro μ42 ⟨hI_μ42, hC_μ42⟩
    have hF_μ42 : Fr [(0, 30, 5), (0, 151, 5), (0, 151, 6), (1, 33, 0), (1, 34, 0), (1, 154, 0), (1, 155, 0), (2, 0, 0), (2, 0, 1), (2, 0, 2), (2, 0, 3), (2, 0, 4), (3, 0, 2)] true μ μ42 := hF_μ.trans (hC_μ42.mono (by decide +kernel) (by decide))
    have hr_μ42 : μ42.2.2 = μ.2.2 := (hC_μ42.2 rfl : μ42.2.2 = μ.2.2).trans hr_μ
    try rw [hr_μ42]
    have g44 := rgc_0_4 (sel_0 (μ.2.2 151 8)) hI_μ42
    have f45 : (μ42.1 (sel 0 (μ.2.2 151 8)) 4).toInt = (μ.1 (sel 0 (μ.2.2 151 8)) 4).toInt := congrArg Int32.toInt (hC_μ42.1 _ _ (cls_free (by decide +kernel) (sel_0 (μ.2.2 151 8))))
    exact ok_some ⟨hI_μ42, hF_μ42, by (try dsimp only); (try rw [hr_μ42]); omega⟩
  intro c37
  rw [ti_eq] at c37
  refine ok_ite ?_ ?_
  · intro c46
    rw [ti_eq] at c46
    refine ok_bd (k_X6_operand a1 (0 : Int32) μ hI_μ) ?_
    rintro r48 μ47 hq9
    obtain rfl : μ = μ47 := hq9
    refine ok_bd (k_X8_secondOf r48 μ hI_μ) ?_
    rintro r50 μ49 hq9
    obtain rfl : μ = μ49 := hq9
    refine ok_bw (k_X6_goOn a1 r50 μ hI_μ) ?_
    rintro μ51 ⟨hI_μ51, hC_μ51⟩
    have hF_μ51 : Fr [(0, 30, 5), (0, 151, 5), (0, 151, 6), (1, 33, 0), (1, 34, 0), (1, 154, 0), (1, 155, 0), (2, 0, 0), (2, 0, 1), (2, 0, 2), (2, 0, 3), (2, 0, 4), (3, 0, 2)] true μ μ51 := hF_μ.trans (hC_μ51.mono (by decide +kernel) (by decide))
    have hr_μ51 : μ51.2.2 = μ.2.2 := (hC_μ51.2 rfl : μ51.2.2 = μ.2.2).trans hr_μ
    try rw [hr_μ51]
    have g53 := rgc_0_4 (sel_0 (μ.2.2 151 8)) hI_μ51
    have f54 : (μ51.1 (sel 0 (μ.2.2 151 8)) 4).toInt = (μ.1 (sel 0 (μ.2.2 151 8)) 4).toInt := congrArg Int32.toInt (hC_μ51.1 _ _ (cls_free (by decide +kernel) (sel_0 (μ.2.2 151 8))))
    exact ok_some ⟨hI_μ51, hF_μ51, by (try dsimp only); (try rw [hr_μ51]); omega⟩
  intro c46
  rw [ti_eq] at c46
  refine ok_ite ?_ ?_
  · intro c55
    rw [ti_eq] at c55
    refine ok_bd (k_X6_num a1 (0 : Int32) μ hI_μ) ?_
    rintro r57 μ56 hq9
    obtain rfl : μ = μ56 := hq9
    refine ok_ite ?_ ?_
    · intro c58
      rw [ti_eq] at c58
      refine ok_bd (k_X5_cell a1 (4 : Int32) μ hI_μ (by omega)) ?_
      rintro r60 μ59 hq9
      obtain rfl : μ = μ59 := hq9
      have lo_r60 := ti_lo r60
      have hi_r60 := ti_hi r60
      refine ok_bw (k_X6_enter r60 μ hI_μ) ?_
      rintro μ61 ⟨hI_μ61, hC_μ61⟩
      have hF_μ61 : Fr [(0, 30, 5), (0, 151, 5), (0, 151, 6), (1, 33, 0), (1, 34, 0), (1, 154, 0), (1, 155, 0), (2, 0, 0), (2, 0, 1), (2, 0, 2), (2, 0, 3), (2, 0, 4), (3, 0, 2)] true μ μ61 := hF_μ.trans (hC_μ61.mono (by decide +kernel) (by decide))
      have hr_μ61 : μ61.2.2 = μ.2.2 := (hC_μ61.2 rfl : μ61.2.2 = μ.2.2).trans hr_μ
      try rw [hr_μ61]
      have g63 := rgc_0_4 (sel_0 (μ.2.2 151 8)) hI_μ61
      have f64 : (μ61.1 (sel 0 (μ.2.2 151 8)) 4).toInt = (μ.1 (sel 0 (μ.2.2 151 8)) 4).toInt := congrArg Int32.toInt (hC_μ61.1 _ _ (cls_free (by decide +kernel) (sel_0 (μ.2.2 151 8))))
      exact ok_some ⟨hI_μ61, hF_μ61, by (try dsimp only); (try rw [hr_μ61]); omega⟩
    · intro c58
      rw [ti_eq] at c58
      refine ok_bd (k_X5_cell a1 (3 : Int32) μ hI_μ (by omega)) ?_
      rintro r66 μ65 hq9
      obtain rfl : μ = μ65 := hq9
      have lo_r66 := ti_lo r66
      have hi_r66 := ti_hi r66
      refine ok_bw (k_X6_enter r66 μ hI_μ) ?_
      rintro μ67 ⟨hI_μ67, hC_μ67⟩
      have hF_μ67 : Fr [(0, 30, 5), (0, 151, 5), (0, 151, 6), (1, 33, 0), (1, 34, 0), (1, 154, 0), (1, 155, 0), (2, 0, 0), (2, 0, 1), (2, 0, 2), (2, 0, 3), (2, 0, 4), (3, 0, 2)] true μ μ67 := hF_μ.trans (hC_μ67.mono (by decide +kernel) (by decide))
      have hr_μ67 : μ67.2.2 = μ.2.2 := (hC_μ67.2 rfl : μ67.2.2 = μ.2.2).trans hr_μ
      try rw [hr_μ67]
      have g69 := rgc_0_4 (sel_0 (μ.2.2 151 8)) hI_μ67
      have f70 : (μ67.1 (sel 0 (μ.2.2 151 8)) 4).toInt = (μ.1 (sel 0 (μ.2.2 151 8)) 4).toInt := congrArg Int32.toInt (hC_μ67.1 _ _ (cls_free (by decide +kernel) (sel_0 (μ.2.2 151 8))))
      exact ok_some ⟨hI_μ67, hF_μ67, by (try dsimp only); (try rw [hr_μ67]); omega⟩
  intro c55
  rw [ti_eq] at c55
  refine ok_ite ?_ ?_
  · intro c71
    rw [ti_eq] at c71
    refine ok_bd (k_X6_num a1 (0 : Int32) μ hI_μ) ?_
    rintro r73 μ72 hq9
    obtain rfl : μ = μ72 := hq9
    refine ok_bw (k_X1_writeOut (sel 0 (μ.2.2 151 8)) (sel_0 _) r73 μ hI_μ (by omega)) ?_
    rintro μ74 ⟨hI_μ74, hC_μ74, p_μ74⟩
    have hF_μ74 : Fr [(0, 30, 5), (0, 151, 5), (0, 151, 6), (1, 33, 0), (1, 34, 0), (1, 154, 0), (1, 155, 0), (2, 0, 0), (2, 0, 1), (2, 0, 2), (2, 0, 3), (2, 0, 4), (3, 0, 2)] true μ μ74 := hF_μ.trans (hC_μ74.mono (by decide +kernel) (by decide))
    have hr_μ74 : μ74.2.2 = μ.2.2 := (hC_μ74.2 rfl : μ74.2.2 = μ.2.2).trans hr_μ
    try rw [hr_μ74]
    try simp only [hr_μ74, hr_μ] at p_μ74
    have g76 := rgc_0_4 (sel_0 (μ.2.2 151 8)) hI_μ74
    refine ok_bw (k_X6_goOn a1 (0 : Int64) μ74 hI_μ74) ?_
    rintro μ77 ⟨hI_μ77, hC_μ77⟩
    have hF_μ77 : Fr [(0, 30, 5), (0, 151, 5), (0, 151, 6), (1, 33, 0), (1, 34, 0), (1, 154, 0), (1, 155, 0), (2, 0, 0), (2, 0, 1), (2, 0, 2), (2, 0, 3), (2, 0, 4), (3, 0, 2)] true μ μ77 := hF_μ74.trans (hC_μ77.mono (by decide +kernel) (by decide))
    have hr_μ77 : μ77.2.2 = μ.2.2 := (hC_μ77.2 rfl : μ77.2.2 = μ74.2.2).trans hr_μ74
    try rw [hr_μ77]
    have g79 := rgc_0_4 (sel_0 (μ.2.2 151 8)) hI_μ77
    have f80 : (μ77.1 (sel 0 (μ.2.2 151 8)) 4).toInt = (μ74.1 (sel 0 (μ.2.2 151 8)) 4).toInt := congrArg Int32.toInt (hC_μ77.1 _ _ (cls_free (by decide +kernel) (sel_0 (μ.2.2 151 8))))
    exact ok_some ⟨hI_μ77, hF_μ77, by (try dsimp only); (try rw [hr_μ77]); omega⟩
  intro c71
  rw [ti_eq] at c71
  refine ok_ite ?_ ?_
  · intro c81
    rw [ti_eq] at c81
    refine ok_bd (k_X6_num a1 (0 : Int32) μ hI_μ) ?_
    rintro r83 μ82 hq9
    obtain rfl : μ = μ82 := hq9
    refine ok_bd (k_X1_put (sel 0 (μ.2.2 151 8)) (sel_0 _) r3 (s_X0_stored r3 r83) μ hI_μ) ?_
    rintro r85 μ84 ⟨hI_μ84, hC_μ84⟩
    have hI_μ84 : IX μ84 := hI_μ84
    have hC_μ84 : Fr [(3, 0, 2)] true μ μ84 := hC_μ84
    have hF_μ84 : Fr [(0, 30, 5), (0, 151, 5), (0, 151, 6), (1, 33, 0), (1, 34, 0), (1, 154, 0), (1, 155, 0), (2, 0, 0), (2, 0, 1), (2, 0, 2), (2, 0, 3), (2, 0, 4), (3, 0, 2)] true μ μ84 := hF_μ.trans (hC_μ84.mono (by decide +kernel) (by decide))
    have hr_μ84 : μ84.2.2 = μ.2.2 := (hC_μ84.2 rfl : μ84.2.2 = μ.2.2).trans hr_μ
    try rw [hr_μ84]
    refine ok_bw (k_X6_goOn a1 r85 μ84 hI_μ84) ?_
    rintro μ86 ⟨hI_μ86, hC_μ86⟩
    have hF_μ86 : Fr [(0, 30, 5), (0, 151, 5), (0, 151, 6), (1, 33, 0), (1, 34, 0), (1, 154, 0), (1, 155, 0), (2, 0, 0), (2, 0, 1), (2, 0, 2), (2, 0, 3), (2, 0, 4), (3, 0, 2)] true μ μ86 := hF_μ84.trans (hC_μ86.mono (by decide +kernel) (by decide))
    have hr_μ86 : μ86.2.2 = μ.2.2 := (hC_μ86.2 rfl : μ86.2.2 = μ84.2.2).trans hr_μ84
    try rw [hr_μ86]
    have g88 := rgc_0_4 (sel_0 (μ.2.2 151 8)) hI_μ86
    have f89 : (μ86.1 (sel 0 (μ.2.2 151 8)) 4).toInt = (μ.1 (sel 0 (μ.2.2 151 8)) 4).toInt := congrArg Int32.toInt ((hC_μ86.1 _ _ (cls_free (by decide +kernel) (sel_0 (μ.2.2 151 8)))).trans (hC_μ84.1 _ _ (cls_free (by decide +kernel) (sel_0 (μ.2.2 151 8)))))
    exact ok_some ⟨hI_μ86, hF_μ86, by (try dsimp only); (try rw [hr_μ86]); omega⟩
  intro c81
  rw [ti_eq] at c81
  refine ok_ite ?_ ?_
  · intro c90
    rw [ti_eq] at c90
    refine ok_bd (k_X1_get (sel 0 (μ.2.2 151 8)) (sel_0 _) r3 μ hI_μ) ?_
    rintro r92 μ91 hq9
    obtain rfl : μ = μ91 := hq9
    refine ok_bw (k_X6_goOn a1 r92 μ hI_μ) ?_
    rintro μ93 ⟨hI_μ93, hC_μ93⟩
    have hF_μ93 : Fr [(0, 30, 5), (0, 151, 5), (0, 151, 6), (1, 33, 0), (1, 34, 0), (1, 154, 0), (1, 155, 0), (2, 0, 0), (2, 0, 1), (2, 0, 2), (2, 0, 3), (2, 0, 4), (3, 0, 2)] true μ μ93 := hF_μ.trans (hC_μ93.mono (by decide +kernel) (by decide))
    have hr_μ93 : μ93.2.2 = μ.2.2 := (hC_μ93.2 rfl : μ93.2.2 = μ.2.2).trans hr_μ
    try rw [hr_μ93]
    have g95 := rgc_0_4 (sel_0 (μ.2.2 151 8)) hI_μ93
    have f96 : (μ93.1 (sel 0 (μ.2.2 151 8)) 4).toInt = (μ.1 (sel 0 (μ.2.2 151 8)) 4).toInt := congrArg Int32.toInt (hC_μ93.1 _ _ (cls_free (by decide +kernel) (sel_0 (μ.2.2 151 8))))
    exact ok_some ⟨hI_μ93, hF_μ93, by (try dsimp only); (try rw [hr_μ93]); omega⟩
  intro c90
  rw [ti_eq] at c90
  refine ok_ite ?_ ?_
  · intro c97
    rw [ti_eq] at c97
    refine ok_bw (k_X6_makePair a1 μ hI_μ) ?_
    rintro μ98 ⟨hI_μ98, hC_μ98⟩
    have hF_μ98 : Fr [(0, 30, 5), (0, 151, 5), (0, 151, 6), (1, 33, 0), (1, 34, 0), (1, 154, 0), (1, 155, 0), (2, 0, 0), (2, 0, 1), (2, 0, 2), (2, 0, 3), (2, 0, 4), (3, 0, 2)] true μ μ98 := hF_μ.trans (hC_μ98.mono (by decide +kernel) (by decide))
    have hr_μ98 : μ98.2.2 = μ.2.2 := (hC_μ98.2 rfl : μ98.2.2 = μ.2.2).trans hr_μ
    try rw [hr_μ98]
    have g100 := rgc_0_4 (sel_0 (μ.2.2 151 8)) hI_μ98
    have f101 : (μ98.1 (sel 0 (μ.2.2 151 8)) 4).toInt = (μ.1 (sel 0 (μ.2.2 151 8)) 4).toInt := congrArg Int32.toInt (hC_μ98.1 _ _ (cls_free (by decide +kernel) (sel_0 (μ.2.2 151 8))))
    exact ok_some ⟨hI_μ98, hF_μ98, by (try dsimp only); (try rw [hr_μ98]); omega⟩
  intro c97
  rw [ti_eq] at c97
  refine ok_ite ?_ ?_
  · intro c102
    rw [ti_eq] at c102
    refine ok_bw (k_X6_call a1 r3 μ hI_μ) ?_
    rintro μ103 ⟨hI_μ103, hC_μ103⟩
    have hF_μ103 : Fr [(0, 30, 5), (0, 151, 5), (0, 151, 6), (1, 33, 0), (1, 34, 0), (1, 154, 0), (1, 155, 0), (2, 0, 0), (2, 0, 1), (2, 0, 2), (2, 0, 3), (2, 0, 4), (3, 0, 2)] true μ μ103 := hF_μ.trans (hC_μ103.mono (by decide +kernel) (by decide))
    have hr_μ103 : μ103.2.2 = μ.2.2 := (hC_μ103.2 rfl : μ103.2.2 = μ.2.2).trans hr_μ
    try rw [hr_μ103]
    have g105 := rgc_0_4 (sel_0 (μ.2.2 151 8)) hI_μ103
    have f106 : (μ103.1 (sel 0 (μ.2.2 151 8)) 4).toInt = (μ.1 (sel 0 (μ.2.2 151 8)) 4).toInt := congrArg Int32.toInt (hC_μ103.1 _ _ (cls_free (by decide +kernel) (sel_0 (μ.2.2 151 8))))
    exact ok_some ⟨hI_μ103, hF_μ103, by (try dsimp only); (try rw [hr_μ103]); omega⟩
  intro c102
  rw [ti_eq] at c102
  refine ok_bv (fun μ107 e_μ107 => ?_)
  have hI_μ107 : IX μ107 := by rw [e_μ107]; exact IX_F hI_μ (rtc_0_0 (sel_0 (μ.2.2 151 8)) _)
  have hF_μ107 : Fr [(0, 30, 5), (0, 151, 5), (0, 151, 6), (1, 33, 0), (1, 34, 0), (1, 154, 0), (1, 155, 0), (2, 0, 0), (2, 0, 1), (2, 0, 2), (2, 0, 3), (2, 0, 4), (3, 0, 2)] true μ μ107 := by rw [e_μ107]; exact Fr.putc (ci := 0) hF_μ (by decide +kernel) (sel_0 (μ.2.2 151 8))
  have v_μ107 : (μ107.1 (sel 0 (μ.2.2 151 8)) 0).toInt = 4 := by rw [e_μ107, sF_v]; exact TI.e (n := 4) (TI.lit (by decide))
  have hr_μ107 : μ107.2.2 = μ.2.2 := (by rw [e_μ107]; rfl : μ107.2.2 = μ.2.2).trans hr_μ
  try rw [hr_μ107]
  have g108 := rgc_0_4 (sel_0 (μ.2.2 151 8)) hI_μ107
  have f109 : (μ107.1 (sel 0 (μ.2.2 151 8)) 4).toInt = (μ.1 (sel 0 (μ.2.2 151 8)) 4).toInt := congrArg Int32.toInt ((by rw [e_μ107]; exact sF_k (by decide) : μ107.1 (sel 0 (μ.2.2 151 8)) 4 = μ.1 (sel 0 (μ.2.2 151 8)) 4))
  exact ok_some ⟨hI_μ107, hF_μ107, by (try dsimp only); (try rw [hr_μ107]); omega⟩
