set_option maxHeartbeats 4000000 in
set_option maxRecDepth 100000 in
theorem k_X4_readFunction_b106 (a3 : Int32) (μ : Mem) (hI_μ : IX μ) : ok (p_X4_readFunction_b106 a3 μ) (fun q => IX q ∧ Fr [(0, 16, 2), (0, 16, 3), (0, 16, 6), (1, 17, 0), (2, 2, 0), (2, 2, 1), (2, 2, 2), (3, 2, 1), (3, 2, 2), (3, 2, 3), (3, 2, 4), (3, 2, 5), (3, 2, 6)] true μ q) := by
  have li0 : (0 : Int32).toInt = 0 := by decide
  have li1 : (1 : Int32).toInt = 1 := by decide
  have li14 : (14 : Int32).toInt = 14 := by decide
  have li59 : (59 : Int32).toInt = 59 := by decide
  have li61 : (61 : Int32).toInt = 61 := by decide
  have hF_μ : Fr [(0, 16, 2), (0, 16, 3), (0, 16, 6), (1, 17, 0), (2, 2, 0), (2, 2, 1), (2, 2, 2), (3, 2, 1), (3, 2, 2), (3, 2, 3), (3, 2, 4), (3, 2, 5), (3, 2, 6)] true μ μ := Fr.rf
  have hr_μ : μ.2.2 = μ.2.2 := rfl
  rw [p_X4_readFunction_b106_eq]
  have lo_a3 := ti_lo a3
  have hi_a3 := ti_hi a3
  refine ok_bd (k_X4_take (61 : Int32) μ hI_μ) ?_
  rintro r28 μ27 ⟨hI_μ27, hC_μ27, p_μ27⟩
  have hI_μ27 : IX μ27 := hI_μ27
  have hC_μ27 : Fr [(0, 16, 2), (0, 16, 3)] true μ μ27 := hC_μ27
  dsimp only at p_μ27
  have lo_r28 := ti_lo r28
  have hi_r28 := ti_hi r28
  have hF_μ27 : Fr [(0, 16, 2), (0, 16, 3), (0, 16, 6), (1, 17, 0), (2, 2, 0), (2, 2, 1), (2, 2, 2), (3, 2, 1), (3, 2, 2), (3, 2, 3), (3, 2, 4), (3, 2, 5), (3, 2, 6)] true μ μ27 := hF_μ.trans (hC_μ27.mono (by decide +kernel) (by decide))
  have hr_μ27 : μ27.2.2 = μ.2.2 := (hC_μ27.2 rfl : μ27.2.2 = μ.2.2).trans hr_μ
  try rw [hr_μ27]
  refine ok_ite ?_ ?_
  · intro c29
    rw [ti_eq] at c29
    exact ok_some ⟨hI_μ27, hF_μ27⟩
  · intro c29
    rw [ti_eq] at c29
    refine ok_bw (k_X3_begin (sel 2 (μ.2.2 16 4)) (sel_2 _) a3 μ27 hI_μ27) ?_
    rintro μ30 ⟨hI_μ30, hC_μ30⟩
    have hF_μ30 : Fr [(0, 16, 2), (0, 16, 3), (0, 16, 6), (1, 17, 0), (2, 2, 0), (2, 2, 1), (2, 2, 2), (3, 2, 1), (3, 2, 2), (3, 2, 3), (3, 2, 4), (3, 2, 5), (3, 2, 6)] true μ μ30 := hF_μ27.trans (hC_μ30.mono (by decide +kernel) (by decide))
    have hr_μ30 : μ30.2.2 = μ.2.2 := (hC_μ30.2 rfl : μ30.2.2 = μ27.2.2).trans hr_μ27
    try rw [hr_μ30]
    refine ok_bw (kr_X4_readExpression 50 (0 : Int32) μ30 hI_μ30 (by (try rw [hr_μ30]); omega)) ?_
    rintro μ32 ⟨hI_μ32, hC_μ32⟩
    have hF_μ32 : Fr [(0, 16, 2), (0, 16, 3), (0, 16, 6), (1, 17, 0), (2, 2, 0), (2, 2, 1), (2, 2, 2), (3, 2, 1), (3, 2, 2), (3, 2, 3), (3, 2, 4), (3, 2, 5), (3, 2, 6)] true μ μ32 := hF_μ30.trans (hC_μ32.mono (by decide +kernel) (by decide))
    have hr_μ32 : μ32.2.2 = μ.2.2 := (hC_μ32.2 rfl : μ32.2.2 = μ30.2.2).trans hr_μ30
    try rw [hr_μ32]
    refine ok_bd (k_X4_take (59 : Int32) μ32 hI_μ32) ?_
    rintro r35 μ34 ⟨hI_μ34, hC_μ34, p_μ34⟩
    have hI_μ34 : IX μ34 := hI_μ34
    have hC_μ34 : Fr [(0, 16, 2), (0, 16, 3)] true μ32 μ34 := hC_μ34
    dsimp only at p_μ34
    have lo_r35 := ti_lo r35
    have hi_r35 := ti_hi r35
    have hF_μ34 : Fr [(0, 16, 2), (0, 16, 3), (0, 16, 6), (1, 17, 0), (2, 2, 0), (2, 2, 1), (2, 2, 2), (3, 2, 1), (3, 2, 2), (3, 2, 3), (3, 2, 4), (3, 2, 5), (3, 2, 6)] true μ μ34 := hF_μ32.trans (hC_μ34.mono (by decide +kernel) (by decide))
    have hr_μ34 : μ34.2.2 = μ.2.2 := (hC_μ34.2 rfl : μ34.2.2 = μ32.2.2).trans hr_μ32
    try rw [hr_μ34]
    refine ok_bd (k_X3_add (sel 2 (μ.2.2 16 4)) (sel_2 _) (14 : Int32) (0 : Int32) (0 : Int32) μ34 hI_μ34 (by (try rw [hr_μ34]); omega)) ?_
    rintro r37 μ36 ⟨hI_μ36, hC_μ36⟩
    have hI_μ36 : IX μ36 := hI_μ36
    have hC_μ36 : Fr [(2, 2, 2), (3, 2, 4), (3, 2, 5), (3, 2, 6)] true μ34 μ36 := hC_μ36
    have lo_r37 := ti_lo r37
    have hi_r37 := ti_hi r37
    have hF_μ36 : Fr [(0, 16, 2), (0, 16, 3), (0, 16, 6), (1, 17, 0), (2, 2, 0), (2, 2, 1), (2, 2, 2), (3, 2, 1), (3, 2, 2), (3, 2, 3), (3, 2, 4), (3, 2, 5), (3, 2, 6)] true μ μ36 := hF_μ34.trans (hC_μ36.mono (by decide +kernel) (by decide))
    have hr_μ36 : μ36.2.2 = μ.2.2 := (hC_μ36.2 rfl : μ36.2.2 = μ34.2.2).trans hr_μ34
    try rw [hr_μ36]
    exact ok_some ⟨hI_μ36, hF_μ36⟩
set_option maxHeartbeats 4000000 in
set_option maxRecDepth 100000 in
theorem k_X4_readFunction  (μ : Mem) (hI_μ : IX μ) : ok (p_X4_readFunction  μ) (fun q => IX q ∧ Fr [(0, 16, 2), (0, 16, 3), (0, 16, 6), (1, 17, 0), (2, 2, 0), (2, 2, 1), (2, 2, 2), (3, 2, 1), (3, 2, 2), (3, 2, 3), (3, 2, 4), (3, 2, 5), (3, 2, 6)] true μ q) := by
  have lim1 : (-1 : Int32).toInt = -1 := by decide
  have li0 : (0 : Int32).toInt = 0 := by decide
  have li1 : (1 : Int32).toInt = 1 := by decide
  have li6 : (6 : Int32).toInt = 6 := by decide
  have li40 : (40 : Int32).toInt = 40 := by decide
  have li41 : (41 : Int32).toInt = 41 := by decide
  have li61 : (61 : Int32).toInt = 61 := by decide
  have li97 : (97 : Int32).toInt = 97 := by decide
  have hF_μ : Fr [(0, 16, 2), (0, 16, 3), (0, 16, 6), (1, 17, 0), (2, 2, 0), (2, 2, 1), (2, 2, 2), (3, 2, 1), (3, 2, 2), (3, 2, 3), (3, 2, 4), (3, 2, 5), (3, 2, 6)] true μ μ := Fr.rf
  have hr_μ : μ.2.2 = μ.2.2 := rfl
  rw [p_X4_readFunction_eq]
  have g1 := ti_lo (μ.1 16 2)
  have g1h := ti_hi (μ.1 16 2)
  refine ok_bv (fun v2 ev2 => ?_)
  have tv2 : v2.toInt = (μ.1 16 2).toInt := congrArg Int32.toInt ev2
  refine ok_bd (k_X4_here  μ hI_μ) ?_
  rintro r4 μ3 hq9
  obtain rfl : μ = μ3 := hq9
  have lo_r4 := ti_lo r4
  have hi_r4 := ti_hi r4
  refine ok_ite ?_ ?_
  · intro c5
    rw [ti_eq] at c5
    refine ok_bw (k_X4_fail (μ.1 16 2) μ hI_μ) ?_
    rintro μ6 ⟨hI_μ6, hC_μ6⟩
    have hF_μ6 : Fr [(0, 16, 2), (0, 16, 3), (0, 16, 6), (1, 17, 0), (2, 2, 0), (2, 2, 1), (2, 2, 2), (3, 2, 1), (3, 2, 2), (3, 2, 3), (3, 2, 4), (3, 2, 5), (3, 2, 6)] true μ μ6 := hF_μ.trans (hC_μ6.mono (by decide +kernel) (by decide))
    have hr_μ6 : μ6.2.2 = μ.2.2 := (hC_μ6.2 rfl : μ6.2.2 = μ.2.2).trans hr_μ
    try rw [hr_μ6]
    exact ok_some ⟨hI_μ6, hF_μ6⟩
  · intro c5
    rw [ti_eq] at c5
    refine ok_bv (fun μ8 e_μ8 => ?_)
    have hI_μ8 : IX μ8 := by rw [e_μ8]; exact IX_F hI_μ (rt_16_2 _)
    have hF_μ8 : Fr [(0, 16, 2), (0, 16, 3), (0, 16, 6), (1, 17, 0), (2, 2, 0), (2, 2, 1), (2, 2, 2), (3, 2, 1), (3, 2, 2), (3, 2, 3), (3, 2, 4), (3, 2, 5), (3, 2, 6)] true μ μ8 := by rw [e_μ8]; exact Fr.put hF_μ (by decide +kernel)
    have hr_μ8 : μ8.2.2 = μ.2.2 := (by rw [e_μ8]; rfl : μ8.2.2 = μ.2.2).trans hr_μ
    try rw [hr_μ8]
    refine ok_bv (fun μ9 e_μ9 => ?_)
    have hI_μ9 : IX μ9 := by rw [e_μ9]; exact IX_F hI_μ8 (rp_16_6 (by omega))
    have hF_μ9 : Fr [(0, 16, 2), (0, 16, 3), (0, 16, 6), (1, 17, 0), (2, 2, 0), (2, 2, 1), (2, 2, 2), (3, 2, 1), (3, 2, 2), (3, 2, 3), (3, 2, 4), (3, 2, 5), (3, 2, 6)] true μ μ9 := by rw [e_μ9]; exact Fr.put hF_μ8 (by decide +kernel)
    have v_μ9 : (μ9.1 16 6).toInt = 0 := by rw [e_μ9, sF_v]; exact TI.e (n := 0) (TI.lit (by decide))
    have hr_μ9 : μ9.2.2 = μ.2.2 := (by rw [e_μ9]; rfl : μ9.2.2 = μ8.2.2).trans hr_μ8
    try rw [hr_μ9]
    refine ok_bd (k_X4_take (40 : Int32) μ9 hI_μ9) ?_
    rintro r11 μ10 ⟨hI_μ10, hC_μ10, p_μ10⟩
    have hI_μ10 : IX μ10 := hI_μ10
    have hC_μ10 : Fr [(0, 16, 2), (0, 16, 3)] true μ9 μ10 := hC_μ10
    dsimp only at p_μ10
    have lo_r11 := ti_lo r11
    have hi_r11 := ti_hi r11
    have hF_μ10 : Fr [(0, 16, 2), (0, 16, 3), (0, 16, 6), (1, 17, 0), (2, 2, 0), (2, 2, 1), (2, 2, 2), (3, 2, 1), (3, 2, 2), (3, 2, 3), (3, 2, 4), (3, 2, 5), (3, 2, 6)] true μ μ10 := hF_μ9.trans (hC_μ10.mono (by decide +kernel) (by decide))
    have hr_μ10 : μ10.2.2 = μ.2.2 := (hC_μ10.2 rfl : μ10.2.2 = μ9.2.2).trans hr_μ9
    try rw [hr_μ10]
    refine ok_bw (k_X4_readNames  μ10 hI_μ10) ?_
    rintro μ12 ⟨hI_μ12, hC_μ12⟩
    have hF_μ12 : Fr [(0, 16, 2), (0, 16, 3), (0, 16, 6), (1, 17, 0), (2, 2, 0), (2, 2, 1), (2, 2, 2), (3, 2, 1), (3, 2, 2), (3, 2, 3), (3, 2, 4), (3, 2, 5), (3, 2, 6)] true μ μ12 := hF_μ10.trans (hC_μ12.mono (by decide +kernel) (by decide))
    have hr_μ12 : μ12.2.2 = μ.2.2 := (hC_μ12.2 rfl : μ12.2.2 = μ10.2.2).trans hr_μ10
    try rw [hr_μ12]
    refine ok_bd (k_X4_take (41 : Int32) μ12 hI_μ12) ?_
    rintro r15 μ14 ⟨hI_μ14, hC_μ14, p_μ14⟩
    have hI_μ14 : IX μ14 := hI_μ14
    have hC_μ14 : Fr [(0, 16, 2), (0, 16, 3)] true μ12 μ14 := hC_μ14
    dsimp only at p_μ14
    have lo_r15 := ti_lo r15
    have hi_r15 := ti_hi r15
    have hF_μ14 : Fr [(0, 16, 2), (0, 16, 3), (0, 16, 6), (1, 17, 0), (2, 2, 0), (2, 2, 1), (2, 2, 2), (3, 2, 1), (3, 2, 2), (3, 2, 3), (3, 2, 4), (3, 2, 5), (3, 2, 6)] true μ μ14 := hF_μ12.trans (hC_μ14.mono (by decide +kernel) (by decide))
    have hr_μ14 : μ14.2.2 = μ.2.2 := (hC_μ14.2 rfl : μ14.2.2 = μ12.2.2).trans hr_μ12
    try rw [hr_μ14]
    refine ok_bd (k_X4_isWell  μ14 hI_μ14) ?_
    rintro r17 μ16 ⟨hq9, p_r17⟩
    obtain rfl : μ14 = μ16 := hq9
    dsimp only at p_r17
    have lo_r17 := ti_lo r17
    have hi_r17 := ti_hi r17
    try rw [hr_μ14]
    refine ok_ite ?_ ?_
    · intro c18
      rw [ti_eq] at c18
      exact ok_some ⟨hI_μ14, hF_μ14⟩
    · intro c18
      rw [ti_eq] at c18
      have g19 := rg_16_6 hI_μ14
      refine ok_bv (fun v20 ev20 => ?_)
      first | have tv20 : v20.toInt = (((r4.toInt - 97) * 6) + (μ14.1 16 6).toInt) := (congrArg Int32.toInt ev20).trans (TI.e (n := (((r4.toInt - 97) * 6) + (μ14.1 16 6).toInt)) (TI.add (TI.mul (TI.sub TI.rf (TI.lit (by decide)) (by omega) (by omega)) (TI.lit (by decide)) (by omega) (by omega)) TI.rf (by omega) (by omega))) | skip
      refine ok_bd (k_X4_here  μ14 hI_μ14) ?_
      rintro r22 μ21 hq9
      obtain rfl : μ14 = μ21 := hq9
      have lo_r22 := ti_lo r22
      have hi_r22 := ti_hi r22
      try rw [hr_μ14]
      refine ok_ite ?_ ?_
      · intro c23
        rw [ti_eq] at c23
        refine ok_bd (k_X3_startOf (sel 2 (μ.2.2 16 4)) (sel_2 _) v20 μ14 hI_μ14) ?_
        rintro r25 μ24 hq9
        obtain rfl : μ14 = μ24 := hq9
        have lo_r25 := ti_lo r25
        have hi_r25 := ti_hi r25
        try rw [hr_μ14]
        refine ok_ite ?_ ?_
        · intro c26
          rw [ti_eq] at c26
          exact ok_mono (k_X4_readFunction_b106  v20 μ14 hI_μ14) (fun q h => ⟨h.1, hF_μ14.trans h.2⟩)
        · intro c26
          rw [ti_eq] at c26
          refine ok_bw (k_X4_fail v2 μ14 hI_μ14) ?_
          rintro μ38 ⟨hI_μ38, hC_μ38⟩
          have hF_μ38 : Fr [(0, 16, 2), (0, 16, 3), (0, 16, 6), (1, 17, 0), (2, 2, 0), (2, 2, 1), (2, 2, 2), (3, 2, 1), (3, 2, 2), (3, 2, 3), (3, 2, 4), (3, 2, 5), (3, 2, 6)] true μ μ38 := hF_μ14.trans (hC_μ38.mono (by decide +kernel) (by decide))
          have hr_μ38 : μ38.2.2 = μ.2.2 := (hC_μ38.2 rfl : μ38.2.2 = μ14.2.2).trans hr_μ14
          try rw [hr_μ38]
          exact ok_mono (k_X4_readFunction_b106  v20 μ38 hI_μ38) (fun q h => ⟨h.1, hF_μ38.trans h.2⟩)
      · intro c23
        rw [ti_eq] at c23
        exact ok_mono (k_X4_readFunction_b106  v20 μ14 hI_μ14) (fun q h => ⟨h.1, hF_μ14.trans h.2⟩)

set_option maxHeartbeats 4000000 in
set_option maxRecDepth 100000 in
theorem k_X4_readProgram_b14 : ∀ (n : Nat) (a2 : Int32) (μ : Mem), IX μ → (0 ≤ (a2).toInt ∧ (a2).toInt ≤ 801 ∧ 801 - (a2).toInt < n) → ok (p_X4_readProgram_b14 n a2 μ) (fun q => IX q ∧ Fr [(0, 16, 2), (0, 16, 3), (0, 16, 6), (1, 17, 0), (2, 2, 0), (2, 2, 1), (2, 2, 2), (3, 2, 1), (3, 2, 2), (3, 2, 3), (3, 2, 4), (3, 2, 5), (3, 2, 6)] false μ q) := by
  have li0 : (0 : Int32).toInt = 0 := by decide
  have li1 : (1 : Int32).toInt = 1 := by decide
  have li800 : (800 : Int32).toInt = 800 := by decide
  intro n
  induction n with
  | zero => intro a2 μ hI_μ hc; exact absurd hc (by have lo_a2 := ti_lo a2; have hi_a2 := ti_hi a2; omega)
  | succ n ih =>
    intro a2 μ hI_μ hc
    have hF_μ : Fr [(0, 16, 2), (0, 16, 3), (0, 16, 6), (1, 17, 0), (2, 2, 0), (2, 2, 1), (2, 2, 2), (3, 2, 1), (3, 2, 2), (3, 2, 3), (3, 2, 4), (3, 2, 5), (3, 2, 6)] false μ μ := Fr.rf
    have hr_μ : μ.2.2 = μ.2.2 := rfl
    rw [p_X4_readProgram_b14_s]
    have lo_a2 := ti_lo a2
    have hi_a2 := ti_hi a2
    refine ok_ite ?_ ?_
    · intro c4
      rw [ti_lt] at c4
      exact ok_some ⟨hI_μ, hF_μ⟩
    · intro c4
      rw [ti_lt] at c4
      refine ok_bd (k_X4_isWell  μ hI_μ) ?_
      rintro r6 μ5 ⟨hq9, p_r6⟩
      obtain rfl : μ = μ5 := hq9
      dsimp only at p_r6
      have lo_r6 := ti_lo r6
      have hi_r6 := ti_hi r6
      refine ok_ite ?_ ?_
      · intro c7
        rw [ti_eq] at c7
        exact ok_some ⟨hI_μ, hF_μ⟩
      · intro c7
        rw [ti_eq] at c7
        have g8 := ti_lo (μ.1 16 2)
        have g8h := ti_hi (μ.1 16 2)
        have g9 := rg_16_1 hI_μ
        refine ok_ite ?_ ?_
        · intro c10
          rw [ti_le] at c10
          exact ok_some ⟨hI_μ, hF_μ⟩
        · intro c10
          rw [ti_le] at c10
          refine ok_bw (k_X4_readFunction  μ hI_μ) ?_
          rintro μ11 ⟨hI_μ11, hC_μ11⟩
          have hF_μ11 : Fr [(0, 16, 2), (0, 16, 3), (0, 16, 6), (1, 17, 0), (2, 2, 0), (2, 2, 1), (2, 2, 2), (3, 2, 1), (3, 2, 2), (3, 2, 3), (3, 2, 4), (3, 2, 5), (3, 2, 6)] false μ μ11 := hF_μ.trans (hC_μ11.mono (by decide +kernel) (by decide))
          have hr_μ11 : μ11.2.2 = μ.2.2 := (hC_μ11.2 rfl : μ11.2.2 = μ.2.2).trans hr_μ
          try rw [hr_μ11]
          refine ok_bv (fun v13 ev13 => ?_)
          first | have tv13 : v13.toInt = (a2.toInt + 1) := (congrArg Int32.toInt ev13).trans (TI.e (n := (a2.toInt + 1)) (TI.add TI.rf (TI.lit (by decide)) (by omega) (by omega))) | have tv13 : v13.toInt ≤ a2.toInt + 1 := by rw [ev13]; exact ti_inc _ | skip
          exact ok_mono (ih v13 μ11 hI_μ11 (by (try rw [hr_μ11]); omega)) (fun q h => ⟨h.1, hF_μ11.trans h.2⟩)
set_option maxHeartbeats 4000000 in
set_option maxRecDepth 100000 in
theorem k_X4_readProgram (a1 : Nat) (q1 : sh 0 a1 = (0, 2)) (μ : Mem) (hI_μ : IX μ) : ok (p_X4_readProgram a1 μ) (fun q => IX q ∧ Fr [(0, 16, 2), (0, 16, 3), (0, 16, 6), (1, 17, 0), (2, 2, 0), (2, 2, 1), (2, 2, 2), (3, 2, 1), (3, 2, 2), (3, 2, 3), (3, 2, 4), (3, 2, 5), (3, 2, 6)] false μ q) := by
  have li0 : (0 : Int32).toInt = 0 := by decide
  have li1 : (1 : Int32).toInt = 1 := by decide
  have hF_μ : Fr [(0, 16, 2), (0, 16, 3), (0, 16, 6), (1, 17, 0), (2, 2, 0), (2, 2, 1), (2, 2, 2), (3, 2, 1), (3, 2, 2), (3, 2, 3), (3, 2, 4), (3, 2, 5), (3, 2, 6)] false μ μ := Fr.rf
  have hr_μ : μ.2.2 = μ.2.2 := rfl
  rw [p_X4_readProgram_eq]
  refine ok_bv (fun μ1 e_μ1 => ?_)
  have hI_μ1 : IX μ1 := by rw [e_μ1]; exact IX_R hI_μ
  have hF_μ1 : Fr [(0, 16, 2), (0, 16, 3), (0, 16, 6), (1, 17, 0), (2, 2, 0), (2, 2, 1), (2, 2, 2), (3, 2, 1), (3, 2, 2), (3, 2, 3), (3, 2, 4), (3, 2, 5), (3, 2, 6)] false μ μ1 := by rw [e_μ1]; exact ⟨hF_μ.1, fun h9 => absurd h9 (by decide)⟩
  have hr_μ1 : μ1.2.2 = μ1.2.2 := rfl
  refine ok_bw (k_X3_clear (sel 2 (μ1.2.2 16 4)) (sel_2 _) μ1 hI_μ1) ?_
  rintro μ2 ⟨hI_μ2, hC_μ2⟩
  have hF_μ2 : Fr [(0, 16, 2), (0, 16, 3), (0, 16, 6), (1, 17, 0), (2, 2, 0), (2, 2, 1), (2, 2, 2), (3, 2, 1), (3, 2, 2), (3, 2, 3), (3, 2, 4), (3, 2, 5), (3, 2, 6)] false μ μ2 := hF_μ1.trans (hC_μ2.mono (by decide +kernel) (by decide))
  have hr_μ2 : μ2.2.2 = μ1.2.2 := (hC_μ2.2 rfl : μ2.2.2 = μ1.2.2).trans hr_μ1
  try rw [hr_μ2]
  obtain ⟨fu, hfu0, hfu⟩ := fuel_ex
  rw [hfu0]
  exact ok_mono (k_X4_readProgram_b14  fu (0 : Int32) μ2 hI_μ2 (by (try rw [hr_μ2]); omega)) (fun q h => ⟨h.1, hF_μ2.trans h.2⟩)

set_option maxHeartbeats 4000000 in
set_option maxRecDepth 100000 in
theorem k_X4_badPlace  (μ : Mem) (hI_μ : IX μ) : ok (p_X4_badPlace  μ) (fun q => μ = q.2) := by
  have li0 : (0 : Int32).toInt = 0 := by decide
  have li1 : (1 : Int32).toInt = 1 := by decide
  have hF_μ : Fr [] true μ μ := Fr.rf
  have hr_μ : μ.2.2 = μ.2.2 := rfl
  rw [p_X4_badPlace_eq]
  have g1 := ti_lo (μ.1 16 3)
  have g1h := ti_hi (μ.1 16 3)
  exact ok_some rfl

set_option maxHeartbeats 4000000 in
set_option maxRecDepth 100000 in
theorem k_X5_clear  (μ : Mem) (hI_μ : IX μ) : ok (p_X5_clear  μ) (fun q => IX q ∧ Fr [(0, 39, 0), (0, 39, 1), (0, 39, 2), (0, 39, 3), (0, 39, 4), (0, 39, 5), (0, 39, 6)] true μ q) := by
  have li0 : (0 : Int32).toInt = 0 := by decide
  have li1 : (1 : Int32).toInt = 1 := by decide
  have hF_μ : Fr [(0, 39, 0), (0, 39, 1), (0, 39, 2), (0, 39, 3), (0, 39, 4), (0, 39, 5), (0, 39, 6)] true μ μ := Fr.rf
  have hr_μ : μ.2.2 = μ.2.2 := rfl
  rw [p_X5_clear_eq]
  refine ok_bv (fun μ1 e_μ1 => ?_)
  have hI_μ1 : IX μ1 := by rw [e_μ1]; exact IX_F hI_μ (rt_39_0 _)
  have hF_μ1 : Fr [(0, 39, 0), (0, 39, 1), (0, 39, 2), (0, 39, 3), (0, 39, 4), (0, 39, 5), (0, 39, 6)] true μ μ1 := by rw [e_μ1]; exact Fr.put hF_μ (by decide +kernel)
  have v_μ1 : (μ1.1 39 0).toInt = 0 := by rw [e_μ1, sF_v]; exact TI.e (n := 0) (TI.lit (by decide))
  have hr_μ1 : μ1.2.2 = μ.2.2 := (by rw [e_μ1]; rfl : μ1.2.2 = μ.2.2).trans hr_μ
  refine ok_bv (fun μ2 e_μ2 => ?_)
  have hI_μ2 : IX μ2 := by rw [e_μ2]; exact IX_F hI_μ1 (rp_39_1 (by omega))
  have hF_μ2 : Fr [(0, 39, 0), (0, 39, 1), (0, 39, 2), (0, 39, 3), (0, 39, 4), (0, 39, 5), (0, 39, 6)] true μ μ2 := by rw [e_μ2]; exact Fr.put hF_μ1 (by decide +kernel)
  have v_μ2 : (μ2.1 39 1).toInt = 0 := by rw [e_μ2, sF_v]; exact TI.e (n := 0) (TI.lit (by decide))
  have hr_μ2 : μ2.2.2 = μ.2.2 := (by rw [e_μ2]; rfl : μ2.2.2 = μ1.2.2).trans hr_μ1
  refine ok_bv (fun μ3 e_μ3 => ?_)
  have hI_μ3 : IX μ3 := by rw [e_μ3]; exact IX_F hI_μ2 (rp_39_2 (by omega))
  have hF_μ3 : Fr [(0, 39, 0), (0, 39, 1), (0, 39, 2), (0, 39, 3), (0, 39, 4), (0, 39, 5), (0, 39, 6)] true μ μ3 := by rw [e_μ3]; exact Fr.put hF_μ2 (by decide +kernel)
  have v_μ3 : (μ3.1 39 2).toInt = 0 := by rw [e_μ3, sF_v]; exact TI.e (n := 0) (TI.lit (by decide))
  have hr_μ3 : μ3.2.2 = μ.2.2 := (by rw [e_μ3]; rfl : μ3.2.2 = μ2.2.2).trans hr_μ2
  refine ok_bv (fun μ4 e_μ4 => ?_)
  have hI_μ4 : IX μ4 := by rw [e_μ4]; exact IX_F hI_μ3 (rt_39_3 _)
  have hF_μ4 : Fr [(0, 39, 0), (0, 39, 1), (0, 39, 2), (0, 39, 3), (0, 39, 4), (0, 39, 5), (0, 39, 6)] true μ μ4 := by rw [e_μ4]; exact Fr.put hF_μ3 (by decide +kernel)
  have v_μ4 : (μ4.1 39 3).toInt = 0 := by rw [e_μ4, sF_v]; exact TI.e (n := 0) (TI.lit (by decide))
  have hr_μ4 : μ4.2.2 = μ.2.2 := (by rw [e_μ4]; rfl : μ4.2.2 = μ3.2.2).trans hr_μ3
  refine ok_bv (fun μ5 e_μ5 => ?_)
  have hI_μ5 : IX μ5 := by rw [e_μ5]; exact IX_F hI_μ4 (rt_39_4 _)
  have hF_μ5 : Fr [(0, 39, 0), (0, 39, 1), (0, 39, 2), (0, 39, 3), (0, 39, 4), (0, 39, 5), (0, 39, 6)] true μ μ5 := by rw [e_μ5]; exact Fr.put hF_μ4 (by decide +kernel)
  have v_μ5 : (μ5.1 39 4).toInt = 0 := by rw [e_μ5, sF_v]; exact TI.e (n := 0) (TI.lit (by decide))
  have hr_μ5 : μ5.2.2 = μ.2.2 := (by rw [e_μ5]; rfl : μ5.2.2 = μ4.2.2).trans hr_μ4
  refine ok_bv (fun μ6 e_μ6 => ?_)
  have hI_μ6 : IX μ6 := by rw [e_μ6]; exact IX_F hI_μ5 (rt_39_5 _)
  have hF_μ6 : Fr [(0, 39, 0), (0, 39, 1), (0, 39, 2), (0, 39, 3), (0, 39, 4), (0, 39, 5), (0, 39, 6)] true μ μ6 := by rw [e_μ6]; exact Fr.put hF_μ5 (by decide +kernel)
  have v_μ6 : (μ6.1 39 5).toInt = 0 := by rw [e_μ6, sF_v]; exact TI.e (n := 0) (TI.lit (by decide))
  have hr_μ6 : μ6.2.2 = μ.2.2 := (by rw [e_μ6]; rfl : μ6.2.2 = μ5.2.2).trans hr_μ5
  refine ok_bv (fun μ7 e_μ7 => ?_)
  have hI_μ7 : IX μ7 := by rw [e_μ7]; exact IX_F hI_μ6 (rp_39_6 (by omega))
  have hF_μ7 : Fr [(0, 39, 0), (0, 39, 1), (0, 39, 2), (0, 39, 3), (0, 39, 4), (0, 39, 5), (0, 39, 6)] true μ μ7 := by rw [e_μ7]; exact Fr.put hF_μ6 (by decide +kernel)
  have v_μ7 : (μ7.1 39 6).toInt = 0 := by rw [e_μ7, sF_v]; exact TI.e (n := 0) (TI.lit (by decide))
  have hr_μ7 : μ7.2.2 = μ.2.2 := (by rw [e_μ7]; rfl : μ7.2.2 = μ6.2.2).trans hr_μ6
  exact ok_some ⟨hI_μ7, hF_μ7⟩

set_option maxHeartbeats 4000000 in
set_option maxRecDepth 100000 in
theorem k_X11_program  (μ : Mem) (hI_μ : IX μ) : ok (p_X11_program  μ) (fun q => IX q.2 ∧ Fr [(0, 0, 1), (0, 0, 2), (0, 16, 1), (0, 16, 2), (0, 16, 3), (0, 16, 6), (0, 39, 0), (0, 39, 1), (0, 39, 2), (0, 39, 3), (0, 39, 4), (0, 39, 5), (0, 39, 6), (1, 17, 0), (2, 2, 0), (2, 2, 1), (2, 2, 2), (3, 2, 1), (3, 2, 2), (3, 2, 3), (3, 2, 4), (3, 2, 5), (3, 2, 6)] false μ q.2 ∧ ((q.2.1 0 1).toInt = 0)) := by
  have lim1 : (-1 : Int32).toInt = -1 := by decide
  have li0 : (0 : Int32).toInt = 0 := by decide
  have li1 : (1 : Int32).toInt = 1 := by decide
  have hF_μ : Fr [(0, 0, 1), (0, 0, 2), (0, 16, 1), (0, 16, 2), (0, 16, 3), (0, 16, 6), (0, 39, 0), (0, 39, 1), (0, 39, 2), (0, 39, 3), (0, 39, 4), (0, 39, 5), (0, 39, 6), (1, 17, 0), (2, 2, 0), (2, 2, 1), (2, 2, 2), (3, 2, 1), (3, 2, 2), (3, 2, 3), (3, 2, 4), (3, 2, 5), (3, 2, 6)] false μ μ := Fr.rf
  have hr_μ : μ.2.2 = μ.2.2 := rfl
  rw [p_X11_program_eq]
  refine ok_bw (k_X11_takeTape  μ hI_μ) ?_
  rintro μ1 ⟨hI_μ1, hC_μ1, p_μ1⟩
  have hF_μ1 : Fr [(0, 0, 1), (0, 0, 2), (0, 16, 1), (0, 16, 2), (0, 16, 3), (0, 16, 6), (0, 39, 0), (0, 39, 1), (0, 39, 2), (0, 39, 3), (0, 39, 4), (0, 39, 5), (0, 39, 6), (1, 17, 0), (2, 2, 0), (2, 2, 1), (2, 2, 2), (3, 2, 1), (3, 2, 2), (3, 2, 3), (3, 2, 4), (3, 2, 5), (3, 2, 6)] false μ μ1 := hF_μ.trans (hC_μ1.mono (by decide +kernel) (by decide))
  have hr_μ1 : μ1.2.2 = μ.2.2 := (hC_μ1.2 rfl : μ1.2.2 = μ.2.2).trans hr_μ
  try rw [hr_μ1]
  have g3 := rg_0_1 hI_μ1
  refine ok_bw (k_X4_readProgram (sel 2 (μ.2.2 0 5)) (sel_2 _) μ1 hI_μ1) ?_
  rintro μ4 ⟨hI_μ4, hC_μ4⟩
  have hF_μ4 : Fr [(0, 0, 1), (0, 0, 2), (0, 16, 1), (0, 16, 2), (0, 16, 3), (0, 16, 6), (0, 39, 0), (0, 39, 1), (0, 39, 2), (0, 39, 3), (0, 39, 4), (0, 39, 5), (0, 39, 6), (1, 17, 0), (2, 2, 0), (2, 2, 1), (2, 2, 2), (3, 2, 1), (3, 2, 2), (3, 2, 3), (3, 2, 4), (3, 2, 5), (3, 2, 6)] false μ μ4 := hF_μ1.trans (hC_μ4.mono (by decide +kernel) (by decide))
  have hr_μ4 : μ4.2.2 = μ4.2.2 := rfl
  refine ok_bd (k_X4_badPlace  μ4 hI_μ4) ?_
  rintro r7 μ6 hq9
  obtain rfl : μ4 = μ6 := hq9
  have lo_r7 := ti_lo r7
  have hi_r7 := ti_hi r7
  refine ok_bv (fun μ8 e_μ8 => ?_)
  have hI_μ8 : IX μ8 := by rw [e_μ8]; exact IX_F hI_μ4 (rt_0_2 _)
  have hF_μ8 : Fr [(0, 0, 1), (0, 0, 2), (0, 16, 1), (0, 16, 2), (0, 16, 3), (0, 16, 6), (0, 39, 0), (0, 39, 1), (0, 39, 2), (0, 39, 3), (0, 39, 4), (0, 39, 5), (0, 39, 6), (1, 17, 0), (2, 2, 0), (2, 2, 1), (2, 2, 2), (3, 2, 1), (3, 2, 2), (3, 2, 3), (3, 2, 4), (3, 2, 5), (3, 2, 6)] false μ μ8 := by rw [e_μ8]; exact Fr.put hF_μ4 (by decide +kernel)
  have v_μ8 : (μ8.1 0 2).toInt = r7.toInt := by rw [e_μ8, sF_v]
  have hr_μ8 : μ8.2.2 = μ4.2.2 := (by rw [e_μ8]; rfl : μ8.2.2 = μ4.2.2).trans hr_μ4
  try rw [hr_μ8]
  have g9 := ti_lo (μ8.1 0 2)
  have g9h := ti_hi (μ8.1 0 2)
  refine ok_ite ?_ ?_
  · intro c10
    rw [ti_eq] at c10
    refine ok_bv (fun μ11 e_μ11 => ?_)
    have hI_μ11 : IX μ11 := by rw [e_μ11]; exact IX_R hI_μ8
    have hF_μ11 : Fr [(0, 0, 1), (0, 0, 2), (0, 16, 1), (0, 16, 2), (0, 16, 3), (0, 16, 6), (0, 39, 0), (0, 39, 1), (0, 39, 2), (0, 39, 3), (0, 39, 4), (0, 39, 5), (0, 39, 6), (1, 17, 0), (2, 2, 0), (2, 2, 1), (2, 2, 2), (3, 2, 1), (3, 2, 2), (3, 2, 3), (3, 2, 4), (3, 2, 5), (3, 2, 6)] false μ μ11 := by rw [e_μ11]; exact ⟨hF_μ8.1, fun h9 => absurd h9 (by decide)⟩
    have hr_μ11 : μ11.2.2 = μ11.2.2 := rfl
    refine ok_bv (fun μ12 e_μ12 => ?_)
    have hI_μ12 : IX μ12 := by rw [e_μ12]; exact IX_R hI_μ11
    have hF_μ12 : Fr [(0, 0, 1), (0, 0, 2), (0, 16, 1), (0, 16, 2), (0, 16, 3), (0, 16, 6), (0, 39, 0), (0, 39, 1), (0, 39, 2), (0, 39, 3), (0, 39, 4), (0, 39, 5), (0, 39, 6), (1, 17, 0), (2, 2, 0), (2, 2, 1), (2, 2, 2), (3, 2, 1), (3, 2, 2), (3, 2, 3), (3, 2, 4), (3, 2, 5), (3, 2, 6)] false μ μ12 := by rw [e_μ12]; exact ⟨hF_μ11.1, fun h9 => absurd h9 (by decide)⟩
    have hr_μ12 : μ12.2.2 = μ12.2.2 := rfl
    refine ok_bw (k_X5_clear  μ12 hI_μ12) ?_
    rintro μ13 ⟨hI_μ13, hC_μ13⟩
    have hF_μ13 : Fr [(0, 0, 1), (0, 0, 2), (0, 16, 1), (0, 16, 2), (0, 16, 3), (0, 16, 6), (0, 39, 0), (0, 39, 1), (0, 39, 2), (0, 39, 3), (0, 39, 4), (0, 39, 5), (0, 39, 6), (1, 17, 0), (2, 2, 0), (2, 2, 1), (2, 2, 2), (3, 2, 1), (3, 2, 2), (3, 2, 3), (3, 2, 4), (3, 2, 5), (3, 2, 6)] false μ μ13 := hF_μ12.trans (hC_μ13.mono (by decide +kernel) (by decide))
    have hr_μ13 : μ13.2.2 = μ12.2.2 := (hC_μ13.2 rfl : μ13.2.2 = μ12.2.2).trans hr_μ12
    try rw [hr_μ13]
    have g15 := rgc_2_0 (sel_2 (μ12.2.2 0 4)) hI_μ13
    have g16 := rg_0_1 hI_μ13
    have f17 : (μ13.1 0 1).toInt = (μ1.1 0 1).toInt := congrArg Int32.toInt ((hC_μ13.1 0 1 (by decide +kernel)).trans (((by rw [e_μ12]; rfl : μ12.1 0 1 = μ11.1 0 1)).trans (((by rw [e_μ11]; rfl : μ11.1 0 1 = μ8.1 0 1)).trans (((by rw [e_μ8]; rfl : μ8.1 0 1 = μ4.1 0 1)).trans (hC_μ4.1 0 1 (by decide +kernel))))))
    exact ok_some ⟨hI_μ13, hF_μ13, by (try dsimp only); (try rw [hr_μ13]); omega⟩
  · intro c10
    rw [ti_eq] at c10
    have g18 := rg_0_1 hI_μ8
    have f19 : (μ8.1 0 1).toInt = (μ1.1 0 1).toInt := congrArg Int32.toInt (((by rw [e_μ8]; rfl : μ8.1 0 1 = μ4.1 0 1)).trans (hC_μ4.1 0 1 (by decide +kernel)))
    exact ok_some ⟨hI_μ8, hF_μ8, by (try dsimp only); (try rw [hr_μ8]); omega⟩

set_option maxHeartbeats 4000000 in
set_option maxRecDepth 100000 in
theorem k_X2_begin (a0 : Nat) (q0 : sh 0 a0 = (0, 1)) (a1 : Int32) (μ : Mem) (hI_μ : IX μ) : ok (p_X2_begin a0 a1 μ) (fun q => IX q ∧ Fr [(2, 1, 2), (2, 1, 3)] true μ q) := by
  have li0 : (0 : Int32).toInt = 0 := by decide
  have li1 : (1 : Int32).toInt = 1 := by decide
  have hF_μ : Fr [(2, 1, 2), (2, 1, 3)] true μ μ := Fr.rf
  have hr_μ : μ.2.2 = μ.2.2 := rfl
  rw [p_X2_begin_eq]
  have lo_a1 := ti_lo a1
  have hi_a1 := ti_hi a1
  refine ok_bv (fun μ1 e_μ1 => ?_)
  have hI_μ1 : IX μ1 := by rw [e_μ1]; exact IX_F hI_μ (rpp q0 (by omega))
  have hF_μ1 : Fr [(2, 1, 2), (2, 1, 3)] true μ μ1 := by rw [e_μ1]; exact Fr.putc (ci := 1) hF_μ (by decide +kernel) q0
  have v_μ1 : (μ1.1 a0 2).toInt = 0 := by rw [e_μ1, sF_v]; exact TI.e (n := 0) (TI.lit (by decide))
  have hr_μ1 : μ1.2.2 = μ.2.2 := (by rw [e_μ1]; rfl : μ1.2.2 = μ.2.2).trans hr_μ
  refine ok_bv (fun μ2 e_μ2 => ?_)
  have hI_μ2 : IX μ2 := by rw [e_μ2]; exact IX_F hI_μ1 (rtc_1_3 q0 _)
  have hF_μ2 : Fr [(2, 1, 2), (2, 1, 3)] true μ μ2 := by rw [e_μ2]; exact Fr.putc (ci := 1) hF_μ1 (by decide +kernel) q0
  have v_μ2 : (μ2.1 a0 3).toInt = a1.toInt := by rw [e_μ2, sF_v]
  have hr_μ2 : μ2.2.2 = μ.2.2 := (by rw [e_μ2]; rfl : μ2.2.2 = μ1.2.2).trans hr_μ1
  exact ok_some ⟨hI_μ2, hF_μ2⟩

set_option maxHeartbeats 4000000 in
set_option maxRecDepth 100000 in
theorem k_X2_add (a0 : Nat) (q0 : sh 0 a0 = (0, 1)) (a1 : Int64) (a3 : Int64) (μ : Mem) (hI_μ : IX μ) : ok (p_X2_add a0 a1 a3 μ) (fun q => IX q ∧ Fr [(2, 1, 2)] true μ q) := by
  have li0 : (0 : Int32).toInt = 0 := by decide
  have li1 : (1 : Int32).toInt = 1 := by decide
  have hF_μ : Fr [(2, 1, 2)] true μ μ := Fr.rf
  have hr_μ : μ.2.2 = μ.2.2 := rfl
  rw [p_X2_add_eq]
  have g1 := rgp q0 hI_μ
  refine ok_ite ?_ ?_
  · intro c2
    rw [ti_le] at c2
    try rw [TI.e (e := (Int32.ofNat ((sh 0 (a0 + 1)).2))) (n := ((sh 0 (a0 + 1)).2 : Int)) (TI.len (a0 + 1))] at c2
    exact ok_some ⟨hI_μ, hF_μ⟩
  · intro c2
    rw [ti_le] at c2
    try rw [TI.e (e := (Int32.ofNat ((sh 0 (a0 + 1)).2))) (n := ((sh 0 (a0 + 1)).2 : Int)) (TI.len (a0 + 1))] at c2
    refine ok_gd (inb_iff.mpr (by omega)) ?_
    refine ok_bv (fun μ3 e_μ3 => ?_)
    have hI_μ3 : IX μ3 := by rw [e_μ3]; exact IX_L hI_μ
    have hF_μ3 : Fr [(2, 1, 2)] true μ μ3 := by rw [e_μ3]; exact hF_μ
    have hr_μ3 : μ3.2.2 = μ.2.2 := (by rw [e_μ3]; rfl : μ3.2.2 = μ.2.2).trans hr_μ
    have g4 := rgp q0 hI_μ3
    have f5 : (μ3.1 a0 2).toInt = (μ.1 a0 2).toInt := congrArg Int32.toInt ((by rw [e_μ3]; rfl : μ3.1 a0 2 = μ.1 a0 2))
    have l7 := pl_eq q0
    refine ok_gd (inb_iff.mpr (by omega)) ?_
    refine ok_bv (fun μ6 e_μ6 => ?_)
    have hI_μ6 : IX μ6 := by rw [e_μ6]; exact IX_L hI_μ3
    have hF_μ6 : Fr [(2, 1, 2)] true μ μ6 := by rw [e_μ6]; exact hF_μ3
    have hr_μ6 : μ6.2.2 = μ.2.2 := (by rw [e_μ6]; rfl : μ6.2.2 = μ3.2.2).trans hr_μ3
    have g8 := rgp q0 hI_μ6
    have f9 : (μ6.1 a0 2).toInt = (μ3.1 a0 2).toInt := congrArg Int32.toInt ((by rw [e_μ6]; rfl : μ6.1 a0 2 = μ3.1 a0 2))
    refine ok_bv (fun μ10 e_μ10 => ?_)
    have hI_μ10 : IX μ10 := by rw [e_μ10]; exact IX_F hI_μ6 (rpp q0 (by (try rw [TI.e (e := ((μ6.1 a0 2) + (1 : Int32))) (n := ((μ6.1 a0 2).toInt + 1)) (TI.add TI.rf (TI.lit (by decide)) (by omega) (by omega))]); omega))
    have hF_μ10 : Fr [(2, 1, 2)] true μ μ10 := by rw [e_μ10]; exact Fr.putc (ci := 1) hF_μ6 (by decide +kernel) q0
    have v_μ10 : (μ10.1 a0 2).toInt = ((μ6.1 a0 2).toInt + 1) := by rw [e_μ10, sF_v]; exact TI.e (n := ((μ6.1 a0 2).toInt + 1)) (TI.add TI.rf (TI.lit (by decide)) (by omega) (by omega))
    have hr_μ10 : μ10.2.2 = μ.2.2 := (by rw [e_μ10]; rfl : μ10.2.2 = μ6.2.2).trans hr_μ6
    exact ok_some ⟨hI_μ10, hF_μ10⟩

set_option maxHeartbeats 4000000 in
set_option maxRecDepth 100000 in
theorem k_X2_stars_b28 {n4 : Nat} (K4 : Nat → Int32 → Int32 → Mem → Option (Int32 × Mem)) (hK4 : ∀ (z0 : Nat) (w0 : sh 0 z0 = (0, 1)) (z1 : Int32) (z2 : Int32) (μ1 : Mem), IX μ1 → (0 ≤ (z2).toInt ∧ 2147483648 - (z2).toInt < n4) → ok (K4 z0 z1 z2 μ1) (fun q => μ1 = q.2)) (a0 : Nat) (q0 : sh 0 a0 = (0, 1)) (a1 : Int32) (a2 : Int32) (μ : Mem) (hI_μ : IX μ) (hc : 0 ≤ (a2).toInt ∧ (a2).toInt < 200 ∧ 2147483648 - (a2).toInt < n4 + 1) : ok (p_X2_stars_b28 K4 a0 a1 a2 μ) (fun q => μ = q.2) := by
  have li0 : (0 : Int32).toInt = 0 := by decide
  have li1 : (1 : Int32).toInt = 1 := by decide
  have hF_μ : Fr [] true μ μ := Fr.rf
  have hr_μ : μ.2.2 = μ.2.2 := rfl
  rw [p_X2_stars_b28_eq]
  have lo_a1 := ti_lo a1
  have hi_a1 := ti_hi a1
  have lo_a2 := ti_lo a2
  have hi_a2 := ti_hi a2
  refine ok_bv (fun v5 ev5 => ?_)
  first | have tv5 : v5.toInt = (a2.toInt + 1) := (congrArg Int32.toInt ev5).trans (TI.e (n := (a2.toInt + 1)) (TI.add TI.rf (TI.lit (by decide)) (by omega) (by omega))) | have tv5 : v5.toInt ≤ a2.toInt + 1 := by rw [ev5]; exact ti_inc _ | skip
  exact ok_mono (hK4 a0 q0 a1 v5 μ hI_μ (by omega)) (fun q h => h)
set_option maxHeartbeats 4000000 in
set_option maxRecDepth 100000 in
theorem k_X2_stars_b4 : ∀ (n : Nat) (a0 : Nat) (q0 : sh 0 a0 = (0, 1)) (a1 : Int32) (a2 : Int32) (μ : Mem), IX μ → (0 ≤ (a2).toInt ∧ 2147483648 - (a2).toInt < n) → ok (p_X2_stars_b4 n a0 a1 a2 μ) (fun q => μ = q.2) := by
  have li0 : (0 : Int32).toInt = 0 := by decide
  have li1 : (1 : Int32).toInt = 1 := by decide
  have li4 : (4 : Int32).toInt = 4 := by decide
  intro n
  induction n with
  | zero => intro a0 q0 a1 a2 μ hI_μ hc; exact absurd hc (by have lo_a1 := ti_lo a1; have hi_a1 := ti_hi a1; have lo_a2 := ti_lo a2; have hi_a2 := ti_hi a2; omega)
  | succ n ih =>
    intro a0 q0 a1 a2 μ hI_μ hc
    have hF_μ : Fr [] true μ μ := Fr.rf
    have hr_μ : μ.2.2 = μ.2.2 := rfl
    rw [p_X2_stars_b4_s]
    have lo_a1 := ti_lo a1
    have hi_a1 := ti_hi a1
    have lo_a2 := ti_lo a2
    have hi_a2 := ti_hi a2
    have g1 := rgp q0 hI_μ
    refine ok_ite ?_ ?_
    · intro c2
      rw [ti_le] at c2
      exact ok_some rfl
    · intro c2
      rw [ti_le] at c2
      refine ok_gd (inb_iff.mpr (by omega)) ?_
      refine ok_ite ?_ ?_
      · intro c3
        rw [ti_eq] at c3
        refine ok_bv (fun v4 ev4 => ?_)
        first | have tv4 : v4.toInt = (a1.toInt + 1) := (congrArg Int32.toInt ev4).trans (TI.e (n := (a1.toInt + 1)) (TI.add TI.rf (TI.lit (by decide)) (by omega) (by omega))) | have tv4 : v4.toInt ≤ a1.toInt + 1 := by rw [ev4]; exact ti_inc _ | skip
        exact ok_mono (k_X2_stars_b28 _ ih a0 q0 v4 a2 μ hI_μ (by omega)) (fun q h => h)
      · intro c3
        rw [ti_eq] at c3
        exact ok_mono (k_X2_stars_b28 _ ih a0 q0 a1 a2 μ hI_μ (by omega)) (fun q h => h)
set_option maxHeartbeats 4000000 in
set_option maxRecDepth 100000 in
theorem k_X2_stars (a0 : Nat) (q0 : sh 0 a0 = (0, 1)) (μ : Mem) (hI_μ : IX μ) : ok (p_X2_stars a0 μ) (fun q => μ = q.2) := by
  have li0 : (0 : Int32).toInt = 0 := by decide
  have li1 : (1 : Int32).toInt = 1 := by decide
  have hF_μ : Fr [] true μ μ := Fr.rf
  have hr_μ : μ.2.2 = μ.2.2 := rfl
  rw [p_X2_stars_eq]
  obtain ⟨fu, hfu0, hfu⟩ := fuel_ex
  rw [hfu0]
  exact ok_mono (k_X2_stars_b4  fu a0 q0 (0 : Int32) (0 : Int32) μ hI_μ (by omega)) (fun q h => h)

set_option maxHeartbeats 4000000 in
set_option maxRecDepth 100000 in
theorem k_X4_readPart {nE : Nat} (RE : Nat → Int32 → Int32 → Mem → Option Mem) (hRE : ∀ (z1 : Nat) (w1 : sh 0 z1 = (0, 1)) (z2 : Int32) (z3 : Int32) (μ1 : Mem), IX μ1 → (0 ≤ (z3).toInt ∧ (z3).toInt ≤ 31 ∧ 31 - (z3).toInt < nE) → ok (RE z1 z2 z3 μ1) (fun q => IX q ∧ Fr [(0, 16, 2), (0, 16, 3), (2, 1, 2)] true μ1 q)) (a1 : Nat) (q1 : sh 0 a1 = (0, 1)) (a2 : Int32) (a3 : Int32) (μ : Mem) (hI_μ : IX μ) (hc : 0 ≤ (a3).toInt ∧ (a3).toInt ≤ 31 ∧ 31 - (a3).toInt < nE + 1) : ok (p_X4_readPart RE a1 a2 a3 μ) (fun q => IX q ∧ Fr [(0, 16, 2), (0, 16, 3), (2, 1, 2)] true μ q) := by
  have li0 : (0 : Int32).toInt = 0 := by decide
  have li1 : (1 : Int32).toInt = 1 := by decide
  have li30 : (30 : Int32).toInt = 30 := by decide
  have li42 : (42 : Int32).toInt = 42 := by decide
  have li44 : (44 : Int32).toInt = 44 := by decide
  have li91 : (91 : Int32).toInt = 91 := by decide
  have li93 : (93 : Int32).toInt = 93 := by decide
  have hF_μ : Fr [(0, 16, 2), (0, 16, 3), (2, 1, 2)] true μ μ := Fr.rf
  have hr_μ : μ.2.2 = μ.2.2 := rfl
  rw [p_X4_readPart_eq]
  have lo_a2 := ti_lo a2
  have hi_a2 := ti_hi a2
  have lo_a3 := ti_lo a3
  have hi_a3 := ti_hi a3
  refine ok_bd (k_X4_isWell  μ hI_μ) ?_
  rintro r2 μ1 ⟨hq9, p_r2⟩
  obtain rfl : μ = μ1 := hq9
  dsimp only at p_r2
  have lo_r2 := ti_lo r2
  have hi_r2 := ti_hi r2
  refine ok_ite ?_ ?_
  · intro c3
    rw [ti_eq] at c3
    exact ok_some ⟨hI_μ, hF_μ⟩
  · intro c3
    rw [ti_eq] at c3
    refine ok_bd (k_X4_here  μ hI_μ) ?_
    rintro r5 μ4 hq9
    obtain rfl : μ = μ4 := hq9
    have lo_r5 := ti_lo r5
    have hi_r5 := ti_hi r5
    have g6 := rgp q1 hI_μ
    refine ok_ite ?_ ?_
    · intro c7
      rw [ti_le] at c7
      have g8 := ti_lo (μ.1 16 2)
      have g8h := ti_hi (μ.1 16 2)
      refine ok_bw (k_X4_fail (μ.1 16 2) μ hI_μ) ?_
      rintro μ9 ⟨hI_μ9, hC_μ9⟩
      have hF_μ9 : Fr [(0, 16, 2), (0, 16, 3), (2, 1, 2)] true μ μ9 := hF_μ.trans (hC_μ9.mono (by decide +kernel) (by decide))
      have hr_μ9 : μ9.2.2 = μ.2.2 := (hC_μ9.2 rfl : μ9.2.2 = μ.2.2).trans hr_μ
      try rw [hr_μ9]
      exact ok_some ⟨hI_μ9, hF_μ9⟩
    · intro c7
      rw [ti_le] at c7
      refine ok_ite ?_ ?_
      · intro c11
        rw [ti_le] at c11
        refine ok_ite ?_ ?_
        · intro c12
          rw [ti_eq] at c12
          have g13 := ti_lo (μ.1 16 2)
          have g13h := ti_hi (μ.1 16 2)
          refine ok_bv (fun μ14 e_μ14 => ?_)
          have hI_μ14 : IX μ14 := by rw [e_μ14]; exact IX_F hI_μ (rt_16_2 _)
          have hF_μ14 : Fr [(0, 16, 2), (0, 16, 3), (2, 1, 2)] true μ μ14 := by rw [e_μ14]; exact Fr.put hF_μ (by decide +kernel)
          have hr_μ14 : μ14.2.2 = μ.2.2 := (by rw [e_μ14]; rfl : μ14.2.2 = μ.2.2).trans hr_μ
          try rw [hr_μ14]
          refine ok_bw (k_X2_add a1 q1 (8589934592 : Int64) (0 : Int64) μ14 hI_μ14) ?_
          rintro μ15 ⟨hI_μ15, hC_μ15⟩
          have hF_μ15 : Fr [(0, 16, 2), (0, 16, 3), (2, 1, 2)] true μ μ15 := hF_μ14.trans (hC_μ15.mono (by decide +kernel) (by decide))
          have hr_μ15 : μ15.2.2 = μ.2.2 := (hC_μ15.2 rfl : μ15.2.2 = μ14.2.2).trans hr_μ14
          try rw [hr_μ15]
          refine ok_bw (hRE a1 q1 a2 (a3 + (1 : Int32)) μ15 hI_μ15 (by (try rw [hr_μ15]); (try rw [TI.e (e := (a3 + (1 : Int32))) (n := (a3.toInt + 1)) (TI.add TI.rf (TI.lit (by decide)) (by omega) (by omega))]); omega)) ?_
          rintro μ17 ⟨hI_μ17, hC_μ17⟩
          have hF_μ17 : Fr [(0, 16, 2), (0, 16, 3), (2, 1, 2)] true μ μ17 := hF_μ15.trans (hC_μ17.mono (by decide +kernel) (by decide))
          have hr_μ17 : μ17.2.2 = μ.2.2 := (hC_μ17.2 rfl : μ17.2.2 = μ15.2.2).trans hr_μ15
          try rw [hr_μ17]
          refine ok_bd (k_X4_take (44 : Int32) μ17 hI_μ17) ?_
          rintro r20 μ19 ⟨hI_μ19, hC_μ19, p_μ19⟩
          have hI_μ19 : IX μ19 := hI_μ19
          have hC_μ19 : Fr [(0, 16, 2), (0, 16, 3)] true μ17 μ19 := hC_μ19
          dsimp only at p_μ19
          have lo_r20 := ti_lo r20
          have hi_r20 := ti_hi r20
          have hF_μ19 : Fr [(0, 16, 2), (0, 16, 3), (2, 1, 2)] true μ μ19 := hF_μ17.trans (hC_μ19.mono (by decide +kernel) (by decide))
          have hr_μ19 : μ19.2.2 = μ.2.2 := (hC_μ19.2 rfl : μ19.2.2 = μ17.2.2).trans hr_μ17
          try rw [hr_μ19]
          refine ok_bw (hRE a1 q1 a2 (a3 + (1 : Int32)) μ19 hI_μ19 (by (try rw [hr_μ19]); (try rw [TI.e (e := (a3 + (1 : Int32))) (n := (a3.toInt + 1)) (TI.add TI.rf (TI.lit (by decide)) (by omega) (by omega))]); omega)) ?_
          rintro μ21 ⟨hI_μ21, hC_μ21⟩
          have hF_μ21 : Fr [(0, 16, 2), (0, 16, 3), (2, 1, 2)] true μ μ21 := hF_μ19.trans (hC_μ21.mono (by decide +kernel) (by decide))
          have hr_μ21 : μ21.2.2 = μ.2.2 := (hC_μ21.2 rfl : μ21.2.2 = μ19.2.2).trans hr_μ19
          try rw [hr_μ21]
          refine ok_bd (k_X4_take (93 : Int32) μ21 hI_μ21) ?_
          rintro r24 μ23 ⟨hI_μ23, hC_μ23, p_μ23⟩
          have hI_μ23 : IX μ23 := hI_μ23
          have hC_μ23 : Fr [(0, 16, 2), (0, 16, 3)] true μ21 μ23 := hC_μ23
          dsimp only at p_μ23
          have lo_r24 := ti_lo r24
          have hi_r24 := ti_hi r24
          have hF_μ23 : Fr [(0, 16, 2), (0, 16, 3), (2, 1, 2)] true μ μ23 := hF_μ21.trans (hC_μ23.mono (by decide +kernel) (by decide))
          have hr_μ23 : μ23.2.2 = μ.2.2 := (hC_μ23.2 rfl : μ23.2.2 = μ21.2.2).trans hr_μ21
          try rw [hr_μ23]
          exact ok_some ⟨hI_μ23, hF_μ23⟩
        · intro c12
          rw [ti_eq] at c12
          refine ok_ite ?_ ?_
          · intro c25
            rw [ti_eq] at c25
            refine ok_ite ?_ ?_
            · intro c26
              rw [ti_eq] at c26
              refine ok_bd (k_X2_stars a1 q1 μ hI_μ) ?_
              rintro r28 μ27 hq9
              obtain rfl : μ = μ27 := hq9
              have lo_r28 := ti_lo r28
              have hi_r28 := ti_hi r28
              refine ok_ite ?_ ?_
              · intro c29
                rw [ti_le] at c29
                have g30 := ti_lo (μ.1 16 2)
                have g30h := ti_hi (μ.1 16 2)
                refine ok_bw (k_X4_fail (μ.1 16 2) μ hI_μ) ?_
                rintro μ31 ⟨hI_μ31, hC_μ31⟩
                have hF_μ31 : Fr [(0, 16, 2), (0, 16, 3), (2, 1, 2)] true μ μ31 := hF_μ.trans (hC_μ31.mono (by decide +kernel) (by decide))
                have hr_μ31 : μ31.2.2 = μ.2.2 := (hC_μ31.2 rfl : μ31.2.2 = μ.2.2).trans hr_μ
                try rw [hr_μ31]
                exact ok_some ⟨hI_μ31, hF_μ31⟩
              · intro c29
                rw [ti_le] at c29
                have g33 := ti_lo (μ.1 16 2)
                have g33h := ti_hi (μ.1 16 2)
                refine ok_bv (fun μ34 e_μ34 => ?_)
                have hI_μ34 : IX μ34 := by rw [e_μ34]; exact IX_F hI_μ (rt_16_2 _)
                have hF_μ34 : Fr [(0, 16, 2), (0, 16, 3), (2, 1, 2)] true μ μ34 := by rw [e_μ34]; exact Fr.put hF_μ (by decide +kernel)
                have hr_μ34 : μ34.2.2 = μ.2.2 := (by rw [e_μ34]; rfl : μ34.2.2 = μ.2.2).trans hr_μ
                try rw [hr_μ34]
                refine ok_bw (k_X2_add a1 q1 (17179869184 : Int64) (0 : Int64) μ34 hI_μ34) ?_
                rintro μ35 ⟨hI_μ35, hC_μ35⟩
                have hF_μ35 : Fr [(0, 16, 2), (0, 16, 3), (2, 1, 2)] true μ μ35 := hF_μ34.trans (hC_μ35.mono (by decide +kernel) (by decide))
                have hr_μ35 : μ35.2.2 = μ.2.2 := (hC_μ35.2 rfl : μ35.2.2 = μ34.2.2).trans hr_μ34
                try rw [hr_μ35]
                exact ok_some ⟨hI_μ35, hF_μ35⟩
            · intro c26
              rw [ti_eq] at c26
              have g37 := ti_lo (μ.1 16 2)
              have g37h := ti_hi (μ.1 16 2)
              refine ok_bw (k_X4_fail (μ.1 16 2) μ hI_μ) ?_
              rintro μ38 ⟨hI_μ38, hC_μ38⟩
              have hF_μ38 : Fr [(0, 16, 2), (0, 16, 3), (2, 1, 2)] true μ μ38 := hF_μ.trans (hC_μ38.mono (by decide +kernel) (by decide))
              have hr_μ38 : μ38.2.2 = μ.2.2 := (hC_μ38.2 rfl : μ38.2.2 = μ.2.2).trans hr_μ
              try rw [hr_μ38]
              exact ok_some ⟨hI_μ38, hF_μ38⟩
          · intro c25
            rw [ti_eq] at c25
            refine ok_bd (k_X4_readNumber  μ hI_μ) ?_
            rintro r41 μ40 ⟨hI_μ40, hC_μ40⟩
            have hI_μ40 : IX μ40 := hI_μ40
            have hC_μ40 : Fr [(0, 16, 2), (0, 16, 3)] true μ μ40 := hC_μ40
            have hF_μ40 : Fr [(0, 16, 2), (0, 16, 3), (2, 1, 2)] true μ μ40 := hF_μ.trans (hC_μ40.mono (by decide +kernel) (by decide))
            have hr_μ40 : μ40.2.2 = μ.2.2 := (hC_μ40.2 rfl : μ40.2.2 = μ.2.2).trans hr_μ
            try rw [hr_μ40]
            refine ok_bw (k_X2_add a1 q1 r41 (0 : Int64) μ40 hI_μ40) ?_
            rintro μ42 ⟨hI_μ42, hC_μ42⟩
            have hF_μ42 : Fr [(0, 16, 2), (0, 16, 3), (2, 1, 2)] true μ μ42 := hF_μ40.trans (hC_μ42.mono (by decide +kernel) (by decide))
            have hr_μ42 : μ42.2.2 = μ.2.2 := (hC_μ42.2 rfl : μ42.2.2 = μ40.2.2).trans hr_μ40
            try rw [hr_μ42]
            exact ok_some ⟨hI_μ42, hF_μ42⟩
      · intro c11
        rw [ti_le] at c11
        have g44 := ti_lo (μ.1 16 2)
        have g44h := ti_hi (μ.1 16 2)
        refine ok_bw (k_X4_fail (μ.1 16 2) μ hI_μ) ?_
        rintro μ45 ⟨hI_μ45, hC_μ45⟩
        have hF_μ45 : Fr [(0, 16, 2), (0, 16, 3), (2, 1, 2)] true μ μ45 := hF_μ.trans (hC_μ45.mono (by decide +kernel) (by decide))
        have hr_μ45 : μ45.2.2 = μ.2.2 := (hC_μ45.2 rfl : μ45.2.2 = μ.2.2).trans hr_μ
        try rw [hr_μ45]
        exact ok_some ⟨hI_μ45, hF_μ45⟩
theorem kr_X4_readPart : ∀ (n : Nat) (a1 : Nat) (q1 : sh 0 a1 = (0, 1)) (a2 : Int32) (a3 : Int32) (μ : Mem), IX μ → (0 ≤ (a3).toInt ∧ (a3).toInt ≤ 31 ∧ 31 - (a3).toInt < n) → ok (pr_X4_readPart n a1 a2 a3 μ) (fun q => IX q ∧ Fr [(0, 16, 2), (0, 16, 3), (2, 1, 2)] true μ q) := by
  intro n
  induction n with
  | zero => intro a1 q1 a2 a3 μ hI hc; exact absurd hc (by omega)
  | succ n ih =>
    intro a1 q1 a2 a3 μ hI hc
    rw [pr_X4_readPart_s]
    exact k_X4_readPart (nE := n) (pr_X4_readPart n) ih a1 q1 a2 a3 μ hI (by omega)

set_option maxHeartbeats 4000000 in
set_option maxRecDepth 100000 in
theorem k_X4_takeEnd  (μ : Mem) (hI_μ : IX μ) : ok (p_X4_takeEnd  μ) (fun q => IX q ∧ Fr [(0, 16, 3)] true μ q) := by
  have li0 : (0 : Int32).toInt = 0 := by decide
  have li1 : (1 : Int32).toInt = 1 := by decide
  have hF_μ : Fr [(0, 16, 3)] true μ μ := Fr.rf
  have hr_μ : μ.2.2 = μ.2.2 := rfl
  rw [p_X4_takeEnd_eq]
  refine ok_bd (k_X4_isWell  μ hI_μ) ?_
  rintro r2 μ1 ⟨hq9, p_r2⟩
  obtain rfl : μ = μ1 := hq9
  dsimp only at p_r2
  have lo_r2 := ti_lo r2
  have hi_r2 := ti_hi r2
  refine ok_ite ?_ ?_
  · intro c3
    rw [ti_eq] at c3
    exact ok_some ⟨hI_μ, hF_μ⟩
  · intro c3
    rw [ti_eq] at c3
    have g4 := ti_lo (μ.1 16 2)
    have g4h := ti_hi (μ.1 16 2)
    have g5 := rg_16_1 hI_μ
    refine ok_ite ?_ ?_
    · intro c6
      rw [ti_le] at c6
      exact ok_some ⟨hI_μ, hF_μ⟩
    · intro c6
      rw [ti_le] at c6
      refine ok_bw (k_X4_fail (μ.1 16 2) μ hI_μ) ?_
      rintro μ7 ⟨hI_μ7, hC_μ7⟩
      have hF_μ7 : Fr [(0, 16, 3)] true μ μ7 := hF_μ.trans (hC_μ7.mono (by decide +kernel) (by decide))
      have hr_μ7 : μ7.2.2 = μ.2.2 := (hC_μ7.2 rfl : μ7.2.2 = μ.2.2).trans hr_μ
      try rw [hr_μ7]
      exact ok_some ⟨hI_μ7, hF_μ7⟩
