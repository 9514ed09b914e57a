set_option maxHeartbeats 4000000 in
set_option maxRecDepth 100000 in
theorem k_X6_step (a1 : Int32) (μ : Mem) (hI_μ : IX μ) (hc : (μ.1 (sel 0 (μ.2.2 151 8)) 4).toInt < 1000000) : ok (p_X6_step a1 μ) (fun q => IX q ∧ Fr [(0, 30, 5), (0, 151, 5), (0, 151, 6), (1, 33, 0), (1, 34, 0), (1, 154, 0), (1, 155, 0), (2, 0, 0), (2, 0, 1), (2, 0, 2), (2, 0, 3), (2, 0, 4), (3, 0, 2)] true μ q ∧ ((q.1 (sel 0 (q.2.2 151 8)) 4).toInt ≤ (μ.1 (sel 0 (μ.2.2 151 8)) 4).toInt + 1)) := by
  have li0 : (0 : Int32).toInt = 0 := by decide
  have li1 : (1 : Int32).toInt = 1 := by decide
  have li2 : (2 : Int32).toInt = 2 := by decide
  have li3 : (3 : Int32).toInt = 3 := by decide
  have li4 : (4 : Int32).toInt = 4 := by decide
  have li5 : (5 : Int32).toInt = 5 := by decide
  have li6 : (6 : Int32).toInt = 6 := by decide
  have li7 : (7 : Int32).toInt = 7 := by decide
  have li8 : (8 : Int32).toInt = 8 := by decide
  have li9 : (9 : Int32).toInt = 9 := by decide
  have li10 : (10 : Int32).toInt = 10 := by decide
  have li11 : (11 : Int32).toInt = 11 := by decide
  have hF_μ : Fr [(0, 30, 5), (0, 151, 5), (0, 151, 6), (1, 33, 0), (1, 34, 0), (1, 154, 0), (1, 155, 0), (2, 0, 0), (2, 0, 1), (2, 0, 2), (2, 0, 3), (2, 0, 4), (3, 0, 2)] true μ μ := Fr.rf
  have hr_μ : μ.2.2 = μ.2.2 := rfl
  rw [p_X6_step_eq]
  have lo_a1 := ti_lo a1
  have hi_a1 := ti_hi a1
  have g1 := rgc_0_4 (sel_0 (μ.2.2 151 8)) hI_μ
  refine ok_bd (k_X5_cell a1 (2 : Int32) μ hI_μ (by omega)) ?_
  rintro r3 μ2 hq9
  obtain rfl : μ = μ2 := hq9
  have lo_r3 := ti_lo r3
  have hi_r3 := ti_hi r3
  refine ok_bd (k_X5_cell a1 (0 : Int32) μ hI_μ (by omega)) ?_
  rintro r5 μ4 hq9
  obtain rfl : μ = μ4 := hq9
  have lo_r5 := ti_lo r5
  have hi_r5 := ti_hi r5
  refine ok_ite ?_ ?_
  · intro c7
    rw [ti_eq] at c7
    refine ok_bd (k_X6_num a1 (0 : Int32) μ hI_μ) ?_
    rintro r9 μ8 hq9
    obtain rfl : μ = μ8 := hq9
    refine ok_bd (k_X6_num a1 (1 : Int32) μ hI_μ) ?_
    rintro r11 μ10 hq9
    obtain rfl : μ = μ10 := hq9
    refine ok_bw (k_X6_goOn a1 (s_X0_apply r3 r9 r11) μ hI_μ) ?_
    rintro μ12 ⟨hI_μ12, hC_μ12⟩
    have hF_μ12 : Fr [(0, 30, 5), (0, 151, 5), (0, 151, 6), (1, 33, 0), (1, 34, 0), (1, 154, 0), (1, 155, 0), (2, 0, 0), (2, 0, 1), (2, 0, 2), (2, 0, 3), (2, 0, 4), (3, 0, 2)] true μ μ12 := hF_μ.trans (hC_μ12.mono (by decide +kernel) (by decide))
    have hr_μ12 : μ12.2.2 = μ.2.2 := (hC_μ12.2 rfl : μ12.2.2 = μ.2.2).trans hr_μ
    try rw [hr_μ12]
    have g14 := rgc_0_4 (sel_0 (μ.2.2 151 8)) hI_μ12
    have f15 : (μ12.1 (sel 0 (μ.2.2 151 8)) 4).toInt = (μ.1 (sel 0 (μ.2.2 151 8)) 4).toInt := congrArg Int32.toInt (hC_μ12.1 _ _ (cls_free (by decide +kernel) (sel_0 (μ.2.2 151 8))))
    exact ok_some ⟨hI_μ12, hF_μ12, by dsimp only; (try simp only [hr_μ12]); omega⟩
  intro c7
  rw [ti_eq] at c7
  refine ok_ite ?_ ?_
  · intro c16
    rw [ti_eq] at c16
    refine ok_bd (k_X6_num a1 (0 : Int32) μ hI_μ) ?_
    rintro r18 μ17 hq9
    obtain rfl : μ = μ17 := hq9
    refine ok_bw (k_X6_goOn a1 (s_X0_turn (36 : Int32) r18) μ hI_μ) ?_
    rintro μ19 ⟨hI_μ19, hC_μ19⟩
    have hF_μ19 : Fr [(0, 30, 5), (0, 151, 5), (0, 151, 6), (1, 33, 0), (1, 34, 0), (1, 154, 0), (1, 155, 0), (2, 0, 0), (2, 0, 1), (2, 0, 2), (2, 0, 3), (2, 0, 4), (3, 0, 2)] true μ μ19 := hF_μ.trans (hC_μ19.mono (by decide +kernel) (by decide))
    have hr_μ19 : μ19.2.2 = μ.2.2 := (hC_μ19.2 rfl : μ19.2.2 = μ.2.2).trans hr_μ
    try rw [hr_μ19]
    have g21 := rgc_0_4 (sel_0 (μ.2.2 151 8)) hI_μ19
    have f22 : (μ19.1 (sel 0 (μ.2.2 151 8)) 4).toInt = (μ.1 (sel 0 (μ.2.2 151 8)) 4).toInt := congrArg Int32.toInt (hC_μ19.1 _ _ (cls_free (by decide +kernel) (sel_0 (μ.2.2 151 8))))
    exact ok_some ⟨hI_μ19, hF_μ19, by dsimp only; (try simp only [hr_μ19]); omega⟩
  intro c16
  rw [ti_eq] at c16
  refine ok_ite ?_ ?_
  · intro c23
    rw [ti_eq] at c23
    refine ok_bd (k_X6_num a1 (0 : Int32) μ hI_μ) ?_
    rintro r25 μ24 hq9
    obtain rfl : μ = μ24 := hq9
    refine ok_bw (k_X6_goOn a1 (s_X0_turn (94 : Int32) r25) μ hI_μ) ?_
    rintro μ26 ⟨hI_μ26, hC_μ26⟩
    have hF_μ26 : Fr [(0, 30, 5), (0, 151, 5), (0, 151, 6), (1, 33, 0), (1, 34, 0), (1, 154, 0), (1, 155, 0), (2, 0, 0), (2, 0, 1), (2, 0, 2), (2, 0, 3), (2, 0, 4), (3, 0, 2)] true μ μ26 := hF_μ.trans (hC_μ26.mono (by decide +kernel) (by decide))
    have hr_μ26 : μ26.2.2 = μ.2.2 := (hC_μ26.2 rfl : μ26.2.2 = μ.2.2).trans hr_μ
    try rw [hr_μ26]
    have g28 := rgc_0_4 (sel_0 (μ.2.2 151 8)) hI_μ26
    have f29 : (μ26.1 (sel 0 (μ.2.2 151 8)) 4).toInt = (μ.1 (sel 0 (μ.2.2 151 8)) 4).toInt := congrArg Int32.toInt (hC_μ26.1 _ _ (cls_free (by decide +kernel) (sel_0 (μ.2.2 151 8))))
    exact ok_some ⟨hI_μ26, hF_μ26, by dsimp only; (try simp only [hr_μ26]); omega⟩
  intro c23
  rw [ti_eq] at c23
  refine ok_ite ?_ ?_
  · intro c30
    rw [ti_eq] at c30
    refine ok_bd (k_X6_num a1 (0 : Int32) μ hI_μ) ?_
    rintro r32 μ31 hq9
    obtain rfl : μ = μ31 := hq9
    refine ok_bw (k_X6_goOn a1 (s_X0_turn (35 : Int32) r32) μ hI_μ) ?_
    rintro μ33 ⟨hI_μ33, hC_μ33⟩
    have hF_μ33 : Fr [(0, 30, 5), (0, 151, 5), (0, 151, 6), (1, 33, 0), (1, 34, 0), (1, 154, 0), (1, 155, 0), (2, 0, 0), (2, 0, 1), (2, 0, 2), (2, 0, 3), (2, 0, 4), (3, 0, 2)] true μ μ33 := hF_μ.trans (hC_μ33.mono (by decide +kernel) (by decide))
    have hr_μ33 : μ33.2.2 = μ.2.2 := (hC_μ33.2 rfl : μ33.2.2 = μ.2.2).trans hr_μ
    try rw [hr_μ33]
    have g35 := rgc_0_4 (sel_0 (μ.2.2 151 8)) hI_μ33
    have f36 : (μ33.1 (sel 0 (μ.2.2 151 8)) 4).toInt = (μ.1 (sel 0 (μ.2.2 151 8)) 4).toInt := congrArg Int32.toInt (hC_μ33.1 _ _ (cls_free (by decide +kernel) (sel_0 (μ.2.2 151 8))))
    exact ok_some ⟨hI_μ33, hF_μ33, by dsimp only; (try simp only [hr_μ33]); omega⟩
  intro c30
  rw [ti_eq] at c30
  refine ok_ite ?_ ?_
  · intro c37
    rw [ti_eq] at c37
    refine ok_bd (k_X6_operand a1 (0 : Int32) μ hI_μ) ?_
    rintro r39 μ38 hq9
    obtain rfl : μ = μ38 := hq9
    refine ok_bd (k_X8_firstOf r39 μ hI_μ) ?_
    rintro r41 μ40 hq9
    obtain rfl : μ = μ40 := hq9
    refine ok_bw (k_X6_goOn a1 r41 μ hI_μ) ?_
    rintro μ42 ⟨hI_μ42, hC_μ42⟩
    have hF_μ42 : Fr [(0, 30, 5), (0, 151, 5), (0, 151, 6), (1, 33, 0), (1, 34, 0), (1, 154, 0), (1, 155, 0), (2, 0, 0), (2, 0, 1), (2, 0, 2), (2, 0, 3), (2, 0, 4), (3, 0, 2)] true μ μ42 := hF_μ.trans (hC_μ42.mono (by decide +kernel) (by decide))
    have hr_μ42 : μ42.2.2 = μ.2.2 := (hC_μ42.2 rfl : μ42.2.2 = μ.2.2).trans hr_μ
    try rw [hr_μ42]
    have g44 := rgc_0_4 (sel_0 (μ.2.2 151 8)) hI_μ42
    have f45 : (μ42.1 (sel 0 (μ.2.2 151 8)) 4).toInt = (μ.1 (sel 0 (μ.2.2 151 8)) 4).toInt := congrArg Int32.toInt (hC_μ42.1 _ _ (cls_free (by decide +kernel) (sel_0 (μ.2.2 151 8))))
    exact ok_some ⟨hI_μ42, hF_μ42, by dsimp only; (try simp only [hr_μ42]); omega⟩
  intro c37
  rw [ti_eq] at c37
  refine ok_ite ?_ ?_
  · intro c46
    rw [ti_eq] at c46
    refine ok_bd (k_X6_operand a1 (0 : Int32) μ hI_μ) ?_
    rintro r48 μ47 hq9
    obtain rfl : μ = μ47 := hq9
    refine ok_bd (k_X8_secondOf r48 μ hI_μ) ?_
    rintro r50 μ49 hq9
    obtain rfl : μ = μ49 := hq9
    refine ok_bw (k_X6_goOn a1 r50 μ hI_μ) ?_
    rintro μ51 ⟨hI_μ51, hC_μ51⟩
    have hF_μ51 : Fr [(0, 30, 5), (0, 151, 5), (0, 151, 6), (1, 33, 0), (1, 34, 0), (1, 154, 0), (1, 155, 0), (2, 0, 0), (2, 0, 1), (2, 0, 2), (2, 0, 3), (2, 0, 4), (3, 0, 2)] true μ μ51 := hF_μ.trans (hC_μ51.mono (by decide +kernel) (by decide))
    have hr_μ51 : μ51.2.2 = μ.2.2 := (hC_μ51.2 rfl : μ51.2.2 = μ.2.2).trans hr_μ
    try rw [hr_μ51]
    have g53 := rgc_0_4 (sel_0 (μ.2.2 151 8)) hI_μ51
    have f54 : (μ51.1 (sel 0 (μ.2.2 151 8)) 4).toInt = (μ.1 (sel 0 (μ.2.2 151 8)) 4).toInt := congrArg Int32.toInt (hC_μ51.1 _ _ (cls_free (by decide +kernel) (sel_0 (μ.2.2 151 8))))
    exact ok_some ⟨hI_μ51, hF_μ51, by dsimp only; (try simp only [hr_μ51]); omega⟩
  intro c46
  rw [ti_eq] at c46
  refine ok_ite ?_ ?_
  · intro c55
    rw [ti_eq] at c55
    refine ok_bd (k_X6_num a1 (0 : Int32) μ hI_μ) ?_
    rintro r57 μ56 hq9
    obtain rfl : μ = μ56 := hq9
    refine ok_ite ?_ ?_
    · intro c58
      rw [ti_eq] at c58
      refine ok_bd (k_X5_cell a1 (4 : Int32) μ hI_μ (by omega)) ?_
      rintro r60 μ59 hq9
      obtain rfl : μ = μ59 := hq9
      have lo_r60 := ti_lo r60
      have hi_r60 := ti_hi r60
      refine ok_bw (k_X6_enter r60 μ hI_μ) ?_
      rintro μ61 ⟨hI_μ61, hC_μ61⟩
      have hF_μ61 : Fr [(0, 30, 5), (0, 151, 5), (0, 151, 6), (1, 33, 0), (1, 34, 0), (1, 154, 0), (1, 155, 0), (2, 0, 0), (2, 0, 1), (2, 0, 2), (2, 0, 3), (2, 0, 4), (3, 0, 2)] true μ μ61 := hF_μ.trans (hC_μ61.mono (by decide +kernel) (by decide))
      have hr_μ61 : μ61.2.2 = μ.2.2 := (hC_μ61.2 rfl : μ61.2.2 = μ.2.2).trans hr_μ
      try rw [hr_μ61]
      have g63 := rgc_0_4 (sel_0 (μ.2.2 151 8)) hI_μ61
      have f64 : (μ61.1 (sel 0 (μ.2.2 151 8)) 4).toInt = (μ.1 (sel 0 (μ.2.2 151 8)) 4).toInt := congrArg Int32.toInt (hC_μ61.1 _ _ (cls_free (by decide +kernel) (sel_0 (μ.2.2 151 8))))
      exact ok_some ⟨hI_μ61, hF_μ61, by dsimp only; (try simp only [hr_μ61]); omega⟩
    · intro c58
      rw [ti_eq] at c58
      refine ok_bd (k_X5_cell a1 (3 : Int32) μ hI_μ (by omega)) ?_
      rintro r66 μ65 hq9
      obtain rfl : μ = μ65 := hq9
      have lo_r66 := ti_lo r66
      have hi_r66 := ti_hi r66
      refine ok_bw (k_X6_enter r66 μ hI_μ) ?_
      rintro μ67 ⟨hI_μ67, hC_μ67⟩
      have hF_μ67 : Fr [(0, 30, 5), (0, 151, 5), (0, 151, 6), (1, 33, 0), (1, 34, 0), (1, 154, 0), (1, 155, 0), (2, 0, 0), (2, 0, 1), (2, 0, 2), (2, 0, 3), (2, 0, 4), (3, 0, 2)] true μ μ67 := hF_μ.trans (hC_μ67.mono (by decide +kernel) (by decide))
      have hr_μ67 : μ67.2.2 = μ.2.2 := (hC_μ67.2 rfl : μ67.2.2 = μ.2.2).trans hr_μ
      try rw [hr_μ67]
      have g69 := rgc_0_4 (sel_0 (μ.2.2 151 8)) hI_μ67
      have f70 : (μ67.1 (sel 0 (μ.2.2 151 8)) 4).toInt = (μ.1 (sel 0 (μ.2.2 151 8)) 4).toInt := congrArg Int32.toInt (hC_μ67.1 _ _ (cls_free (by decide +kernel) (sel_0 (μ.2.2 151 8))))
      exact ok_some ⟨hI_μ67, hF_μ67, by dsimp only; (try simp only [hr_μ67]); omega⟩
  intro c55
  rw [ti_eq] at c55
  refine ok_ite ?_ ?_
  · intro c71
    rw [ti_eq] at c71
    refine ok_bd (k_X6_num a1 (0 : Int32) μ hI_μ) ?_
    rintro r73 μ72 hq9
    obtain rfl : μ = μ72 := hq9
    refine ok_bw (k_X1_writeOut (sel 0 (μ.2.2 151 8)) (sel_0 _) r73 μ hI_μ (by omega)) ?_
    rintro μ74 ⟨hI_μ74, hC_μ74, p_μ74⟩
    have hF_μ74 : Fr [(0, 30, 5), (0, 151, 5), (0, 151, 6), (1, 33, 0), (1, 34, 0), (1, 154, 0), (1, 155, 0), (2, 0, 0), (2, 0, 1), (2, 0, 2), (2, 0, 3), (2, 0, 4), (3, 0, 2)] true μ μ74 := hF_μ.trans (hC_μ74.mono (by decide +kernel) (by decide))
    have hr_μ74 : μ74.2.2 = μ.2.2 := (hC_μ74.2 rfl : μ74.2.2 = μ.2.2).trans hr_μ
    try rw [hr_μ74]
    try simp only [hr_μ74, hr_μ] at p_μ74
    refine ok_bw (k_X6_goOn a1 (0 : Int64) μ74 hI_μ74) ?_
    rintro μ76 ⟨hI_μ76, hC_μ76⟩
    have hF_μ76 : Fr [(0, 30, 5), (0, 151, 5), (0, 151, 6), (1, 33, 0), (1, 34, 0), (1, 154, 0), (1, 155, 0), (2, 0, 0), (2, 0, 1), (2, 0, 2), (2, 0, 3), (2, 0, 4), (3, 0, 2)] true μ μ76 := hF_μ74.trans (hC_μ76.mono (by decide +kernel) (by decide))
    have hr_μ76 : μ76.2.2 = μ.2.2 := (hC_μ76.2 rfl : μ76.2.2 = μ74.2.2).trans hr_μ74
    try rw [hr_μ76]
    have g78 := rgc_0_4 (sel_0 (μ.2.2 151 8)) hI_μ76
    exact ok_some ⟨hI_μ76, hF_μ76, by dsimp only; (try simp only [hr_μ76]); omega⟩
  intro c71
  rw [ti_eq] at c71
  refine ok_ite ?_ ?_
  · intro c79
    rw [ti_eq] at c79
    refine ok_bd (k_X6_num a1 (0 : Int32) μ hI_μ) ?_
    rintro r81 μ80 hq9
    obtain rfl : μ = μ80 := hq9
    refine ok_bd (k_X1_put (sel 0 (μ.2.2 151 8)) (sel_0 _) r3 (s_X0_stored r3 r81) μ hI_μ) ?_
    rintro r83 μ82 ⟨hI_μ82, hC_μ82⟩
    have hI_μ82 : IX μ82 := hI_μ82
    have hC_μ82 : Fr [(3, 0, 2)] true μ μ82 := hC_μ82
    have hF_μ82 : Fr [(0, 30, 5), (0, 151, 5), (0, 151, 6), (1, 33, 0), (1, 34, 0), (1, 154, 0), (1, 155, 0), (2, 0, 0), (2, 0, 1), (2, 0, 2), (2, 0, 3), (2, 0, 4), (3, 0, 2)] true μ μ82 := hF_μ.trans (hC_μ82.mono (by decide +kernel) (by decide))
    have hr_μ82 : μ82.2.2 = μ.2.2 := (hC_μ82.2 rfl : μ82.2.2 = μ.2.2).trans hr_μ
    try rw [hr_μ82]
    refine ok_bw (k_X6_goOn a1 r83 μ82 hI_μ82) ?_
    rintro μ84 ⟨hI_μ84, hC_μ84⟩
    have hF_μ84 : Fr [(0, 30, 5), (0, 151, 5), (0, 151, 6), (1, 33, 0), (1, 34, 0), (1, 154, 0), (1, 155, 0), (2, 0, 0), (2, 0, 1), (2, 0, 2), (2, 0, 3), (2, 0, 4), (3, 0, 2)] true μ μ84 := hF_μ82.trans (hC_μ84.mono (by decide +kernel) (by decide))
    have hr_μ84 : μ84.2.2 = μ.2.2 := (hC_μ84.2 rfl : μ84.2.2 = μ82.2.2).trans hr_μ82
    try rw [hr_μ84]
    have g86 := rgc_0_4 (sel_0 (μ.2.2 151 8)) hI_μ84
    have f87 : (μ84.1 (sel 0 (μ.2.2 151 8)) 4).toInt = (μ.1 (sel 0 (μ.2.2 151 8)) 4).toInt := congrArg Int32.toInt ((hC_μ84.1 _ _ (cls_free (by decide +kernel) (sel_0 (μ.2.2 151 8)))).trans (hC_μ82.1 _ _ (cls_free (by decide +kernel) (sel_0 (μ.2.2 151 8)))))
    exact ok_some ⟨hI_μ84, hF_μ84, by dsimp only; (try simp only [hr_μ84]); omega⟩
  intro c79
  rw [ti_eq] at c79
  refine ok_ite ?_ ?_
  · intro c88
    rw [ti_eq] at c88
    refine ok_bd (k_X1_get (sel 0 (μ.2.2 151 8)) (sel_0 _) r3 μ hI_μ) ?_
    rintro r90 μ89 hq9
    obtain rfl : μ = μ89 := hq9
    refine ok_bw (k_X6_goOn a1 r90 μ hI_μ) ?_
    rintro μ91 ⟨hI_μ91, hC_μ91⟩
    have hF_μ91 : Fr [(0, 30, 5), (0, 151, 5), (0, 151, 6), (1, 33, 0), (1, 34, 0), (1, 154, 0), (1, 155, 0), (2, 0, 0), (2, 0, 1), (2, 0, 2), (2, 0, 3), (2, 0, 4), (3, 0, 2)] true μ μ91 := hF_μ.trans (hC_μ91.mono (by decide +kernel) (by decide))
    have hr_μ91 : μ91.2.2 = μ.2.2 := (hC_μ91.2 rfl : μ91.2.2 = μ.2.2).trans hr_μ
    try rw [hr_μ91]
    have g93 := rgc_0_4 (sel_0 (μ.2.2 151 8)) hI_μ91
    have f94 : (μ91.1 (sel 0 (μ.2.2 151 8)) 4).toInt = (μ.1 (sel 0 (μ.2.2 151 8)) 4).toInt := congrArg Int32.toInt (hC_μ91.1 _ _ (cls_free (by decide +kernel) (sel_0 (μ.2.2 151 8))))
    exact ok_some ⟨hI_μ91, hF_μ91, by dsimp only; (try simp only [hr_μ91]); omega⟩
  intro c88
  rw [ti_eq] at c88
  refine ok_ite ?_ ?_
  · intro c95
    rw [ti_eq] at c95
    refine ok_bw (k_X6_makePair a1 μ hI_μ) ?_
    rintro μ96 ⟨hI_μ96, hC_μ96⟩
    have hF_μ96 : Fr [(0, 30, 5), (0, 151, 5), (0, 151, 6), (1, 33, 0), (1, 34, 0), (1, 154, 0), (1, 155, 0), (2, 0, 0), (2, 0, 1), (2, 0, 2), (2, 0, 3), (2, 0, 4), (3, 0, 2)] true μ μ96 := hF_μ.trans (hC_μ96.mono (by decide +kernel) (by decide))
    have hr_μ96 : μ96.2.2 = μ.2.2 := (hC_μ96.2 rfl : μ96.2.2 = μ.2.2).trans hr_μ
    try rw [hr_μ96]
    have g98 := rgc_0_4 (sel_0 (μ.2.2 151 8)) hI_μ96
    have f99 : (μ96.1 (sel 0 (μ.2.2 151 8)) 4).toInt = (μ.1 (sel 0 (μ.2.2 151 8)) 4).toInt := congrArg Int32.toInt (hC_μ96.1 _ _ (cls_free (by decide +kernel) (sel_0 (μ.2.2 151 8))))
    exact ok_some ⟨hI_μ96, hF_μ96, by dsimp only; (try simp only [hr_μ96]); omega⟩
  intro c95
  rw [ti_eq] at c95
  refine ok_ite ?_ ?_
  · intro c100
    rw [ti_eq] at c100
    refine ok_bw (k_X6_call a1 r3 μ hI_μ) ?_
    rintro μ101 ⟨hI_μ101, hC_μ101⟩
    have hF_μ101 : Fr [(0, 30, 5), (0, 151, 5), (0, 151, 6), (1, 33, 0), (1, 34, 0), (1, 154, 0), (1, 155, 0), (2, 0, 0), (2, 0, 1), (2, 0, 2), (2, 0, 3), (2, 0, 4), (3, 0, 2)] true μ μ101 := hF_μ.trans (hC_μ101.mono (by decide +kernel) (by decide))
    have hr_μ101 : μ101.2.2 = μ.2.2 := (hC_μ101.2 rfl : μ101.2.2 = μ.2.2).trans hr_μ
    try rw [hr_μ101]
    have g103 := rgc_0_4 (sel_0 (μ.2.2 151 8)) hI_μ101
    have f104 : (μ101.1 (sel 0 (μ.2.2 151 8)) 4).toInt = (μ.1 (sel 0 (μ.2.2 151 8)) 4).toInt := congrArg Int32.toInt (hC_μ101.1 _ _ (cls_free (by decide +kernel) (sel_0 (μ.2.2 151 8))))
    exact ok_some ⟨hI_μ101, hF_μ101, by dsimp only; (try simp only [hr_μ101]); omega⟩
  intro c100
  rw [ti_eq] at c100
  refine ok_bv (fun μ105 e_μ105 => ?_)
  have hI_μ105 : IX μ105 := by rw [e_μ105]; exact IX_F hI_μ (rtc_0_0 (sel_0 (μ.2.2 151 8)) _)
  have hF_μ105 : Fr [(0, 30, 5), (0, 151, 5), (0, 151, 6), (1, 33, 0), (1, 34, 0), (1, 154, 0), (1, 155, 0), (2, 0, 0), (2, 0, 1), (2, 0, 2), (2, 0, 3), (2, 0, 4), (3, 0, 2)] true μ μ105 := by rw [e_μ105]; exact Fr.putc (ci := 0) hF_μ (by decide +kernel) (sel_0 (μ.2.2 151 8))
  have v_μ105 : (μ105.1 (sel 0 (μ.2.2 151 8)) 0).toInt = 4 := by rw [e_μ105, sF_v]; exact TI.e (n := 4) (TI.lit (by decide))
  have hr_μ105 : μ105.2.2 = μ.2.2 := (by rw [e_μ105]; rfl : μ105.2.2 = μ.2.2).trans hr_μ
  try rw [hr_μ105]
  have g106 := rgc_0_4 (sel_0 (μ.2.2 151 8)) hI_μ105
  have f107 : (μ105.1 (sel 0 (μ.2.2 151 8)) 4).toInt = (μ.1 (sel 0 (μ.2.2 151 8)) 4).toInt := congrArg Int32.toInt ((by rw [e_μ105]; exact sF_k (by decide) : μ105.1 (sel 0 (μ.2.2 151 8)) 4 = μ.1 (sel 0 (μ.2.2 151 8)) 4))
  exact ok_some ⟨hI_μ105, hF_μ105, by dsimp only; (try simp only [hr_μ105]); omega⟩

set_option maxHeartbeats 4000000 in
set_option maxRecDepth 100000 in
theorem k_X6_runResidue_b166 {n109 : Nat} (K109 : Int32 → Mem → Option Mem) (hK109 : ∀ (z5 : Int32) (μ1 : Mem), IX μ1 → (0 ≤ (z5).toInt ∧ (z5).toInt ≤ 1000000 ∧ (μ1.1 (sel 0 (μ1.2.2 151 8)) 4).toInt ≤ (z5).toInt ∧ 1000000 - (z5).toInt < n109) → ok (K109 z5 μ1) (fun q => IX q ∧ Fr [(0, 30, 5), (0, 30, 7), (0, 30, 10), (0, 151, 5), (0, 151, 6), (1, 33, 0), (1, 34, 0), (1, 154, 0), (1, 155, 0), (2, 0, 0), (2, 0, 1), (2, 0, 2), (2, 0, 3), (2, 0, 4), (2, 0, 5), (2, 0, 6), (2, 1, 2), (2, 1, 3), (3, 0, 2)] false μ1 q)) (a5 : Int32) (μ : Mem) (hI_μ : IX μ) (hc : 0 ≤ (a5).toInt ∧ (a5).toInt < 1000000 ∧ (μ.1 (sel 0 (μ.2.2 151 8)) 4).toInt ≤ (a5).toInt + 1 ∧ 1000000 - (a5).toInt < n109 + 1) : ok (p_X6_runResidue_b166 K109 a5 μ) (fun q => IX q ∧ Fr [(0, 30, 5), (0, 30, 7), (0, 30, 10), (0, 151, 5), (0, 151, 6), (1, 33, 0), (1, 34, 0), (1, 154, 0), (1, 155, 0), (2, 0, 0), (2, 0, 1), (2, 0, 2), (2, 0, 3), (2, 0, 4), (2, 0, 5), (2, 0, 6), (2, 1, 2), (2, 1, 3), (3, 0, 2)] false μ q) := by
  have li0 : (0 : Int32).toInt = 0 := by decide
  have li1 : (1 : Int32).toInt = 1 := by decide
  have hF_μ : Fr [(0, 30, 5), (0, 30, 7), (0, 30, 10), (0, 151, 5), (0, 151, 6), (1, 33, 0), (1, 34, 0), (1, 154, 0), (1, 155, 0), (2, 0, 0), (2, 0, 1), (2, 0, 2), (2, 0, 3), (2, 0, 4), (2, 0, 5), (2, 0, 6), (2, 1, 2), (2, 1, 3), (3, 0, 2)] false μ μ := Fr.rf
  have hr_μ : μ.2.2 = μ.2.2 := rfl
  rw [p_X6_runResidue_b166_eq]
  have lo_a5 := ti_lo a5
  have hi_a5 := ti_hi a5
  have g31 := rgc_0_4 (sel_0 (μ.2.2 151 8)) hI_μ
  refine ok_bv (fun v32 ev32 => ?_)
  first | have tv32 : v32.toInt = (a5.toInt + 1) := (congrArg Int32.toInt ev32).trans (TI.e (n := (a5.toInt + 1)) (TI.add TI.rf (TI.lit (by decide)) (by omega) (by omega))) | have tv32 : v32.toInt ≤ a5.toInt + 1 := by rw [ev32]; exact ti_inc _ | skip
  exact ok_mono (hK109 v32 μ hI_μ (by omega)) (fun q h => ⟨h.1, hF_μ.trans h.2⟩)
set_option maxHeartbeats 4000000 in
set_option maxRecDepth 100000 in
theorem k_X6_runResidue_b109 : ∀ (n : Nat) (a5 : Int32) (μ : Mem), IX μ → (0 ≤ (a5).toInt ∧ (a5).toInt ≤ 1000000 ∧ (μ.1 (sel 0 (μ.2.2 151 8)) 4).toInt ≤ (a5).toInt ∧ 1000000 - (a5).toInt < n) → ok (p_X6_runResidue_b109 n a5 μ) (fun q => IX q ∧ Fr [(0, 30, 5), (0, 30, 7), (0, 30, 10), (0, 151, 5), (0, 151, 6), (1, 33, 0), (1, 34, 0), (1, 154, 0), (1, 155, 0), (2, 0, 0), (2, 0, 1), (2, 0, 2), (2, 0, 3), (2, 0, 4), (2, 0, 5), (2, 0, 6), (2, 1, 2), (2, 1, 3), (3, 0, 2)] false μ q) := by
  have lim1 : (-1 : Int32).toInt = -1 := by decide
  have li0 : (0 : Int32).toInt = 0 := by decide
  have li1 : (1 : Int32).toInt = 1 := by decide
  have li1000000 : (1000000 : Int32).toInt = 1000000 := by decide
  intro n
  induction n with
  | zero => intro a5 μ hI_μ hc; exact absurd hc (by have lo_a5 := ti_lo a5; have hi_a5 := ti_hi a5; omega)
  | succ n ih =>
    intro a5 μ hI_μ hc
    have hF_μ : Fr [(0, 30, 5), (0, 30, 7), (0, 30, 10), (0, 151, 5), (0, 151, 6), (1, 33, 0), (1, 34, 0), (1, 154, 0), (1, 155, 0), (2, 0, 0), (2, 0, 1), (2, 0, 2), (2, 0, 3), (2, 0, 4), (2, 0, 5), (2, 0, 6), (2, 1, 2), (2, 1, 3), (3, 0, 2)] false μ μ := Fr.rf
    have hr_μ : μ.2.2 = μ.2.2 := rfl
    rw [p_X6_runResidue_b109_s]
    have lo_a5 := ti_lo a5
    have hi_a5 := ti_hi a5
    have g20 := rgc_0_4 (sel_0 (μ.2.2 151 8)) hI_μ
    refine ok_ite ?_ ?_
    · intro c21
      rw [ti_le] at c21
      exact ok_some ⟨hI_μ, hF_μ⟩
    · intro c21
      rw [ti_le] at c21
      have g22 := rg_151_5 hI_μ
      refine ok_ite ?_ ?_
      · intro c23
        rw [ti_lt] at c23
        exact ok_some ⟨hI_μ, hF_μ⟩
      · intro c23
        rw [ti_lt] at c23
        refine ok_bd (k_X1_isRunning (sel 0 (μ.2.2 151 8)) (sel_0 _) μ hI_μ) ?_
        rintro r25 μ24 ⟨hq9, p_r25⟩
        obtain rfl : μ = μ24 := hq9
        dsimp only at p_r25
        have lo_r25 := ti_lo r25
        have hi_r25 := ti_hi r25
        refine ok_ite ?_ ?_
        · intro c26
          rw [ti_eq] at c26
          exact ok_some ⟨hI_μ, hF_μ⟩
        · intro c26
          rw [ti_eq] at c26
          refine ok_gd (inb_iff.mpr (by (try rw [TI.e (e := ((μ.1 151 5) - (1 : Int32))) (n := ((μ.1 151 5).toInt - 1)) (TI.sub TI.rf (TI.lit (by decide)) (by omega) (by omega))]); omega)) ?_
          refine ok_bv (fun v27 ev27 => ?_)
          have tv27 : v27.toInt = (μ.1 155 ((μ.1 151 5) - (1 : Int32)).toNatClampNeg).toInt := congrArg Int32.toInt ev27
          refine ok_ite ?_ ?_
          · intro c28
            rw [ti_eq] at c28
            refine ok_bw (k_X6_endBlock  μ hI_μ) ?_
            rintro μ29 ⟨hI_μ29, hC_μ29⟩
            have hF_μ29 : Fr [(0, 30, 5), (0, 30, 7), (0, 30, 10), (0, 151, 5), (0, 151, 6), (1, 33, 0), (1, 34, 0), (1, 154, 0), (1, 155, 0), (2, 0, 0), (2, 0, 1), (2, 0, 2), (2, 0, 3), (2, 0, 4), (2, 0, 5), (2, 0, 6), (2, 1, 2), (2, 1, 3), (3, 0, 2)] false μ μ29 := hF_μ.trans (hC_μ29.mono (by decide +kernel) (by decide))
            have hr_μ29 : μ29.2.2 = μ.2.2 := (hC_μ29.2 rfl : μ29.2.2 = μ.2.2).trans hr_μ
            try rw [hr_μ29]
            have g33 := rgc_0_4 (sel_0 (μ.2.2 151 8)) hI_μ29
            have f34 : (μ29.1 (sel 0 (μ.2.2 151 8)) 4).toInt = (μ.1 (sel 0 (μ.2.2 151 8)) 4).toInt := congrArg Int32.toInt (hC_μ29.1 _ _ (cls_free (by decide +kernel) (sel_0 (μ.2.2 151 8))))
            exact ok_mono (k_X6_runResidue_b166 _ ih a5 μ29 hI_μ29 (by (try simp only [hr_μ29]); omega)) (fun q h => ⟨h.1, hF_μ29.trans h.2⟩)
          · intro c28
            rw [ti_eq] at c28
            refine ok_bw (k_X6_step v27 μ hI_μ (by omega)) ?_
            rintro μ35 ⟨hI_μ35, hC_μ35, p_μ35⟩
            have hF_μ35 : Fr [(0, 30, 5), (0, 30, 7), (0, 30, 10), (0, 151, 5), (0, 151, 6), (1, 33, 0), (1, 34, 0), (1, 154, 0), (1, 155, 0), (2, 0, 0), (2, 0, 1), (2, 0, 2), (2, 0, 3), (2, 0, 4), (2, 0, 5), (2, 0, 6), (2, 1, 2), (2, 1, 3), (3, 0, 2)] false μ μ35 := hF_μ.trans (hC_μ35.mono (by decide +kernel) (by decide))
            have hr_μ35 : μ35.2.2 = μ.2.2 := (hC_μ35.2 rfl : μ35.2.2 = μ.2.2).trans hr_μ
            try rw [hr_μ35]
            try simp only [hr_μ35, hr_μ] at p_μ35
            have g37 := rgc_0_4 (sel_0 (μ.2.2 151 8)) hI_μ35
            exact ok_mono (k_X6_runResidue_b166 _ ih a5 μ35 hI_μ35 (by (try simp only [hr_μ35]); omega)) (fun q h => ⟨h.1, hF_μ35.trans h.2⟩)
set_option maxHeartbeats 4000000 in
set_option maxRecDepth 100000 in
theorem k_X6_runResidue_b63 : ∀ (n : Nat) (a4 : Int32) (a5 : Int32) (μ : Mem), IX μ → (0 ≤ (a5).toInt ∧ (a4).toInt ≤ 8 ∧ (μ.1 (sel 0 (μ.2.2 151 8)) 4).toInt ≤ 0 ∧ 2147483648 - (a5).toInt < n) → ok (p_X6_runResidue_b63 n a4 a5 μ) (fun q => IX q ∧ Fr [(0, 30, 5), (0, 30, 7), (0, 30, 10), (0, 151, 5), (0, 151, 6), (1, 33, 0), (1, 34, 0), (1, 154, 0), (1, 155, 0), (2, 0, 0), (2, 0, 1), (2, 0, 2), (2, 0, 3), (2, 0, 4), (2, 0, 5), (2, 0, 6), (2, 1, 2), (2, 1, 3), (3, 0, 2)] false μ q) := by
  have li0 : (0 : Int32).toInt = 0 := by decide
  have li1 : (1 : Int32).toInt = 1 := by decide
  have li3 : (3 : Int32).toInt = 3 := by decide
  intro n
  induction n with
  | zero => intro a4 a5 μ hI_μ hc; exact absurd hc (by have lo_a4 := ti_lo a4; have hi_a4 := ti_hi a4; have lo_a5 := ti_lo a5; have hi_a5 := ti_hi a5; omega)
  | succ n ih =>
    intro a4 a5 μ hI_μ hc
    have hF_μ : Fr [(0, 30, 5), (0, 30, 7), (0, 30, 10), (0, 151, 5), (0, 151, 6), (1, 33, 0), (1, 34, 0), (1, 154, 0), (1, 155, 0), (2, 0, 0), (2, 0, 1), (2, 0, 2), (2, 0, 3), (2, 0, 4), (2, 0, 5), (2, 0, 6), (2, 1, 2), (2, 1, 3), (3, 0, 2)] false μ μ := Fr.rf
    have hr_μ : μ.2.2 = μ.2.2 := rfl
    rw [p_X6_runResidue_b63_s]
    have lo_a4 := ti_lo a4
    have hi_a4 := ti_hi a4
    have lo_a5 := ti_lo a5
    have hi_a5 := ti_hi a5
    have g14 := rgc_0_4 (sel_0 (μ.2.2 151 8)) hI_μ
    refine ok_ite ?_ ?_
    · intro c15
      rw [ti_le] at c15
      refine ok_bd (k_X5_ofVariant (0 : Int32) (3 : Int32) μ hI_μ (by omega)) ?_
      rintro r17 μ16 hq9
      obtain rfl : μ = μ16 := hq9
      have lo_r17 := ti_lo r17
      have hi_r17 := ti_hi r17
      refine ok_bw (k_X6_enter r17 μ hI_μ) ?_
      rintro μ18 ⟨hI_μ18, hC_μ18⟩
      have hF_μ18 : Fr [(0, 30, 5), (0, 30, 7), (0, 30, 10), (0, 151, 5), (0, 151, 6), (1, 33, 0), (1, 34, 0), (1, 154, 0), (1, 155, 0), (2, 0, 0), (2, 0, 1), (2, 0, 2), (2, 0, 3), (2, 0, 4), (2, 0, 5), (2, 0, 6), (2, 1, 2), (2, 1, 3), (3, 0, 2)] false μ μ18 := hF_μ.trans (hC_μ18.mono (by decide +kernel) (by decide))
      have hr_μ18 : μ18.2.2 = μ.2.2 := (hC_μ18.2 rfl : μ18.2.2 = μ.2.2).trans hr_μ
      try rw [hr_μ18]
      have g38 := rgc_0_4 (sel_0 (μ.2.2 151 8)) hI_μ18
      have f39 : (μ18.1 (sel 0 (μ.2.2 151 8)) 4).toInt = (μ.1 (sel 0 (μ.2.2 151 8)) 4).toInt := congrArg Int32.toInt (hC_μ18.1 _ _ (cls_free (by decide +kernel) (sel_0 (μ.2.2 151 8))))
      obtain ⟨fu, hfu0, hfu⟩ := fuel_ex
      rw [hfu0]
      exact ok_mono (k_X6_runResidue_b109  fu (0 : Int32) μ18 hI_μ18 (by (try simp only [hr_μ18]); omega)) (fun q h => ⟨h.1, hF_μ18.trans h.2⟩)
    · intro c15
      rw [ti_le] at c15
      have g40 := ti_lo (μ.1 151 6)
      have g40h := ti_hi (μ.1 151 6)
      refine ok_gd (inb_iff.mpr (by omega)) ?_
      refine ok_bw (k_X6_setRegister (μ.1 151 6) a5 (μ.2.1 153 a5.toNatClampNeg) μ hI_μ) ?_
      rintro μ41 ⟨hI_μ41, hC_μ41⟩
      have hF_μ41 : Fr [(0, 30, 5), (0, 30, 7), (0, 30, 10), (0, 151, 5), (0, 151, 6), (1, 33, 0), (1, 34, 0), (1, 154, 0), (1, 155, 0), (2, 0, 0), (2, 0, 1), (2, 0, 2), (2, 0, 3), (2, 0, 4), (2, 0, 5), (2, 0, 6), (2, 1, 2), (2, 1, 3), (3, 0, 2)] false μ μ41 := hF_μ.trans (hC_μ41.mono (by decide +kernel) (by decide))
      have hr_μ41 : μ41.2.2 = μ.2.2 := (hC_μ41.2 rfl : μ41.2.2 = μ.2.2).trans hr_μ
      try rw [hr_μ41]
      refine ok_bv (fun v43 ev43 => ?_)
      first | have tv43 : v43.toInt = (a5.toInt + 1) := (congrArg Int32.toInt ev43).trans (TI.e (n := (a5.toInt + 1)) (TI.add TI.rf (TI.lit (by decide)) (by omega) (by omega))) | have tv43 : v43.toInt ≤ a5.toInt + 1 := by rw [ev43]; exact ti_inc _ | skip
      have g44 := rgc_0_4 (sel_0 (μ.2.2 151 8)) hI_μ41
      have f45 : (μ41.1 (sel 0 (μ.2.2 151 8)) 4).toInt = (μ.1 (sel 0 (μ.2.2 151 8)) 4).toInt := congrArg Int32.toInt (hC_μ41.1 _ _ (cls_free (by decide +kernel) (sel_0 (μ.2.2 151 8))))
      exact ok_mono (ih a4 v43 μ41 hI_μ41 (by (try simp only [hr_μ41]); omega)) (fun q h => ⟨h.1, hF_μ41.trans h.2⟩)
set_option maxHeartbeats 4000000 in
set_option maxRecDepth 100000 in
theorem k_X6_runResidue (a2 : Nat) (q2 : sh 0 a2 = (0, 1)) (a3 : Nat) (q3 : sh 0 a3 = (0, 0)) (μ : Mem) (hI_μ : IX μ) : ok (p_X6_runResidue a2 a3 μ) (fun q => IX q ∧ Fr [(0, 30, 5), (0, 30, 7), (0, 30, 10), (0, 151, 5), (0, 151, 6), (1, 33, 0), (1, 34, 0), (1, 154, 0), (1, 155, 0), (2, 0, 0), (2, 0, 1), (2, 0, 2), (2, 0, 3), (2, 0, 4), (2, 0, 5), (2, 0, 6), (2, 1, 2), (2, 1, 3), (3, 0, 2)] false μ q) := by
  have li0 : (0 : Int32).toInt = 0 := by decide
  have li1 : (1 : Int32).toInt = 1 := by decide
  have hF_μ : Fr [(0, 30, 5), (0, 30, 7), (0, 30, 10), (0, 151, 5), (0, 151, 6), (1, 33, 0), (1, 34, 0), (1, 154, 0), (1, 155, 0), (2, 0, 0), (2, 0, 1), (2, 0, 2), (2, 0, 3), (2, 0, 4), (2, 0, 5), (2, 0, 6), (2, 1, 2), (2, 1, 3), (3, 0, 2)] false μ μ := Fr.rf
  have hr_μ : μ.2.2 = μ.2.2 := rfl
  rw [p_X6_runResidue_eq]
  refine ok_bv (fun μ2 e_μ2 => ?_)
  have hI_μ2 : IX μ2 := by rw [e_μ2]; exact IX_R hI_μ
  have hF_μ2 : Fr [(0, 30, 5), (0, 30, 7), (0, 30, 10), (0, 151, 5), (0, 151, 6), (1, 33, 0), (1, 34, 0), (1, 154, 0), (1, 155, 0), (2, 0, 0), (2, 0, 1), (2, 0, 2), (2, 0, 3), (2, 0, 4), (2, 0, 5), (2, 0, 6), (2, 1, 2), (2, 1, 3), (3, 0, 2)] false μ μ2 := by rw [e_μ2]; exact ⟨hF_μ.1, fun h9 => absurd h9 (by decide)⟩
  have hr_μ2 : μ2.2.2 = μ2.2.2 := rfl
  refine ok_bw (k_X1_clear (sel 0 (μ2.2.2 151 8)) (sel_0 _) μ2 hI_μ2) ?_
  rintro μ3 ⟨hI_μ3, hC_μ3⟩
  have hF_μ3 : Fr [(0, 30, 5), (0, 30, 7), (0, 30, 10), (0, 151, 5), (0, 151, 6), (1, 33, 0), (1, 34, 0), (1, 154, 0), (1, 155, 0), (2, 0, 0), (2, 0, 1), (2, 0, 2), (2, 0, 3), (2, 0, 4), (2, 0, 5), (2, 0, 6), (2, 1, 2), (2, 1, 3), (3, 0, 2)] false μ μ3 := hF_μ2.trans (hC_μ3.mono (by decide +kernel) (by decide))
  have hr_μ3 : μ3.2.2 = μ2.2.2 := (hC_μ3.2 rfl : μ3.2.2 = μ2.2.2).trans hr_μ2
  try rw [hr_μ3]
  refine ok_bw (k_X8_clear  μ3 hI_μ3) ?_
  rintro μ5 ⟨hI_μ5, hC_μ5⟩
  have hF_μ5 : Fr [(0, 30, 5), (0, 30, 7), (0, 30, 10), (0, 151, 5), (0, 151, 6), (1, 33, 0), (1, 34, 0), (1, 154, 0), (1, 155, 0), (2, 0, 0), (2, 0, 1), (2, 0, 2), (2, 0, 3), (2, 0, 4), (2, 0, 5), (2, 0, 6), (2, 1, 2), (2, 1, 3), (3, 0, 2)] false μ μ5 := hF_μ3.trans (hC_μ5.mono (by decide +kernel) (by decide))
  have hr_μ5 : μ5.2.2 = μ2.2.2 := (hC_μ5.2 rfl : μ5.2.2 = μ3.2.2).trans hr_μ3
  try rw [hr_μ5]
  refine ok_bv (fun μ7 e_μ7 => ?_)
  have hI_μ7 : IX μ7 := by rw [e_μ7]; exact IX_F hI_μ5 (rp_151_5 (by omega))
  have hF_μ7 : Fr [(0, 30, 5), (0, 30, 7), (0, 30, 10), (0, 151, 5), (0, 151, 6), (1, 33, 0), (1, 34, 0), (1, 154, 0), (1, 155, 0), (2, 0, 0), (2, 0, 1), (2, 0, 2), (2, 0, 3), (2, 0, 4), (2, 0, 5), (2, 0, 6), (2, 1, 2), (2, 1, 3), (3, 0, 2)] false μ μ7 := by rw [e_μ7]; exact Fr.put hF_μ5 (by decide +kernel)
  have v_μ7 : (μ7.1 151 5).toInt = 0 := by rw [e_μ7, sF_v]; exact TI.e (n := 0) (TI.lit (by decide))
  have hr_μ7 : μ7.2.2 = μ2.2.2 := (by rw [e_μ7]; rfl : μ7.2.2 = μ5.2.2).trans hr_μ5
  try rw [hr_μ7]
  refine ok_bv (fun μ8 e_μ8 => ?_)
  have hI_μ8 : IX μ8 := by rw [e_μ8]; exact IX_F hI_μ7 (rt_151_6 _)
  have hF_μ8 : Fr [(0, 30, 5), (0, 30, 7), (0, 30, 10), (0, 151, 5), (0, 151, 6), (1, 33, 0), (1, 34, 0), (1, 154, 0), (1, 155, 0), (2, 0, 0), (2, 0, 1), (2, 0, 2), (2, 0, 3), (2, 0, 4), (2, 0, 5), (2, 0, 6), (2, 1, 2), (2, 1, 3), (3, 0, 2)] false μ μ8 := by rw [e_μ8]; exact Fr.put hF_μ7 (by decide +kernel)
  have v_μ8 : (μ8.1 151 6).toInt = 0 := by rw [e_μ8, sF_v]; exact TI.e (n := 0) (TI.lit (by decide))
  have hr_μ8 : μ8.2.2 = μ2.2.2 := (by rw [e_μ8]; rfl : μ8.2.2 = μ7.2.2).trans hr_μ7
  try rw [hr_μ8]
  refine ok_bd (k_X8_build a2 q2 153 (sh_f shx_153) 153 (sh_f shx_153) μ8 hI_μ8) ?_
  rintro r10 μ9 ⟨hI_μ9, hC_μ9, p_μ9⟩
  have hI_μ9 : IX μ9 := hI_μ9
  have hC_μ9 : Fr [(0, 30, 5), (1, 33, 0), (1, 34, 0)] true μ8 μ9 := hC_μ9
  dsimp only at p_μ9
  have lo_r10 := ti_lo r10
  have hi_r10 := ti_hi r10
  have hF_μ9 : Fr [(0, 30, 5), (0, 30, 7), (0, 30, 10), (0, 151, 5), (0, 151, 6), (1, 33, 0), (1, 34, 0), (1, 154, 0), (1, 155, 0), (2, 0, 0), (2, 0, 1), (2, 0, 2), (2, 0, 3), (2, 0, 4), (2, 0, 5), (2, 0, 6), (2, 1, 2), (2, 1, 3), (3, 0, 2)] false μ μ9 := hF_μ8.trans (hC_μ9.mono (by decide +kernel) (by decide))
  have l11 : (sh 0 153).2 = 8 := by rw [shx_153]
  have hr_μ9 : μ9.2.2 = μ2.2.2 := (hC_μ9.2 rfl : μ9.2.2 = μ8.2.2).trans hr_μ8
  try rw [hr_μ9]
  refine ok_bd (k_X1_beginCall (sel 0 (μ2.2.2 151 8)) (sel_0 _) μ9 hI_μ9) ?_
  rintro r13 μ12 ⟨hI_μ12, hC_μ12, p_μ12⟩
  have hI_μ12 : IX μ12 := hI_μ12
  have hC_μ12 : Fr [(2, 0, 0), (2, 0, 1), (2, 0, 2), (2, 0, 3)] true μ9 μ12 := hC_μ12
  dsimp only at p_μ12
  have lo_r13 := ti_lo r13
  have hi_r13 := ti_hi r13
  have hF_μ12 : Fr [(0, 30, 5), (0, 30, 7), (0, 30, 10), (0, 151, 5), (0, 151, 6), (1, 33, 0), (1, 34, 0), (1, 154, 0), (1, 155, 0), (2, 0, 0), (2, 0, 1), (2, 0, 2), (2, 0, 3), (2, 0, 4), (2, 0, 5), (2, 0, 6), (2, 1, 2), (2, 1, 3), (3, 0, 2)] false μ μ12 := hF_μ9.trans (hC_μ12.mono (by decide +kernel) (by decide))
  have hr_μ12 : μ12.2.2 = μ2.2.2 := (hC_μ12.2 rfl : μ12.2.2 = μ9.2.2).trans hr_μ9
  try rw [hr_μ12]
  have g46 := rgc_0_4 (sel_0 (μ2.2.2 151 8)) hI_μ12
  obtain ⟨fu, hfu0, hfu⟩ := fuel_ex
  rw [hfu0]
  exact ok_mono (k_X6_runResidue_b63  fu r10 (0 : Int32) μ12 hI_μ12 (by (try simp only [hr_μ12]); omega)) (fun q h => ⟨h.1, hF_μ12.trans h.2⟩)

set_option maxHeartbeats 4000000 in
set_option maxRecDepth 100000 in
theorem k_X1_about (a0 : Nat) (q0 : sh 0 a0 = (0, 0)) (a1 : Int32) (μ : Mem) (hI_μ : IX μ) : ok (p_X1_about a0 a1 μ) (fun q => μ = q.2) := by
  have lim1 : (-1 : Int32).toInt = -1 := by decide
  have li0 : (0 : Int32).toInt = 0 := by decide
  have li1 : (1 : Int32).toInt = 1 := by decide
  have li2 : (2 : Int32).toInt = 2 := by decide
  have li3 : (3 : Int32).toInt = 3 := by decide
  have li4 : (4 : Int32).toInt = 4 := by decide
  have li5 : (5 : Int32).toInt = 5 := by decide
  have hF_μ : Fr [] true μ μ := Fr.rf
  have hr_μ : μ.2.2 = μ.2.2 := rfl
  rw [p_X1_about_eq]
  have lo_a1 := ti_lo a1
  have hi_a1 := ti_hi a1
  refine ok_ite ?_ ?_
  · intro c2
    rw [ti_eq] at c2
    have g3 := ti_lo (μ.1 a0 0)
    have g3h := ti_hi (μ.1 a0 0)
    exact ok_some rfl
  intro c2
  rw [ti_eq] at c2
  refine ok_ite ?_ ?_
  · intro c4
    rw [ti_eq] at c4
    have g5 := ti_lo (μ.1 a0 1)
    have g5h := ti_hi (μ.1 a0 1)
    exact ok_some rfl
  intro c4
  rw [ti_eq] at c4
  refine ok_ite ?_ ?_
  · intro c6
    rw [ti_eq] at c6
    have g7 := rgc_0_4 q0 hI_μ
    exact ok_some rfl
  intro c6
  rw [ti_eq] at c6
  refine ok_ite ?_ ?_
  · intro c8
    rw [ti_eq] at c8
    have g9 := ti_lo (μ.1 a0 5)
    have g9h := ti_hi (μ.1 a0 5)
    exact ok_some rfl
  intro c8
  rw [ti_eq] at c8
  refine ok_ite ?_ ?_
  · intro c10
    rw [ti_eq] at c10
    have g11 := ti_lo (μ.1 a0 6)
    have g11h := ti_hi (μ.1 a0 6)
    exact ok_some rfl
  intro c10
  rw [ti_eq] at c10
  refine ok_ite ?_ ?_
  · intro c12
    rw [ti_eq] at c12
    have g13 := ti_lo (μ.1 a0 3)
    have g13h := ti_hi (μ.1 a0 3)
    exact ok_some rfl
  intro c12
  rw [ti_eq] at c12
  exact ok_some rfl

set_option maxHeartbeats 4000000 in
set_option maxRecDepth 100000 in
theorem k_X11_run_b69 (a2 : Int32) (μ : Mem) (hI_μ : IX μ) : ok (p_X11_run_b69 a2 μ) (fun q => IX q.2 ∧ Fr [(0, 30, 5), (0, 30, 7), (0, 30, 10), (0, 148, 5), (0, 151, 5), (0, 151, 6), (1, 33, 0), (1, 34, 0), (1, 38, 0), (1, 154, 0), (1, 155, 0), (2, 0, 0), (2, 0, 1), (2, 0, 2), (2, 0, 3), (2, 0, 4), (2, 0, 5), (2, 0, 6), (2, 1, 2), (2, 1, 3), (3, 0, 2)] false μ q.2) := by
  have li0 : (0 : Int32).toInt = 0 := by decide
  have li1 : (1 : Int32).toInt = 1 := by decide
  have hF_μ : Fr [(0, 30, 5), (0, 30, 7), (0, 30, 10), (0, 148, 5), (0, 151, 5), (0, 151, 6), (1, 33, 0), (1, 34, 0), (1, 38, 0), (1, 154, 0), (1, 155, 0), (2, 0, 0), (2, 0, 1), (2, 0, 2), (2, 0, 3), (2, 0, 4), (2, 0, 5), (2, 0, 6), (2, 1, 2), (2, 1, 3), (3, 0, 2)] false μ μ := Fr.rf
  have hr_μ : μ.2.2 = μ.2.2 := rfl
  rw [p_X11_run_b69_eq]
  have lo_a2 := ti_lo a2
  have hi_a2 := ti_hi a2
  have g9 := ti_lo (μ.1 119 0)
  have g9h := ti_hi (μ.1 119 0)
  refine ok_ite ?_ ?_
  · intro c10
    rw [ti_eq] at c10
    refine ok_bw (k_X2_copyFrom 156 shx_156 122 shx_122 μ hI_μ) ?_
    rintro μ11 ⟨hI_μ11, hC_μ11⟩
    have hF_μ11 : Fr [(0, 30, 5), (0, 30, 7), (0, 30, 10), (0, 148, 5), (0, 151, 5), (0, 151, 6), (1, 33, 0), (1, 34, 0), (1, 38, 0), (1, 154, 0), (1, 155, 0), (2, 0, 0), (2, 0, 1), (2, 0, 2), (2, 0, 3), (2, 0, 4), (2, 0, 5), (2, 0, 6), (2, 1, 2), (2, 1, 3), (3, 0, 2)] false μ μ11 := hF_μ.trans (hC_μ11.mono (by decide +kernel) (by decide))
    have hr_μ11 : μ11.2.2 = μ.2.2 := (hC_μ11.2 rfl : μ11.2.2 = μ.2.2).trans hr_μ
    try rw [hr_μ11]
    refine ok_bd (k_X1_about 119 shx_119 a2 μ11 hI_μ11) ?_
    rintro r14 μ13 hq9
    obtain rfl : μ11 = μ13 := hq9
    have lo_r14 := ti_lo r14
    have hi_r14 := ti_hi r14
    try rw [hr_μ11]
    exact ok_some ⟨hI_μ11, hF_μ11⟩
  · intro c10
    rw [ti_eq] at c10
    refine ok_bd (k_X1_about 119 shx_119 a2 μ hI_μ) ?_
    rintro r16 μ15 hq9
    obtain rfl : μ = μ15 := hq9
    have lo_r16 := ti_lo r16
    have hi_r16 := ti_hi r16
    exact ok_some ⟨hI_μ, hF_μ⟩
set_option maxHeartbeats 4000000 in
set_option maxRecDepth 100000 in
theorem k_X11_run (a1 : Int32) (a2 : Int32) (μ : Mem) (hI_μ : IX μ) : ok (p_X11_run a1 a2 μ) (fun q => IX q.2 ∧ Fr [(0, 30, 5), (0, 30, 7), (0, 30, 10), (0, 148, 5), (0, 151, 5), (0, 151, 6), (1, 33, 0), (1, 34, 0), (1, 38, 0), (1, 154, 0), (1, 155, 0), (2, 0, 0), (2, 0, 1), (2, 0, 2), (2, 0, 3), (2, 0, 4), (2, 0, 5), (2, 0, 6), (2, 1, 2), (2, 1, 3), (3, 0, 2)] false μ q.2) := by
  have lim1 : (-1 : Int32).toInt = -1 := by decide
  have li0 : (0 : Int32).toInt = 0 := by decide
  have li1 : (1 : Int32).toInt = 1 := by decide
  have li6 : (6 : Int32).toInt = 6 := by decide
  have hF_μ : Fr [(0, 30, 5), (0, 30, 7), (0, 30, 10), (0, 148, 5), (0, 151, 5), (0, 151, 6), (1, 33, 0), (1, 34, 0), (1, 38, 0), (1, 154, 0), (1, 155, 0), (2, 0, 0), (2, 0, 1), (2, 0, 2), (2, 0, 3), (2, 0, 4), (2, 0, 5), (2, 0, 6), (2, 1, 2), (2, 1, 3), (3, 0, 2)] false μ μ := Fr.rf
  have hr_μ : μ.2.2 = μ.2.2 := rfl
  rw [p_X11_run_eq]
  have lo_a1 := ti_lo a1
  have hi_a1 := ti_hi a1
  have lo_a2 := ti_lo a2
  have hi_a2 := ti_hi a2
  refine ok_ite ?_ ?_
  · intro c1
    rw [ti_lt] at c1
    exact ok_some ⟨hI_μ, hF_μ⟩
  · intro c1
    rw [ti_lt] at c1
    refine ok_ite ?_ ?_
    · intro c2
      rw [ti_le] at c2
      exact ok_some ⟨hI_μ, hF_μ⟩
    · intro c2
      rw [ti_le] at c2
      refine ok_bd (k_X11_canRun a1 μ hI_μ) ?_
      rintro r4 μ3 ⟨hq9, p_r4⟩
      obtain rfl : μ = μ3 := hq9
      dsimp only at p_r4
      have lo_r4 := ti_lo r4
      have hi_r4 := ti_hi r4
      refine ok_ite ?_ ?_
      · intro c5
        rw [ti_eq] at c5
        exact ok_some ⟨hI_μ, hF_μ⟩
      · intro c5
        rw [ti_eq] at c5
        refine ok_ite ?_ ?_
        · intro c6
          rw [ti_eq] at c6
          refine ok_bw (k_X7_runTask (sel 2 (μ.2.2 0 4)) (sel_2 _) (sel 1 (μ.2.2 0 6)) (sel_1 _) (sel 1 (μ.2.2 0 8)) (sel_1 _) 119 shx_119 μ hI_μ) ?_
          rintro μ7 ⟨hI_μ7, hC_μ7⟩
          have hF_μ7 : Fr [(0, 30, 5), (0, 30, 7), (0, 30, 10), (0, 148, 5), (0, 151, 5), (0, 151, 6), (1, 33, 0), (1, 34, 0), (1, 38, 0), (1, 154, 0), (1, 155, 0), (2, 0, 0), (2, 0, 1), (2, 0, 2), (2, 0, 3), (2, 0, 4), (2, 0, 5), (2, 0, 6), (2, 1, 2), (2, 1, 3), (3, 0, 2)] false μ μ7 := hF_μ.trans (hC_μ7.mono (by decide +kernel) (by decide))
          have hr_μ7 : μ7.2.2 = μ7.2.2 := rfl
          exact ok_mono (k_X11_run_b69  a2 μ7 hI_μ7) (fun q h => ⟨h.1, hF_μ7.trans h.2⟩)
        · intro c6
          rw [ti_eq] at c6
          refine ok_bw (k_X6_runResidue (sel 1 (μ.2.2 0 8)) (sel_1 _) 119 shx_119 μ hI_μ) ?_
          rintro μ17 ⟨hI_μ17, hC_μ17⟩
          have hF_μ17 : Fr [(0, 30, 5), (0, 30, 7), (0, 30, 10), (0, 148, 5), (0, 151, 5), (0, 151, 6), (1, 33, 0), (1, 34, 0), (1, 38, 0), (1, 154, 0), (1, 155, 0), (2, 0, 0), (2, 0, 1), (2, 0, 2), (2, 0, 3), (2, 0, 4), (2, 0, 5), (2, 0, 6), (2, 1, 2), (2, 1, 3), (3, 0, 2)] false μ μ17 := hF_μ.trans (hC_μ17.mono (by decide +kernel) (by decide))
          have hr_μ17 : μ17.2.2 = μ17.2.2 := rfl
          exact ok_mono (k_X11_run_b69  a2 μ17 hI_μ17) (fun q h => ⟨h.1, hF_μ17.trans h.2⟩)

set_option maxHeartbeats 4000000 in
set_option maxRecDepth 100000 in
theorem k_X1_keptCount (a0 : Nat) (q0 : sh 0 a0 = (0, 0)) (μ : Mem) (hI_μ : IX μ) : ok (p_X1_keptCount a0 μ) (fun q => μ = q.2) := by
  have li0 : (0 : Int32).toInt = 0 := by decide
  have li1 : (1 : Int32).toInt = 1 := by decide
  have hF_μ : Fr [] true μ μ := Fr.rf
  have hr_μ : μ.2.2 = μ.2.2 := rfl
  rw [p_X1_keptCount_eq]
  have g1 := rgc_0_4 q0 hI_μ
  exact ok_some rfl

set_option maxHeartbeats 4000000 in
set_option maxRecDepth 100000 in
theorem k_X1_aboutOutput (a0 : Nat) (q0 : sh 0 a0 = (0, 0)) (a1 : Int32) (a2 : Int32) (μ : Mem) (hI_μ : IX μ) : ok (p_X1_aboutOutput a0 a1 a2 μ) (fun q => μ = q.2) := by
  have lim1 : (-1 : Int32).toInt = -1 := by decide
  have li0 : (0 : Int32).toInt = 0 := by decide
  have li1 : (1 : Int32).toInt = 1 := by decide
  have hF_μ : Fr [] true μ μ := Fr.rf
  have hr_μ : μ.2.2 = μ.2.2 := rfl
  rw [p_X1_aboutOutput_eq]
  have lo_a1 := ti_lo a1
  have hi_a1 := ti_hi a1
  have lo_a2 := ti_lo a2
  have hi_a2 := ti_hi a2
  refine ok_ite ?_ ?_
  · intro c1
    rw [ti_lt] at c1
    exact ok_some rfl
  · intro c1
    rw [ti_lt] at c1
    refine ok_bd (k_X1_keptCount a0 q0 μ hI_μ) ?_
    rintro r3 μ2 hq9
    obtain rfl : μ = μ2 := hq9
    have lo_r3 := ti_lo r3
    have hi_r3 := ti_hi r3
    refine ok_ite ?_ ?_
    · intro c4
      rw [ti_le] at c4
      exact ok_some rfl
    · intro c4
      rw [ti_le] at c4
      refine ok_ite ?_ ?_
      · intro c5
        rw [ti_lt] at c5
        exact ok_some rfl
      · intro c5
        rw [ti_lt] at c5
        refine ok_ite ?_ ?_
        · intro c6
          rw [ti_le] at c6
          refine ok_ite ?_ ?_
          · intro c7
            rw [ti_eq] at c7
            refine ok_gd (inb_iff.mpr (by omega)) ?_
            exact ok_some rfl
          · intro c7
            rw [ti_eq] at c7
            refine ok_gd (inb_iff.mpr (by omega)) ?_
            exact ok_some rfl
        · intro c6
          rw [ti_le] at c6
          exact ok_some rfl

set_option maxHeartbeats 4000000 in
set_option maxRecDepth 100000 in
theorem k_X11_output (a1 : Int32) (a2 : Int32) (μ : Mem) (hI_μ : IX μ) : ok (p_X11_output a1 a2 μ) (fun q => μ = q.2) := by
  have li0 : (0 : Int32).toInt = 0 := by decide
  have li1 : (1 : Int32).toInt = 1 := by decide
  have hF_μ : Fr [] true μ μ := Fr.rf
  have hr_μ : μ.2.2 = μ.2.2 := rfl
  rw [p_X11_output_eq]
  have lo_a1 := ti_lo a1
  have hi_a1 := ti_hi a1
  have lo_a2 := ti_lo a2
  have hi_a2 := ti_hi a2
  refine ok_bd (k_X1_aboutOutput 119 shx_119 a1 a2 μ hI_μ) ?_
  rintro r2 μ1 hq9
  obtain rfl : μ = μ1 := hq9
  have lo_r2 := ti_lo r2
  have hi_r2 := ti_hi r2
  exact ok_some rfl

set_option maxHeartbeats 4000000 in
set_option maxRecDepth 100000 in
theorem k_X11_place (a1 : Int32) (μ : Mem) (hI_μ : IX μ) : ok (p_X11_place a1 μ) (fun q => μ = q.2) := by
  have li0 : (0 : Int32).toInt = 0 := by decide
  have li1 : (1 : Int32).toInt = 1 := by decide
  have hF_μ : Fr [] true μ μ := Fr.rf
  have hr_μ : μ.2.2 = μ.2.2 := rfl
  rw [p_X11_place_eq]
  have lo_a1 := ti_lo a1
  have hi_a1 := ti_hi a1
  refine ok_bd (k_X1_placeBits 119 shx_119 a1 μ hI_μ) ?_
  rintro r2 μ1 hq9
  obtain rfl : μ = μ1 := hq9
  have lo_r2 := ti_lo r2
  have hi_r2 := ti_hi r2
  exact ok_some rfl

set_option maxHeartbeats 4000000 in
set_option maxRecDepth 100000 in
theorem k_X9_add (a1 : Int32) (μ : Mem) (hI_μ : IX μ) : ok (p_X9_add a1 μ) (fun q => IX q ∧ Fr [(0, 159, 1), (1, 160, 0)] true μ q) := by
  have li0 : (0 : Int32).toInt = 0 := by decide
  have li1 : (1 : Int32).toInt = 1 := by decide
  have li40000 : (40000 : Int32).toInt = 40000 := by decide
  have hF_μ : Fr [(0, 159, 1), (1, 160, 0)] true μ μ := Fr.rf
  have hr_μ : μ.2.2 = μ.2.2 := rfl
  rw [p_X9_add_eq]
  have lo_a1 := ti_lo a1
  have hi_a1 := ti_hi a1
  have g1 := rg_159_1 hI_μ
  refine ok_ite ?_ ?_
  · intro c2
    rw [ti_le] at c2
    exact ok_some ⟨hI_μ, hF_μ⟩
  · intro c2
    rw [ti_le] at c2
    refine ok_gd (inb_iff.mpr (by omega)) ?_
    refine ok_bv (fun μ3 e_μ3 => ?_)
    have hI_μ3 : IX μ3 := by rw [e_μ3]; exact IX_F hI_μ (rta_160 _ _)
    have hF_μ3 : Fr [(0, 159, 1), (1, 160, 0)] true μ μ3 := by rw [e_μ3]; exact Fr.puta hF_μ (by decide +kernel)
    have hr_μ3 : μ3.2.2 = μ.2.2 := (by rw [e_μ3]; rfl : μ3.2.2 = μ.2.2).trans hr_μ
    have g4 := rg_159_1 hI_μ3
    have f5 : (μ3.1 159 1).toInt = (μ.1 159 1).toInt := congrArg Int32.toInt ((by rw [e_μ3]; rfl : μ3.1 159 1 = μ.1 159 1))
    refine ok_bv (fun μ6 e_μ6 => ?_)
    have hI_μ6 : IX μ6 := by rw [e_μ6]; exact IX_F hI_μ3 (rp_159_1 (by (try rw [TI.e (e := ((μ3.1 159 1) + (1 : Int32))) (n := ((μ3.1 159 1).toInt + 1)) (TI.add TI.rf (TI.lit (by decide)) (by omega) (by omega))]); omega))
    have hF_μ6 : Fr [(0, 159, 1), (1, 160, 0)] true μ μ6 := by rw [e_μ6]; exact Fr.put hF_μ3 (by decide +kernel)
    have v_μ6 : (μ6.1 159 1).toInt = ((μ3.1 159 1).toInt + 1) := by rw [e_μ6, sF_v]; exact TI.e (n := ((μ3.1 159 1).toInt + 1)) (TI.add TI.rf (TI.lit (by decide)) (by omega) (by omega))
    have hr_μ6 : μ6.2.2 = μ.2.2 := (by rw [e_μ6]; rfl : μ6.2.2 = μ3.2.2).trans hr_μ3
    exact ok_some ⟨hI_μ6, hF_μ6⟩
