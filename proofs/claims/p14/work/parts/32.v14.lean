set_option maxHeartbeats 4000000 in
set_option maxRecDepth 100000 in
theorem k_X7_step  (μ : Mem) (hI_μ : IX μ) (hc : (μ.1 (sel 0 (μ.2.2 148 4)) 4).toInt < 1000000) : ok (p_X7_step  μ) (fun q => IX q ∧ Fr [(0, 30, 5), (0, 30, 7), (0, 30, 10), (0, 148, 5), (1, 33, 0), (1, 34, 0), (1, 38, 0), (2, 0, 0), (2, 0, 1), (2, 0, 2), (2, 0, 3), (2, 0, 4), (2, 0, 5), (2, 0, 6), (2, 1, 2), (3, 0, 2)] true μ q ∧ ((q.1 (sel 0 (q.2.2 148 4)) 4).toInt ≤ (μ.1 (sel 0 (μ.2.2 148 4)) 4).toInt + 1)) := by
  have li0 : (0 : Int32).toInt = 0 := by decide
  have li1 : (1 : Int32).toInt = 1 := by decide
  have li2 : (2 : Int32).toInt = 2 := by decide
  have li3 : (3 : Int32).toInt = 3 := by decide
  have li4 : (4 : Int32).toInt = 4 := by decide
  have li5 : (5 : Int32).toInt = 5 := by decide
  have li6 : (6 : Int32).toInt = 6 := by decide
  have li7 : (7 : Int32).toInt = 7 := by decide
  have li8 : (8 : Int32).toInt = 8 := by decide
  have li9 : (9 : Int32).toInt = 9 := by decide
  have li10 : (10 : Int32).toInt = 10 := by decide
  have li11 : (11 : Int32).toInt = 11 := by decide
  have li12 : (12 : Int32).toInt = 12 := by decide
  have li13 : (13 : Int32).toInt = 13 := by decide
  have li64 : (64 : Int32).toInt = 64 := by decide
  have hF_μ : Fr [(0, 30, 5), (0, 30, 7), (0, 30, 10), (0, 148, 5), (1, 33, 0), (1, 34, 0), (1, 38, 0), (2, 0, 0), (2, 0, 1), (2, 0, 2), (2, 0, 3), (2, 0, 4), (2, 0, 5), (2, 0, 6), (2, 1, 2), (3, 0, 2)] true μ μ := Fr.rf
  have hr_μ : μ.2.2 = μ.2.2 := rfl
  rw [p_X7_step_eq]
  have g1 := rgc_0_4 (sel_0 (μ.2.2 148 4)) hI_μ
  have g2 := ti_lo (μ.1 148 5)
  have g2h := ti_hi (μ.1 148 5)
  refine ok_bd (k_X3_stepAt (sel 2 (μ.2.2 148 3)) (sel_2 _) (μ.1 148 5) μ hI_μ) ?_
  rintro r4 μ3 ⟨hq9, p_r4⟩
  obtain rfl : μ = μ3 := hq9
  dsimp only at p_r4
  have lo_r4 := ti_lo r4
  have hi_r4 := ti_hi r4
  refine ok_bd (k_X3_markAt (sel 2 (μ.2.2 148 3)) (sel_2 _) (μ.1 148 5) μ hI_μ) ?_
  rintro r6 μ5 hq9
  obtain rfl : μ = μ5 := hq9
  have lo_r6 := ti_lo r6
  have hi_r6 := ti_hi r6
  refine ok_bd (k_X3_bitsAt (sel 2 (μ.2.2 148 3)) (sel_2 _) (μ.1 148 5) μ hI_μ) ?_
  rintro r8 μ7 ⟨hq9, p_r8⟩
  obtain rfl : μ = μ7 := hq9
  dsimp only at p_r8
  have lo_r8 := ti_lo r8
  have hi_r8 := ti_hi r8
  refine ok_bv (fun μ9 e_μ9 => ?_)
  have hI_μ9 : IX μ9 := by rw [e_μ9]; exact IX_F hI_μ (rt_148_5 _)
  have hF_μ9 : Fr [(0, 30, 5), (0, 30, 7), (0, 30, 10), (0, 148, 5), (1, 33, 0), (1, 34, 0), (1, 38, 0), (2, 0, 0), (2, 0, 1), (2, 0, 2), (2, 0, 3), (2, 0, 4), (2, 0, 5), (2, 0, 6), (2, 1, 2), (3, 0, 2)] true μ μ9 := by rw [e_μ9]; exact Fr.put hF_μ (by decide +kernel)
  have hr_μ9 : μ9.2.2 = μ.2.2 := (by rw [e_μ9]; rfl : μ9.2.2 = μ.2.2).trans hr_μ
  try rw [hr_μ9]
  refine ok_ite ?_ ?_
  · intro c11
    rw [ti_eq] at c11
    refine ok_bw (k_X8_push (s_X0_make r6 r8) μ9 hI_μ9) ?_
    rintro μ12 ⟨hI_μ12, hC_μ12⟩
    have hF_μ12 : Fr [(0, 30, 5), (0, 30, 7), (0, 30, 10), (0, 148, 5), (1, 33, 0), (1, 34, 0), (1, 38, 0), (2, 0, 0), (2, 0, 1), (2, 0, 2), (2, 0, 3), (2, 0, 4), (2, 0, 5), (2, 0, 6), (2, 1, 2), (3, 0, 2)] true μ μ12 := hF_μ9.trans (hC_μ12.mono (by decide +kernel) (by decide))
    have hr_μ12 : μ12.2.2 = μ.2.2 := (hC_μ12.2 rfl : μ12.2.2 = μ9.2.2).trans hr_μ9
    try rw [hr_μ12]
    have g14 := rgc_0_4 (sel_0 (μ.2.2 148 4)) hI_μ12
    have f15 : (μ12.1 (sel 0 (μ.2.2 148 4)) 4).toInt = (μ.1 (sel 0 (μ.2.2 148 4)) 4).toInt := congrArg Int32.toInt ((hC_μ12.1 _ _ (cls_free (by decide +kernel) (sel_0 (μ.2.2 148 4)))).trans ((by rw [e_μ9]; exact sF_k (by decide) : μ9.1 (sel 0 (μ.2.2 148 4)) 4 = μ.1 (sel 0 (μ.2.2 148 4)) 4)))
    exact ok_some ⟨hI_μ12, hF_μ12, by (try dsimp only); (try rw [hr_μ12]); omega⟩
  intro c11
  rw [ti_eq] at c11
  refine ok_ite ?_ ?_
  · intro c16
    rw [ti_eq] at c16
    refine ok_bd (k_X8_varAt r6 μ9 hI_μ9) ?_
    rintro r18 μ17 hq9
    obtain rfl : μ9 = μ17 := hq9
    try rw [hr_μ9]
    refine ok_bw (k_X8_push r18 μ9 hI_μ9) ?_
    rintro μ19 ⟨hI_μ19, hC_μ19⟩
    have hF_μ19 : Fr [(0, 30, 5), (0, 30, 7), (0, 30, 10), (0, 148, 5), (1, 33, 0), (1, 34, 0), (1, 38, 0), (2, 0, 0), (2, 0, 1), (2, 0, 2), (2, 0, 3), (2, 0, 4), (2, 0, 5), (2, 0, 6), (2, 1, 2), (3, 0, 2)] true μ μ19 := hF_μ9.trans (hC_μ19.mono (by decide +kernel) (by decide))
    have hr_μ19 : μ19.2.2 = μ.2.2 := (hC_μ19.2 rfl : μ19.2.2 = μ9.2.2).trans hr_μ9
    try rw [hr_μ19]
    have g21 := rgc_0_4 (sel_0 (μ.2.2 148 4)) hI_μ19
    have f22 : (μ19.1 (sel 0 (μ.2.2 148 4)) 4).toInt = (μ.1 (sel 0 (μ.2.2 148 4)) 4).toInt := congrArg Int32.toInt ((hC_μ19.1 _ _ (cls_free (by decide +kernel) (sel_0 (μ.2.2 148 4)))).trans ((by rw [e_μ9]; exact sF_k (by decide) : μ9.1 (sel 0 (μ.2.2 148 4)) 4 = μ.1 (sel 0 (μ.2.2 148 4)) 4)))
    exact ok_some ⟨hI_μ19, hF_μ19, by (try dsimp only); (try rw [hr_μ19]); omega⟩
  intro c16
  rw [ti_eq] at c16
  refine ok_ite ?_ ?_
  · intro c23
    rw [ti_eq] at c23
    refine ok_bd (k_X8_popNum  μ9 hI_μ9) ?_
    rintro r25 μ24 ⟨hI_μ24, hC_μ24⟩
    have hI_μ24 : IX μ24 := hI_μ24
    have hC_μ24 : Fr [(0, 30, 7)] true μ9 μ24 := hC_μ24
    have hF_μ24 : Fr [(0, 30, 5), (0, 30, 7), (0, 30, 10), (0, 148, 5), (1, 33, 0), (1, 34, 0), (1, 38, 0), (2, 0, 0), (2, 0, 1), (2, 0, 2), (2, 0, 3), (2, 0, 4), (2, 0, 5), (2, 0, 6), (2, 1, 2), (3, 0, 2)] true μ μ24 := hF_μ9.trans (hC_μ24.mono (by decide +kernel) (by decide))
    have hr_μ24 : μ24.2.2 = μ.2.2 := (hC_μ24.2 rfl : μ24.2.2 = μ9.2.2).trans hr_μ9
    try rw [hr_μ24]
    refine ok_bd (k_X8_popNum  μ24 hI_μ24) ?_
    rintro r27 μ26 ⟨hI_μ26, hC_μ26⟩
    have hI_μ26 : IX μ26 := hI_μ26
    have hC_μ26 : Fr [(0, 30, 7)] true μ24 μ26 := hC_μ26
    have hF_μ26 : Fr [(0, 30, 5), (0, 30, 7), (0, 30, 10), (0, 148, 5), (1, 33, 0), (1, 34, 0), (1, 38, 0), (2, 0, 0), (2, 0, 1), (2, 0, 2), (2, 0, 3), (2, 0, 4), (2, 0, 5), (2, 0, 6), (2, 1, 2), (3, 0, 2)] true μ μ26 := hF_μ24.trans (hC_μ26.mono (by decide +kernel) (by decide))
    have hr_μ26 : μ26.2.2 = μ.2.2 := (hC_μ26.2 rfl : μ26.2.2 = μ24.2.2).trans hr_μ24
    try rw [hr_μ26]
    refine ok_bw (k_X8_push (s_X0_apply r6 r27 r25) μ26 hI_μ26) ?_
    rintro μ28 ⟨hI_μ28, hC_μ28⟩
    have hF_μ28 : Fr [(0, 30, 5), (0, 30, 7), (0, 30, 10), (0, 148, 5), (1, 33, 0), (1, 34, 0), (1, 38, 0), (2, 0, 0), (2, 0, 1), (2, 0, 2), (2, 0, 3), (2, 0, 4), (2, 0, 5), (2, 0, 6), (2, 1, 2), (3, 0, 2)] true μ μ28 := hF_μ26.trans (hC_μ28.mono (by decide +kernel) (by decide))
    have hr_μ28 : μ28.2.2 = μ.2.2 := (hC_μ28.2 rfl : μ28.2.2 = μ26.2.2).trans hr_μ26
    try rw [hr_μ28]
    have g30 := rgc_0_4 (sel_0 (μ.2.2 148 4)) hI_μ28
    have f31 : (μ28.1 (sel 0 (μ.2.2 148 4)) 4).toInt = (μ.1 (sel 0 (μ.2.2 148 4)) 4).toInt := congrArg Int32.toInt ((hC_μ28.1 _ _ (cls_free (by decide +kernel) (sel_0 (μ.2.2 148 4)))).trans ((hC_μ26.1 _ _ (cls_free (by decide +kernel) (sel_0 (μ.2.2 148 4)))).trans ((hC_μ24.1 _ _ (cls_free (by decide +kernel) (sel_0 (μ.2.2 148 4)))).trans ((by rw [e_μ9]; exact sF_k (by decide) : μ9.1 (sel 0 (μ.2.2 148 4)) 4 = μ.1 (sel 0 (μ.2.2 148 4)) 4)))))
    exact ok_some ⟨hI_μ28, hF_μ28, by (try dsimp only); (try rw [hr_μ28]); omega⟩
  intro c23
  rw [ti_eq] at c23
  refine ok_ite ?_ ?_
  · intro c32
    rw [ti_eq] at c32
    refine ok_bd (k_X8_popNum  μ9 hI_μ9) ?_
    rintro r34 μ33 ⟨hI_μ33, hC_μ33⟩
    have hI_μ33 : IX μ33 := hI_μ33
    have hC_μ33 : Fr [(0, 30, 7)] true μ9 μ33 := hC_μ33
    have hF_μ33 : Fr [(0, 30, 5), (0, 30, 7), (0, 30, 10), (0, 148, 5), (1, 33, 0), (1, 34, 0), (1, 38, 0), (2, 0, 0), (2, 0, 1), (2, 0, 2), (2, 0, 3), (2, 0, 4), (2, 0, 5), (2, 0, 6), (2, 1, 2), (3, 0, 2)] true μ μ33 := hF_μ9.trans (hC_μ33.mono (by decide +kernel) (by decide))
    have hr_μ33 : μ33.2.2 = μ.2.2 := (hC_μ33.2 rfl : μ33.2.2 = μ9.2.2).trans hr_μ9
    try rw [hr_μ33]
    refine ok_bw (k_X8_push (s_X0_turn r6 r34) μ33 hI_μ33) ?_
    rintro μ35 ⟨hI_μ35, hC_μ35⟩
    have hF_μ35 : Fr [(0, 30, 5), (0, 30, 7), (0, 30, 10), (0, 148, 5), (1, 33, 0), (1, 34, 0), (1, 38, 0), (2, 0, 0), (2, 0, 1), (2, 0, 2), (2, 0, 3), (2, 0, 4), (2, 0, 5), (2, 0, 6), (2, 1, 2), (3, 0, 2)] true μ μ35 := hF_μ33.trans (hC_μ35.mono (by decide +kernel) (by decide))
    have hr_μ35 : μ35.2.2 = μ.2.2 := (hC_μ35.2 rfl : μ35.2.2 = μ33.2.2).trans hr_μ33
    try rw [hr_μ35]
    have g37 := rgc_0_4 (sel_0 (μ.2.2 148 4)) hI_μ35
    have f38 : (μ35.1 (sel 0 (μ.2.2 148 4)) 4).toInt = (μ.1 (sel 0 (μ.2.2 148 4)) 4).toInt := congrArg Int32.toInt ((hC_μ35.1 _ _ (cls_free (by decide +kernel) (sel_0 (μ.2.2 148 4)))).trans ((hC_μ33.1 _ _ (cls_free (by decide +kernel) (sel_0 (μ.2.2 148 4)))).trans ((by rw [e_μ9]; exact sF_k (by decide) : μ9.1 (sel 0 (μ.2.2 148 4)) 4 = μ.1 (sel 0 (μ.2.2 148 4)) 4))))
    exact ok_some ⟨hI_μ35, hF_μ35, by (try dsimp only); (try rw [hr_μ35]); omega⟩
  intro c32
  rw [ti_eq] at c32
  refine ok_ite ?_ ?_
  · intro c39
    rw [ti_eq] at c39
    refine ok_bd (k_X8_pop  μ9 hI_μ9) ?_
    rintro r41 μ40 ⟨hI_μ40, hC_μ40⟩
    have hI_μ40 : IX μ40 := hI_μ40
    have hC_μ40 : Fr [(0, 30, 7)] true μ9 μ40 := hC_μ40
    have hF_μ40 : Fr [(0, 30, 5), (0, 30, 7), (0, 30, 10), (0, 148, 5), (1, 33, 0), (1, 34, 0), (1, 38, 0), (2, 0, 0), (2, 0, 1), (2, 0, 2), (2, 0, 3), (2, 0, 4), (2, 0, 5), (2, 0, 6), (2, 1, 2), (3, 0, 2)] true μ μ40 := hF_μ9.trans (hC_μ40.mono (by decide +kernel) (by decide))
    have hr_μ40 : μ40.2.2 = μ.2.2 := (hC_μ40.2 rfl : μ40.2.2 = μ9.2.2).trans hr_μ9
    try rw [hr_μ40]
    refine ok_ite ?_ ?_
    · intro c42
      rw [ti_eq] at c42
      refine ok_bd (k_X8_firstOf r41 μ40 hI_μ40) ?_
      rintro r44 μ43 hq9
      obtain rfl : μ40 = μ43 := hq9
      try rw [hr_μ40]
      refine ok_bw (k_X8_push r44 μ40 hI_μ40) ?_
      rintro μ45 ⟨hI_μ45, hC_μ45⟩
      have hF_μ45 : Fr [(0, 30, 5), (0, 30, 7), (0, 30, 10), (0, 148, 5), (1, 33, 0), (1, 34, 0), (1, 38, 0), (2, 0, 0), (2, 0, 1), (2, 0, 2), (2, 0, 3), (2, 0, 4), (2, 0, 5), (2, 0, 6), (2, 1, 2), (3, 0, 2)] true μ μ45 := hF_μ40.trans (hC_μ45.mono (by decide +kernel) (by decide))
      have hr_μ45 : μ45.2.2 = μ.2.2 := (hC_μ45.2 rfl : μ45.2.2 = μ40.2.2).trans hr_μ40
      try rw [hr_μ45]
      have g47 := rgc_0_4 (sel_0 (μ.2.2 148 4)) hI_μ45
      have f48 : (μ45.1 (sel 0 (μ.2.2 148 4)) 4).toInt = (μ.1 (sel 0 (μ.2.2 148 4)) 4).toInt := congrArg Int32.toInt ((hC_μ45.1 _ _ (cls_free (by decide +kernel) (sel_0 (μ.2.2 148 4)))).trans ((hC_μ40.1 _ _ (cls_free (by decide +kernel) (sel_0 (μ.2.2 148 4)))).trans ((by rw [e_μ9]; exact sF_k (by decide) : μ9.1 (sel 0 (μ.2.2 148 4)) 4 = μ.1 (sel 0 (μ.2.2 148 4)) 4))))
      exact ok_some ⟨hI_μ45, hF_μ45, by (try dsimp only); (try rw [hr_μ45]); omega⟩
    · intro c42
      rw [ti_eq] at c42
      refine ok_bd (k_X8_secondOf r41 μ40 hI_μ40) ?_
      rintro r50 μ49 hq9
      obtain rfl : μ40 = μ49 := hq9
      try rw [hr_μ40]
      refine ok_bw (k_X8_push r50 μ40 hI_μ40) ?_
      rintro μ51 ⟨hI_μ51, hC_μ51⟩
      have hF_μ51 : Fr [(0, 30, 5), (0, 30, 7), (0, 30, 10), (0, 148, 5), (1, 33, 0), (1, 34, 0), (1, 38, 0), (2, 0, 0), (2, 0, 1), (2, 0, 2), (2, 0, 3), (2, 0, 4), (2, 0, 5), (2, 0, 6), (2, 1, 2), (3, 0, 2)] true μ μ51 := hF_μ40.trans (hC_μ51.mono (by decide +kernel) (by decide))
      have hr_μ51 : μ51.2.2 = μ.2.2 := (hC_μ51.2 rfl : μ51.2.2 = μ40.2.2).trans hr_μ40
      try rw [hr_μ51]
      have g53 := rgc_0_4 (sel_0 (μ.2.2 148 4)) hI_μ51
      have f54 : (μ51.1 (sel 0 (μ.2.2 148 4)) 4).toInt = (μ.1 (sel 0 (μ.2.2 148 4)) 4).toInt := congrArg Int32.toInt ((hC_μ51.1 _ _ (cls_free (by decide +kernel) (sel_0 (μ.2.2 148 4)))).trans ((hC_μ40.1 _ _ (cls_free (by decide +kernel) (sel_0 (μ.2.2 148 4)))).trans ((by rw [e_μ9]; exact sF_k (by decide) : μ9.1 (sel 0 (μ.2.2 148 4)) 4 = μ.1 (sel 0 (μ.2.2 148 4)) 4))))
      exact ok_some ⟨hI_μ51, hF_μ51, by (try dsimp only); (try rw [hr_μ51]); omega⟩
  intro c39
  rw [ti_eq] at c39
  refine ok_ite ?_ ?_
  · intro c55
    rw [ti_eq] at c55
    refine ok_bw (k_X7_makePair  μ9 hI_μ9) ?_
    rintro μ56 ⟨hI_μ56, hC_μ56⟩
    have hF_μ56 : Fr [(0, 30, 5), (0, 30, 7), (0, 30, 10), (0, 148, 5), (1, 33, 0), (1, 34, 0), (1, 38, 0), (2, 0, 0), (2, 0, 1), (2, 0, 2), (2, 0, 3), (2, 0, 4), (2, 0, 5), (2, 0, 6), (2, 1, 2), (3, 0, 2)] true μ μ56 := hF_μ9.trans (hC_μ56.mono (by decide +kernel) (by decide))
    have hr_μ56 : μ56.2.2 = μ.2.2 := (hC_μ56.2 rfl : μ56.2.2 = μ9.2.2).trans hr_μ9
    try rw [hr_μ56]
    have g58 := rgc_0_4 (sel_0 (μ.2.2 148 4)) hI_μ56
    have f59 : (μ56.1 (sel 0 (μ.2.2 148 4)) 4).toInt = (μ.1 (sel 0 (μ.2.2 148 4)) 4).toInt := congrArg Int32.toInt ((hC_μ56.1 _ _ (cls_free (by decide +kernel) (sel_0 (μ.2.2 148 4)))).trans ((by rw [e_μ9]; exact sF_k (by decide) : μ9.1 (sel 0 (μ.2.2 148 4)) 4 = μ.1 (sel 0 (μ.2.2 148 4)) 4)))
    exact ok_some ⟨hI_μ56, hF_μ56, by (try dsimp only); (try rw [hr_μ56]); omega⟩
  intro c55
  rw [ti_eq] at c55
  refine ok_ite ?_ ?_
  · intro c60
    rw [ti_eq] at c60
    refine ok_bd (k_X8_popNum  μ9 hI_μ9) ?_
    rintro r62 μ61 ⟨hI_μ61, hC_μ61⟩
    have hI_μ61 : IX μ61 := hI_μ61
    have hC_μ61 : Fr [(0, 30, 7)] true μ9 μ61 := hC_μ61
    have hF_μ61 : Fr [(0, 30, 5), (0, 30, 7), (0, 30, 10), (0, 148, 5), (1, 33, 0), (1, 34, 0), (1, 38, 0), (2, 0, 0), (2, 0, 1), (2, 0, 2), (2, 0, 3), (2, 0, 4), (2, 0, 5), (2, 0, 6), (2, 1, 2), (3, 0, 2)] true μ μ61 := hF_μ9.trans (hC_μ61.mono (by decide +kernel) (by decide))
    have hr_μ61 : μ61.2.2 = μ.2.2 := (hC_μ61.2 rfl : μ61.2.2 = μ9.2.2).trans hr_μ9
    try rw [hr_μ61]
    refine ok_ite ?_ ?_
    · intro c63
      rw [ti_eq] at c63
      refine ok_bv (fun μ64 e_μ64 => ?_)
      have hI_μ64 : IX μ64 := by rw [e_μ64]; exact IX_F hI_μ61 (rt_148_5 _)
      have hF_μ64 : Fr [(0, 30, 5), (0, 30, 7), (0, 30, 10), (0, 148, 5), (1, 33, 0), (1, 34, 0), (1, 38, 0), (2, 0, 0), (2, 0, 1), (2, 0, 2), (2, 0, 3), (2, 0, 4), (2, 0, 5), (2, 0, 6), (2, 1, 2), (3, 0, 2)] true μ μ64 := by rw [e_μ64]; exact Fr.put hF_μ61 (by decide +kernel)
      have v_μ64 : (μ64.1 148 5).toInt = r6.toInt := by rw [e_μ64, sF_v]
      have hr_μ64 : μ64.2.2 = μ.2.2 := (by rw [e_μ64]; rfl : μ64.2.2 = μ61.2.2).trans hr_μ61
      try rw [hr_μ64]
      have g65 := rgc_0_4 (sel_0 (μ.2.2 148 4)) hI_μ64
      have f66 : (μ64.1 (sel 0 (μ.2.2 148 4)) 4).toInt = (μ.1 (sel 0 (μ.2.2 148 4)) 4).toInt := congrArg Int32.toInt (((by rw [e_μ64]; exact sF_k (by decide) : μ64.1 (sel 0 (μ.2.2 148 4)) 4 = μ61.1 (sel 0 (μ.2.2 148 4)) 4)).trans ((hC_μ61.1 _ _ (cls_free (by decide +kernel) (sel_0 (μ.2.2 148 4)))).trans ((by rw [e_μ9]; exact sF_k (by decide) : μ9.1 (sel 0 (μ.2.2 148 4)) 4 = μ.1 (sel 0 (μ.2.2 148 4)) 4))))
      exact ok_some ⟨hI_μ64, hF_μ64, by (try dsimp only); (try rw [hr_μ64]); omega⟩
    · intro c63
      rw [ti_eq] at c63
      have g67 := ti_lo (μ61.1 148 5)
      have g67h := ti_hi (μ61.1 148 5)
      have f68 : (μ61.1 148 5).toInt = (μ9.1 148 5).toInt := congrArg Int32.toInt (hC_μ61.1 148 5 (by decide +kernel))
      refine ok_bv (fun μ69 e_μ69 => ?_)
      have hI_μ69 : IX μ69 := by rw [e_μ69]; exact IX_F hI_μ61 (rt_148_5 _)
      have hF_μ69 : Fr [(0, 30, 5), (0, 30, 7), (0, 30, 10), (0, 148, 5), (1, 33, 0), (1, 34, 0), (1, 38, 0), (2, 0, 0), (2, 0, 1), (2, 0, 2), (2, 0, 3), (2, 0, 4), (2, 0, 5), (2, 0, 6), (2, 1, 2), (3, 0, 2)] true μ μ69 := by rw [e_μ69]; exact Fr.put hF_μ61 (by decide +kernel)
      have v_μ69 : (μ69.1 148 5).toInt = (μ61.1 148 5).toInt := by rw [e_μ69, sF_v]
      have hr_μ69 : μ69.2.2 = μ.2.2 := (by rw [e_μ69]; rfl : μ69.2.2 = μ61.2.2).trans hr_μ61
      try rw [hr_μ69]
      have g70 := rgc_0_4 (sel_0 (μ.2.2 148 4)) hI_μ69
      have f71 : (μ69.1 (sel 0 (μ.2.2 148 4)) 4).toInt = (μ.1 (sel 0 (μ.2.2 148 4)) 4).toInt := congrArg Int32.toInt (((by rw [e_μ69]; exact sF_k (by decide) : μ69.1 (sel 0 (μ.2.2 148 4)) 4 = μ61.1 (sel 0 (μ.2.2 148 4)) 4)).trans ((hC_μ61.1 _ _ (cls_free (by decide +kernel) (sel_0 (μ.2.2 148 4)))).trans ((by rw [e_μ9]; exact sF_k (by decide) : μ9.1 (sel 0 (μ.2.2 148 4)) 4 = μ.1 (sel 0 (μ.2.2 148 4)) 4))))
      exact ok_some ⟨hI_μ69, hF_μ69, by (try dsimp only); (try rw [hr_μ69]); omega⟩
  intro c60
  rw [ti_eq] at c60
  refine ok_ite ?_ ?_
  · intro c72
    rw [ti_eq] at c72
    refine ok_bv (fun μ73 e_μ73 => ?_)
    have hI_μ73 : IX μ73 := by rw [e_μ73]; exact IX_F hI_μ9 (rt_148_5 _)
    have hF_μ73 : Fr [(0, 30, 5), (0, 30, 7), (0, 30, 10), (0, 148, 5), (1, 33, 0), (1, 34, 0), (1, 38, 0), (2, 0, 0), (2, 0, 1), (2, 0, 2), (2, 0, 3), (2, 0, 4), (2, 0, 5), (2, 0, 6), (2, 1, 2), (3, 0, 2)] true μ μ73 := by rw [e_μ73]; exact Fr.put hF_μ9 (by decide +kernel)
    have v_μ73 : (μ73.1 148 5).toInt = r6.toInt := by rw [e_μ73, sF_v]
    have hr_μ73 : μ73.2.2 = μ.2.2 := (by rw [e_μ73]; rfl : μ73.2.2 = μ9.2.2).trans hr_μ9
    try rw [hr_μ73]
    have g74 := rgc_0_4 (sel_0 (μ.2.2 148 4)) hI_μ73
    have f75 : (μ73.1 (sel 0 (μ.2.2 148 4)) 4).toInt = (μ.1 (sel 0 (μ.2.2 148 4)) 4).toInt := congrArg Int32.toInt (((by rw [e_μ73]; exact sF_k (by decide) : μ73.1 (sel 0 (μ.2.2 148 4)) 4 = μ9.1 (sel 0 (μ.2.2 148 4)) 4)).trans ((by rw [e_μ9]; exact sF_k (by decide) : μ9.1 (sel 0 (μ.2.2 148 4)) 4 = μ.1 (sel 0 (μ.2.2 148 4)) 4)))
    exact ok_some ⟨hI_μ73, hF_μ73, by (try dsimp only); (try rw [hr_μ73]); omega⟩
  intro c72
  rw [ti_eq] at c72
  refine ok_ite ?_ ?_
  · intro c76
    rw [ti_eq] at c76
    have g77 := rgc_0_4 (sel_0 (μ.2.2 148 4)) hI_μ9
    have f78 : (μ9.1 (sel 0 (μ.2.2 148 4)) 4).toInt = (μ.1 (sel 0 (μ.2.2 148 4)) 4).toInt := congrArg Int32.toInt ((by rw [e_μ9]; exact sF_k (by decide) : μ9.1 (sel 0 (μ.2.2 148 4)) 4 = μ.1 (sel 0 (μ.2.2 148 4)) 4))
    exact ok_some ⟨hI_μ9, hF_μ9, by (try dsimp only); (try rw [hr_μ9]); omega⟩
  intro c76
  rw [ti_eq] at c76
  refine ok_ite ?_ ?_
  · intro c79
    rw [ti_eq] at c79
    refine ok_bd (k_X8_fromTop (0 : Int32) μ9 hI_μ9) ?_
    rintro r81 μ80 hq9
    obtain rfl : μ9 = μ80 := hq9
    try rw [hr_μ9]
    refine ok_bd (k_X8_num r81 μ9 hI_μ9) ?_
    rintro r83 μ82 hq9
    obtain rfl : μ9 = μ82 := hq9
    try rw [hr_μ9]
    have g86 := rgc_0_4 (sel_0 (μ.2.2 148 4)) hI_μ9
    have f87 : (μ9.1 (sel 0 (μ.2.2 148 4)) 4).toInt = (μ.1 (sel 0 (μ.2.2 148 4)) 4).toInt := congrArg Int32.toInt ((by rw [e_μ9]; exact sF_k (by decide) : μ9.1 (sel 0 (μ.2.2 148 4)) 4 = μ.1 (sel 0 (μ.2.2 148 4)) 4))
    refine ok_bw (k_X1_writeOut (sel 0 (μ.2.2 148 4)) (sel_0 _) r83 μ9 hI_μ9 (by (try rw [hr_μ9]); omega)) ?_
    rintro μ84 ⟨hI_μ84, hC_μ84, p_μ84⟩
    have hF_μ84 : Fr [(0, 30, 5), (0, 30, 7), (0, 30, 10), (0, 148, 5), (1, 33, 0), (1, 34, 0), (1, 38, 0), (2, 0, 0), (2, 0, 1), (2, 0, 2), (2, 0, 3), (2, 0, 4), (2, 0, 5), (2, 0, 6), (2, 1, 2), (3, 0, 2)] true μ μ84 := hF_μ9.trans (hC_μ84.mono (by decide +kernel) (by decide))
    have hr_μ84 : μ84.2.2 = μ.2.2 := (hC_μ84.2 rfl : μ84.2.2 = μ9.2.2).trans hr_μ9
    try rw [hr_μ84]
    try simp only [hr_μ84, hr_μ9] at p_μ84
    have g88 := rgc_0_4 (sel_0 (μ.2.2 148 4)) hI_μ84
    exact ok_some ⟨hI_μ84, hF_μ84, by (try dsimp only); (try rw [hr_μ84]); omega⟩
  intro c79
  rw [ti_eq] at c79
  refine ok_ite ?_ ?_
  · intro c89
    rw [ti_eq] at c89
    refine ok_bd (k_X8_popNum  μ9 hI_μ9) ?_
    rintro r91 μ90 ⟨hI_μ90, hC_μ90⟩
    have hI_μ90 : IX μ90 := hI_μ90
    have hC_μ90 : Fr [(0, 30, 7)] true μ9 μ90 := hC_μ90
    have hF_μ90 : Fr [(0, 30, 5), (0, 30, 7), (0, 30, 10), (0, 148, 5), (1, 33, 0), (1, 34, 0), (1, 38, 0), (2, 0, 0), (2, 0, 1), (2, 0, 2), (2, 0, 3), (2, 0, 4), (2, 0, 5), (2, 0, 6), (2, 1, 2), (3, 0, 2)] true μ μ90 := hF_μ9.trans (hC_μ90.mono (by decide +kernel) (by decide))
    have hr_μ90 : μ90.2.2 = μ.2.2 := (hC_μ90.2 rfl : μ90.2.2 = μ9.2.2).trans hr_μ9
    try rw [hr_μ90]
    refine ok_bd (k_X1_put (sel 0 (μ.2.2 148 4)) (sel_0 _) r6 (s_X0_stored r6 r91) μ90 hI_μ90) ?_
    rintro r93 μ92 ⟨hI_μ92, hC_μ92⟩
    have hI_μ92 : IX μ92 := hI_μ92
    have hC_μ92 : Fr [(3, 0, 2)] true μ90 μ92 := hC_μ92
    have hF_μ92 : Fr [(0, 30, 5), (0, 30, 7), (0, 30, 10), (0, 148, 5), (1, 33, 0), (1, 34, 0), (1, 38, 0), (2, 0, 0), (2, 0, 1), (2, 0, 2), (2, 0, 3), (2, 0, 4), (2, 0, 5), (2, 0, 6), (2, 1, 2), (3, 0, 2)] true μ μ92 := hF_μ90.trans (hC_μ92.mono (by decide +kernel) (by decide))
    have hr_μ92 : μ92.2.2 = μ.2.2 := (hC_μ92.2 rfl : μ92.2.2 = μ90.2.2).trans hr_μ90
    try rw [hr_μ92]
    refine ok_bw (k_X8_push r93 μ92 hI_μ92) ?_
    rintro μ94 ⟨hI_μ94, hC_μ94⟩
    have hF_μ94 : Fr [(0, 30, 5), (0, 30, 7), (0, 30, 10), (0, 148, 5), (1, 33, 0), (1, 34, 0), (1, 38, 0), (2, 0, 0), (2, 0, 1), (2, 0, 2), (2, 0, 3), (2, 0, 4), (2, 0, 5), (2, 0, 6), (2, 1, 2), (3, 0, 2)] true μ μ94 := hF_μ92.trans (hC_μ94.mono (by decide +kernel) (by decide))
    have hr_μ94 : μ94.2.2 = μ.2.2 := (hC_μ94.2 rfl : μ94.2.2 = μ92.2.2).trans hr_μ92
    try rw [hr_μ94]
    have g96 := rgc_0_4 (sel_0 (μ.2.2 148 4)) hI_μ94
    have f97 : (μ94.1 (sel 0 (μ.2.2 148 4)) 4).toInt = (μ.1 (sel 0 (μ.2.2 148 4)) 4).toInt := congrArg Int32.toInt ((hC_μ94.1 _ _ (cls_free (by decide +kernel) (sel_0 (μ.2.2 148 4)))).trans ((hC_μ92.1 _ _ (cls_free (by decide +kernel) (sel_0 (μ.2.2 148 4)))).trans ((hC_μ90.1 _ _ (cls_free (by decide +kernel) (sel_0 (μ.2.2 148 4)))).trans ((by rw [e_μ9]; exact sF_k (by decide) : μ9.1 (sel 0 (μ.2.2 148 4)) 4 = μ.1 (sel 0 (μ.2.2 148 4)) 4)))))
    exact ok_some ⟨hI_μ94, hF_μ94, by (try dsimp only); (try rw [hr_μ94]); omega⟩
  intro c89
  rw [ti_eq] at c89
  refine ok_ite ?_ ?_
  · intro c98
    rw [ti_eq] at c98
    refine ok_bd (k_X1_get (sel 0 (μ.2.2 148 4)) (sel_0 _) r6 μ9 hI_μ9) ?_
    rintro r100 μ99 hq9
    obtain rfl : μ9 = μ99 := hq9
    try rw [hr_μ9]
    refine ok_bw (k_X8_push r100 μ9 hI_μ9) ?_
    rintro μ101 ⟨hI_μ101, hC_μ101⟩
    have hF_μ101 : Fr [(0, 30, 5), (0, 30, 7), (0, 30, 10), (0, 148, 5), (1, 33, 0), (1, 34, 0), (1, 38, 0), (2, 0, 0), (2, 0, 1), (2, 0, 2), (2, 0, 3), (2, 0, 4), (2, 0, 5), (2, 0, 6), (2, 1, 2), (3, 0, 2)] true μ μ101 := hF_μ9.trans (hC_μ101.mono (by decide +kernel) (by decide))
    have hr_μ101 : μ101.2.2 = μ.2.2 := (hC_μ101.2 rfl : μ101.2.2 = μ9.2.2).trans hr_μ9
    try rw [hr_μ101]
    have g103 := rgc_0_4 (sel_0 (μ.2.2 148 4)) hI_μ101
    have f104 : (μ101.1 (sel 0 (μ.2.2 148 4)) 4).toInt = (μ.1 (sel 0 (μ.2.2 148 4)) 4).toInt := congrArg Int32.toInt ((hC_μ101.1 _ _ (cls_free (by decide +kernel) (sel_0 (μ.2.2 148 4)))).trans ((by rw [e_μ9]; exact sF_k (by decide) : μ9.1 (sel 0 (μ.2.2 148 4)) 4 = μ.1 (sel 0 (μ.2.2 148 4)) 4)))
    exact ok_some ⟨hI_μ101, hF_μ101, by (try dsimp only); (try rw [hr_μ101]); omega⟩
  intro c98
  rw [ti_eq] at c98
  refine ok_ite ?_ ?_
  · intro c105
    rw [ti_eq] at c105
    refine ok_bd (k_X8_pop  μ9 hI_μ9) ?_
    rintro r107 μ106 ⟨hI_μ106, hC_μ106⟩
    have hI_μ106 : IX μ106 := hI_μ106
    have hC_μ106 : Fr [(0, 30, 7)] true μ9 μ106 := hC_μ106
    have hF_μ106 : Fr [(0, 30, 5), (0, 30, 7), (0, 30, 10), (0, 148, 5), (1, 33, 0), (1, 34, 0), (1, 38, 0), (2, 0, 0), (2, 0, 1), (2, 0, 2), (2, 0, 3), (2, 0, 4), (2, 0, 5), (2, 0, 6), (2, 1, 2), (3, 0, 2)] true μ μ106 := hF_μ9.trans (hC_μ106.mono (by decide +kernel) (by decide))
    have hr_μ106 : μ106.2.2 = μ.2.2 := (hC_μ106.2 rfl : μ106.2.2 = μ9.2.2).trans hr_μ9
    try rw [hr_μ106]
    refine ok_bw (k_X8_setVar r6 r107 μ106 hI_μ106) ?_
    rintro μ108 ⟨hI_μ108, hC_μ108⟩
    have hF_μ108 : Fr [(0, 30, 5), (0, 30, 7), (0, 30, 10), (0, 148, 5), (1, 33, 0), (1, 34, 0), (1, 38, 0), (2, 0, 0), (2, 0, 1), (2, 0, 2), (2, 0, 3), (2, 0, 4), (2, 0, 5), (2, 0, 6), (2, 1, 2), (3, 0, 2)] true μ μ108 := hF_μ106.trans (hC_μ108.mono (by decide +kernel) (by decide))
    have hr_μ108 : μ108.2.2 = μ.2.2 := (hC_μ108.2 rfl : μ108.2.2 = μ106.2.2).trans hr_μ106
    try rw [hr_μ108]
    have g110 := rgc_0_4 (sel_0 (μ.2.2 148 4)) hI_μ108
    have f111 : (μ108.1 (sel 0 (μ.2.2 148 4)) 4).toInt = (μ.1 (sel 0 (μ.2.2 148 4)) 4).toInt := congrArg Int32.toInt ((hC_μ108.1 _ _ (cls_free (by decide +kernel) (sel_0 (μ.2.2 148 4)))).trans ((hC_μ106.1 _ _ (cls_free (by decide +kernel) (sel_0 (μ.2.2 148 4)))).trans ((by rw [e_μ9]; exact sF_k (by decide) : μ9.1 (sel 0 (μ.2.2 148 4)) 4 = μ.1 (sel 0 (μ.2.2 148 4)) 4))))
    exact ok_some ⟨hI_μ108, hF_μ108, by (try dsimp only); (try rw [hr_μ108]); omega⟩
  intro c105
  rw [ti_eq] at c105
  refine ok_ite ?_ ?_
  · intro c112
    rw [ti_eq] at c112
    refine ok_bw (k_X7_call r6 r8 μ9 hI_μ9 (by (try rw [hr_μ9]); omega)) ?_
    rintro μ113 ⟨hI_μ113, hC_μ113⟩
    have hF_μ113 : Fr [(0, 30, 5), (0, 30, 7), (0, 30, 10), (0, 148, 5), (1, 33, 0), (1, 34, 0), (1, 38, 0), (2, 0, 0), (2, 0, 1), (2, 0, 2), (2, 0, 3), (2, 0, 4), (2, 0, 5), (2, 0, 6), (2, 1, 2), (3, 0, 2)] true μ μ113 := hF_μ9.trans (hC_μ113.mono (by decide +kernel) (by decide))
    have hr_μ113 : μ113.2.2 = μ.2.2 := (hC_μ113.2 rfl : μ113.2.2 = μ9.2.2).trans hr_μ9
    try rw [hr_μ113]
    have g115 := rgc_0_4 (sel_0 (μ.2.2 148 4)) hI_μ113
    have f116 : (μ113.1 (sel 0 (μ.2.2 148 4)) 4).toInt = (μ.1 (sel 0 (μ.2.2 148 4)) 4).toInt := congrArg Int32.toInt ((hC_μ113.1 _ _ (cls_free (by decide +kernel) (sel_0 (μ.2.2 148 4)))).trans ((by rw [e_μ9]; exact sF_k (by decide) : μ9.1 (sel 0 (μ.2.2 148 4)) 4 = μ.1 (sel 0 (μ.2.2 148 4)) 4)))
    exact ok_some ⟨hI_μ113, hF_μ113, by (try dsimp only); (try rw [hr_μ113]); omega⟩
  intro c112
  rw [ti_eq] at c112
  refine ok_bw (k_X7_goBack  μ9 hI_μ9) ?_
  rintro μ117 ⟨hI_μ117, hC_μ117⟩
  have hF_μ117 : Fr [(0, 30, 5), (0, 30, 7), (0, 30, 10), (0, 148, 5), (1, 33, 0), (1, 34, 0), (1, 38, 0), (2, 0, 0), (2, 0, 1), (2, 0, 2), (2, 0, 3), (2, 0, 4), (2, 0, 5), (2, 0, 6), (2, 1, 2), (3, 0, 2)] true μ μ117 := hF_μ9.trans (hC_μ117.mono (by decide +kernel) (by decide))
  have hr_μ117 : μ117.2.2 = μ.2.2 := (hC_μ117.2 rfl : μ117.2.2 = μ9.2.2).trans hr_μ9
  try rw [hr_μ117]
  have g119 := rgc_0_4 (sel_0 (μ.2.2 148 4)) hI_μ117
  have f120 : (μ117.1 (sel 0 (μ.2.2 148 4)) 4).toInt = (μ.1 (sel 0 (μ.2.2 148 4)) 4).toInt := congrArg Int32.toInt ((hC_μ117.1 _ _ (cls_free (by decide +kernel) (sel_0 (μ.2.2 148 4)))).trans ((by rw [e_μ9]; exact sF_k (by decide) : μ9.1 (sel 0 (μ.2.2 148 4)) 4 = μ.1 (sel 0 (μ.2.2 148 4)) 4)))
  exact ok_some ⟨hI_μ117, hF_μ117, by (try dsimp only); (try rw [hr_μ117]); omega⟩

set_option maxHeartbeats 4000000 in
set_option maxRecDepth 100000 in
theorem k_X7_runTask_b131 : ∀ (n : Nat) (a6 : Int32) (μ : Mem), IX μ → (0 ≤ (a6).toInt ∧ (a6).toInt ≤ 1000000 ∧ (μ.1 (sel 0 (μ.2.2 148 4)) 4).toInt ≤ (a6).toInt ∧ 1000000 - (a6).toInt < n) → ok (p_X7_runTask_b131 n a6 μ) (fun q => IX q ∧ Fr [(0, 30, 5), (0, 30, 7), (0, 30, 10), (0, 148, 5), (1, 33, 0), (1, 34, 0), (1, 38, 0), (2, 0, 0), (2, 0, 1), (2, 0, 2), (2, 0, 3), (2, 0, 4), (2, 0, 5), (2, 0, 6), (2, 1, 2), (2, 1, 3), (3, 0, 2)] false μ q) := by
  have li0 : (0 : Int32).toInt = 0 := by decide
  have li1 : (1 : Int32).toInt = 1 := by decide
  have li1000000 : (1000000 : Int32).toInt = 1000000 := by decide
  intro n
  induction n with
  | zero => intro a6 μ hI_μ hc; exact absurd hc (by have lo_a6 := ti_lo a6; have hi_a6 := ti_hi a6; omega)
  | succ n ih =>
    intro a6 μ hI_μ hc
    have hF_μ : Fr [(0, 30, 5), (0, 30, 7), (0, 30, 10), (0, 148, 5), (1, 33, 0), (1, 34, 0), (1, 38, 0), (2, 0, 0), (2, 0, 1), (2, 0, 2), (2, 0, 3), (2, 0, 4), (2, 0, 5), (2, 0, 6), (2, 1, 2), (2, 1, 3), (3, 0, 2)] false μ μ := Fr.rf
    have hr_μ : μ.2.2 = μ.2.2 := rfl
    rw [p_X7_runTask_b131_s]
    have lo_a6 := ti_lo a6
    have hi_a6 := ti_hi a6
    have g19 := rgc_0_4 (sel_0 (μ.2.2 148 4)) hI_μ
    refine ok_ite ?_ ?_
    · intro c20
      rw [ti_le] at c20
      exact ok_some ⟨hI_μ, hF_μ⟩
    · intro c20
      rw [ti_le] at c20
      refine ok_bd (k_X1_isRunning (sel 0 (μ.2.2 148 4)) (sel_0 _) μ hI_μ) ?_
      rintro r22 μ21 ⟨hq9, p_r22⟩
      obtain rfl : μ = μ21 := hq9
      dsimp only at p_r22
      have lo_r22 := ti_lo r22
      have hi_r22 := ti_hi r22
      refine ok_ite ?_ ?_
      · intro c23
        rw [ti_eq] at c23
        exact ok_some ⟨hI_μ, hF_μ⟩
      · intro c23
        rw [ti_eq] at c23
        refine ok_bw (k_X7_step  μ hI_μ (by omega)) ?_
        rintro μ24 ⟨hI_μ24, hC_μ24, p_μ24⟩
        have hF_μ24 : Fr [(0, 30, 5), (0, 30, 7), (0, 30, 10), (0, 148, 5), (1, 33, 0), (1, 34, 0), (1, 38, 0), (2, 0, 0), (2, 0, 1), (2, 0, 2), (2, 0, 3), (2, 0, 4), (2, 0, 5), (2, 0, 6), (2, 1, 2), (2, 1, 3), (3, 0, 2)] false μ μ24 := hF_μ.trans (hC_μ24.mono (by decide +kernel) (by decide))
        have hr_μ24 : μ24.2.2 = μ.2.2 := (hC_μ24.2 rfl : μ24.2.2 = μ.2.2).trans hr_μ
        try rw [hr_μ24]
        try simp only [hr_μ24, hr_μ] at p_μ24
        have g26 := rgc_0_4 (sel_0 (μ.2.2 148 4)) hI_μ24
        refine ok_bv (fun v27 ev27 => ?_)
        first | have tv27 : v27.toInt = (a6.toInt + 1) := (congrArg Int32.toInt ev27).trans (TI.e (n := (a6.toInt + 1)) (TI.add TI.rf (TI.lit (by decide)) (by omega) (by omega))) | have tv27 : v27.toInt ≤ a6.toInt + 1 := by rw [ev27]; exact ti_inc _ | skip
        exact ok_mono (ih v27 μ24 hI_μ24 (by (try rw [hr_μ24]); omega)) (fun q h => ⟨h.1, hF_μ24.trans h.2⟩)
set_option maxHeartbeats 4000000 in
set_option maxRecDepth 100000 in
theorem k_X7_runTask_b63 : ∀ (n : Nat) (a2 : Nat) (q2 : sh 0 a2 = (0, 1)) (a5 : Int32) (a6 : Int32) (μ : Mem), IX μ → (0 ≤ (a6).toInt ∧ 0 ≤ (a5).toInt ∧ (a5).toInt ≤ 5 ∧ (μ.1 (sel 0 (μ.2.2 148 4)) 4).toInt ≤ 0 ∧ 2147483648 - (a6).toInt < n) → ok (p_X7_runTask_b63 n a2 a5 a6 μ) (fun q => IX q ∧ Fr [(0, 30, 5), (0, 30, 7), (0, 30, 10), (0, 148, 5), (1, 33, 0), (1, 34, 0), (1, 38, 0), (2, 0, 0), (2, 0, 1), (2, 0, 2), (2, 0, 3), (2, 0, 4), (2, 0, 5), (2, 0, 6), (2, 1, 2), (2, 1, 3), (3, 0, 2)] false μ q) := by
  have li0 : (0 : Int32).toInt = 0 := by decide
  have li1 : (1 : Int32).toInt = 1 := by decide
  have li2 : (2 : Int32).toInt = 2 := by decide
  have li40 : (40 : Int32).toInt = 40 := by decide
  intro n
  induction n with
  | zero => intro a2 q2 a5 a6 μ hI_μ hc; exact absurd hc (by have lo_a5 := ti_lo a5; have hi_a5 := ti_hi a5; have lo_a6 := ti_lo a6; have hi_a6 := ti_hi a6; omega)
  | succ n ih =>
    intro a2 q2 a5 a6 μ hI_μ hc
    have hF_μ : Fr [(0, 30, 5), (0, 30, 7), (0, 30, 10), (0, 148, 5), (1, 33, 0), (1, 34, 0), (1, 38, 0), (2, 0, 0), (2, 0, 1), (2, 0, 2), (2, 0, 3), (2, 0, 4), (2, 0, 5), (2, 0, 6), (2, 1, 2), (2, 1, 3), (3, 0, 2)] false μ μ := Fr.rf
    have hr_μ : μ.2.2 = μ.2.2 := rfl
    rw [p_X7_runTask_b63_s]
    have lo_a5 := ti_lo a5
    have hi_a5 := ti_hi a5
    have lo_a6 := ti_lo a6
    have hi_a6 := ti_hi a6
    have g14 := rgc_0_4 (sel_0 (μ.2.2 148 4)) hI_μ
    refine ok_ite ?_ ?_
    · intro c15
      rw [ti_le] at c15
      have g16 := ti_lo (μ.1 a2 3)
      have g16h := ti_hi (μ.1 a2 3)
      refine ok_bw (k_X7_call (μ.1 a2 3) a5 μ hI_μ (by omega)) ?_
      rintro μ17 ⟨hI_μ17, hC_μ17⟩
      have hF_μ17 : Fr [(0, 30, 5), (0, 30, 7), (0, 30, 10), (0, 148, 5), (1, 33, 0), (1, 34, 0), (1, 38, 0), (2, 0, 0), (2, 0, 1), (2, 0, 2), (2, 0, 3), (2, 0, 4), (2, 0, 5), (2, 0, 6), (2, 1, 2), (2, 1, 3), (3, 0, 2)] false μ μ17 := hF_μ.trans (hC_μ17.mono (by decide +kernel) (by decide))
      have hr_μ17 : μ17.2.2 = μ.2.2 := (hC_μ17.2 rfl : μ17.2.2 = μ.2.2).trans hr_μ
      try rw [hr_μ17]
      have g28 := rgc_0_4 (sel_0 (μ.2.2 148 4)) hI_μ17
      have f29 : (μ17.1 (sel 0 (μ.2.2 148 4)) 4).toInt = (μ.1 (sel 0 (μ.2.2 148 4)) 4).toInt := congrArg Int32.toInt (hC_μ17.1 _ _ (cls_free (by decide +kernel) (sel_0 (μ.2.2 148 4))))
      obtain ⟨fu, hfu0, hfu⟩ := fuel_ex
      rw [hfu0]
      exact ok_mono (k_X7_runTask_b131  fu (0 : Int32) μ17 hI_μ17 (by (try rw [hr_μ17]); omega)) (fun q h => ⟨h.1, hF_μ17.trans h.2⟩)
    · intro c15
      rw [ti_le] at c15
      refine ok_gd (inb_iff.mpr (by omega)) ?_
      refine ok_bd (k_X8_weightOf (μ.2.1 150 a6.toNatClampNeg) μ hI_μ) ?_
      rintro r31 μ30 hq9
      obtain rfl : μ = μ30 := hq9
      have lo_r31 := ti_lo r31
      have hi_r31 := ti_hi r31
      refine ok_ite ?_ ?_
      · intro c32
        rw [ti_le] at c32
        refine ok_gd (inb_iff.mpr (by omega)) ?_
        refine ok_bw (k_X8_push (μ.2.1 150 a6.toNatClampNeg) μ hI_μ) ?_
        rintro μ33 ⟨hI_μ33, hC_μ33⟩
        have hF_μ33 : Fr [(0, 30, 5), (0, 30, 7), (0, 30, 10), (0, 148, 5), (1, 33, 0), (1, 34, 0), (1, 38, 0), (2, 0, 0), (2, 0, 1), (2, 0, 2), (2, 0, 3), (2, 0, 4), (2, 0, 5), (2, 0, 6), (2, 1, 2), (2, 1, 3), (3, 0, 2)] false μ μ33 := hF_μ.trans (hC_μ33.mono (by decide +kernel) (by decide))
        have hr_μ33 : μ33.2.2 = μ.2.2 := (hC_μ33.2 rfl : μ33.2.2 = μ.2.2).trans hr_μ
        try rw [hr_μ33]
        refine ok_bv (fun v35 ev35 => ?_)
        first | have tv35 : v35.toInt = (a6.toInt + 1) := (congrArg Int32.toInt ev35).trans (TI.e (n := (a6.toInt + 1)) (TI.add TI.rf (TI.lit (by decide)) (by omega) (by omega))) | have tv35 : v35.toInt ≤ a6.toInt + 1 := by rw [ev35]; exact ti_inc _ | skip
        have g36 := rgc_0_4 (sel_0 (μ.2.2 148 4)) hI_μ33
        have f37 : (μ33.1 (sel 0 (μ.2.2 148 4)) 4).toInt = (μ.1 (sel 0 (μ.2.2 148 4)) 4).toInt := congrArg Int32.toInt (hC_μ33.1 _ _ (cls_free (by decide +kernel) (sel_0 (μ.2.2 148 4))))
        exact ok_mono (ih a2 q2 a5 v35 μ33 hI_μ33 (by (try rw [hr_μ33]); omega)) (fun q h => ⟨h.1, hF_μ33.trans h.2⟩)
      · intro c32
        rw [ti_le] at c32
        refine ok_bv (fun μ38 e_μ38 => ?_)
        have hI_μ38 : IX μ38 := by rw [e_μ38]; exact IX_F hI_μ (rtc_0_0 (sel_0 (μ.2.2 148 4)) _)
        have hF_μ38 : Fr [(0, 30, 5), (0, 30, 7), (0, 30, 10), (0, 148, 5), (1, 33, 0), (1, 34, 0), (1, 38, 0), (2, 0, 0), (2, 0, 1), (2, 0, 2), (2, 0, 3), (2, 0, 4), (2, 0, 5), (2, 0, 6), (2, 1, 2), (2, 1, 3), (3, 0, 2)] false μ μ38 := by rw [e_μ38]; exact Fr.putc (ci := 0) hF_μ (by decide +kernel) (sel_0 (μ.2.2 148 4))
        have v_μ38 : (μ38.1 (sel 0 (μ.2.2 148 4)) 0).toInt = 2 := by rw [e_μ38, sF_v]; exact TI.e (n := 2) (TI.lit (by decide))
        have hr_μ38 : μ38.2.2 = μ.2.2 := (by rw [e_μ38]; rfl : μ38.2.2 = μ.2.2).trans hr_μ
        try rw [hr_μ38]
        exact ok_some ⟨hI_μ38, hF_μ38⟩
set_option maxHeartbeats 4000000 in
set_option maxRecDepth 100000 in
theorem k_X7_runTask (a1 : Nat) (q1 : sh 0 a1 = (0, 2)) (a2 : Nat) (q2 : sh 0 a2 = (0, 1)) (a3 : Nat) (q3 : sh 0 a3 = (0, 1)) (a4 : Nat) (q4 : sh 0 a4 = (0, 0)) (μ : Mem) (hI_μ : IX μ) : ok (p_X7_runTask a1 a2 a3 a4 μ) (fun q => IX q ∧ Fr [(0, 30, 5), (0, 30, 7), (0, 30, 10), (0, 148, 5), (1, 33, 0), (1, 34, 0), (1, 38, 0), (2, 0, 0), (2, 0, 1), (2, 0, 2), (2, 0, 3), (2, 0, 4), (2, 0, 5), (2, 0, 6), (2, 1, 2), (2, 1, 3), (3, 0, 2)] false μ q) := by
  have li0 : (0 : Int32).toInt = 0 := by decide
  have li1 : (1 : Int32).toInt = 1 := by decide
  have hF_μ : Fr [(0, 30, 5), (0, 30, 7), (0, 30, 10), (0, 148, 5), (1, 33, 0), (1, 34, 0), (1, 38, 0), (2, 0, 0), (2, 0, 1), (2, 0, 2), (2, 0, 3), (2, 0, 4), (2, 0, 5), (2, 0, 6), (2, 1, 2), (2, 1, 3), (3, 0, 2)] false μ μ := Fr.rf
  have hr_μ : μ.2.2 = μ.2.2 := rfl
  rw [p_X7_runTask_eq]
  refine ok_bv (fun μ1 e_μ1 => ?_)
  have hI_μ1 : IX μ1 := by rw [e_μ1]; exact IX_R hI_μ
  have hF_μ1 : Fr [(0, 30, 5), (0, 30, 7), (0, 30, 10), (0, 148, 5), (1, 33, 0), (1, 34, 0), (1, 38, 0), (2, 0, 0), (2, 0, 1), (2, 0, 2), (2, 0, 3), (2, 0, 4), (2, 0, 5), (2, 0, 6), (2, 1, 2), (2, 1, 3), (3, 0, 2)] false μ μ1 := by rw [e_μ1]; exact ⟨hF_μ.1, fun h9 => absurd h9 (by decide)⟩
  have hr_μ1 : μ1.2.2 = μ1.2.2 := rfl
  refine ok_bv (fun μ2 e_μ2 => ?_)
  have hI_μ2 : IX μ2 := by rw [e_μ2]; exact IX_R hI_μ1
  have hF_μ2 : Fr [(0, 30, 5), (0, 30, 7), (0, 30, 10), (0, 148, 5), (1, 33, 0), (1, 34, 0), (1, 38, 0), (2, 0, 0), (2, 0, 1), (2, 0, 2), (2, 0, 3), (2, 0, 4), (2, 0, 5), (2, 0, 6), (2, 1, 2), (2, 1, 3), (3, 0, 2)] false μ μ2 := by rw [e_μ2]; exact ⟨hF_μ1.1, fun h9 => absurd h9 (by decide)⟩
  have hr_μ2 : μ2.2.2 = μ2.2.2 := rfl
  refine ok_bw (k_X1_clear (sel 0 (μ2.2.2 148 4)) (sel_0 _) μ2 hI_μ2) ?_
  rintro μ3 ⟨hI_μ3, hC_μ3, p_μ3⟩
  have hF_μ3 : Fr [(0, 30, 5), (0, 30, 7), (0, 30, 10), (0, 148, 5), (1, 33, 0), (1, 34, 0), (1, 38, 0), (2, 0, 0), (2, 0, 1), (2, 0, 2), (2, 0, 3), (2, 0, 4), (2, 0, 5), (2, 0, 6), (2, 1, 2), (2, 1, 3), (3, 0, 2)] false μ μ3 := hF_μ2.trans (hC_μ3.mono (by decide +kernel) (by decide))
  have hr_μ3 : μ3.2.2 = μ2.2.2 := (hC_μ3.2 rfl : μ3.2.2 = μ2.2.2).trans hr_μ2
  try rw [hr_μ3]
  have g5 := rgc_0_4 (sel_0 (μ2.2.2 148 4)) hI_μ3
  refine ok_bw (k_X8_clear  μ3 hI_μ3) ?_
  rintro μ6 ⟨hI_μ6, hC_μ6⟩
  have hF_μ6 : Fr [(0, 30, 5), (0, 30, 7), (0, 30, 10), (0, 148, 5), (1, 33, 0), (1, 34, 0), (1, 38, 0), (2, 0, 0), (2, 0, 1), (2, 0, 2), (2, 0, 3), (2, 0, 4), (2, 0, 5), (2, 0, 6), (2, 1, 2), (2, 1, 3), (3, 0, 2)] false μ μ6 := hF_μ3.trans (hC_μ6.mono (by decide +kernel) (by decide))
  have hr_μ6 : μ6.2.2 = μ2.2.2 := (hC_μ6.2 rfl : μ6.2.2 = μ3.2.2).trans hr_μ3
  try rw [hr_μ6]
  have l10 : (sh 0 149).2 = 8 := by rw [shx_149]
  refine ok_bd (k_X8_build a3 q3 149 (sh_f shx_149) 149 (sh_f shx_149) μ6 hI_μ6) ?_
  rintro r9 μ8 ⟨hI_μ8, hC_μ8, p_μ8⟩
  have hI_μ8 : IX μ8 := hI_μ8
  have hC_μ8 : Fr [(0, 30, 5), (1, 33, 0), (1, 34, 0)] true μ6 μ8 := hC_μ8
  dsimp only at p_μ8
  have lo_r9 := ti_lo r9
  have hi_r9 := ti_hi r9
  have hF_μ8 : Fr [(0, 30, 5), (0, 30, 7), (0, 30, 10), (0, 148, 5), (1, 33, 0), (1, 34, 0), (1, 38, 0), (2, 0, 0), (2, 0, 1), (2, 0, 2), (2, 0, 3), (2, 0, 4), (2, 0, 5), (2, 0, 6), (2, 1, 2), (2, 1, 3), (3, 0, 2)] false μ μ8 := hF_μ6.trans (hC_μ8.mono (by decide +kernel) (by decide))
  have hr_μ8 : μ8.2.2 = μ2.2.2 := (hC_μ8.2 rfl : μ8.2.2 = μ6.2.2).trans hr_μ6
  try rw [hr_μ8]
  have l13 : (sh 0 150).2 = 5 := by rw [shx_150]
  refine ok_bd (k_X8_build a2 q2 149 (sh_f shx_149) 150 (sh_f shx_150) μ8 hI_μ8) ?_
  rintro r12 μ11 ⟨hI_μ11, hC_μ11, p_μ11⟩
  have hI_μ11 : IX μ11 := hI_μ11
  have hC_μ11 : Fr [(0, 30, 5), (1, 33, 0), (1, 34, 0)] true μ8 μ11 := hC_μ11
  dsimp only at p_μ11
  have lo_r12 := ti_lo r12
  have hi_r12 := ti_hi r12
  have hF_μ11 : Fr [(0, 30, 5), (0, 30, 7), (0, 30, 10), (0, 148, 5), (1, 33, 0), (1, 34, 0), (1, 38, 0), (2, 0, 0), (2, 0, 1), (2, 0, 2), (2, 0, 3), (2, 0, 4), (2, 0, 5), (2, 0, 6), (2, 1, 2), (2, 1, 3), (3, 0, 2)] false μ μ11 := hF_μ8.trans (hC_μ11.mono (by decide +kernel) (by decide))
  have hr_μ11 : μ11.2.2 = μ2.2.2 := (hC_μ11.2 rfl : μ11.2.2 = μ8.2.2).trans hr_μ8
  try rw [hr_μ11]
  have g39 := rgc_0_4 (sel_0 (μ2.2.2 148 4)) hI_μ11
  have f40 : (μ11.1 (sel 0 (μ2.2.2 148 4)) 4).toInt = (μ3.1 (sel 0 (μ2.2.2 148 4)) 4).toInt := congrArg Int32.toInt ((hC_μ11.1 _ _ (cls_free (by decide +kernel) (sel_0 (μ2.2.2 148 4)))).trans ((hC_μ8.1 _ _ (cls_free (by decide +kernel) (sel_0 (μ2.2.2 148 4)))).trans (hC_μ6.1 _ _ (cls_free (by decide +kernel) (sel_0 (μ2.2.2 148 4))))))
  obtain ⟨fu, hfu0, hfu⟩ := fuel_ex
  rw [hfu0]
  exact ok_mono (k_X7_runTask_b63  fu a2 q2 r12 (0 : Int32) μ11 hI_μ11 (by (try rw [hr_μ11]); omega)) (fun q h => ⟨h.1, hF_μ11.trans h.2⟩)

set_option maxHeartbeats 4000000 in
set_option maxRecDepth 100000 in
theorem k_X6_setRegister (a1 : Int32) (a2 : Int32) (a3 : Int64) (μ : Mem) (hI_μ : IX μ) : ok (p_X6_setRegister a1 a2 a3 μ) (fun q => IX q ∧ Fr [] true μ q) := by
  have li0 : (0 : Int32).toInt = 0 := by decide
  have li1 : (1 : Int32).toInt = 1 := by decide
  have li9548 : (9548 : Int32).toInt = 9548 := by decide
  have hF_μ : Fr [] true μ μ := Fr.rf
  have hr_μ : μ.2.2 = μ.2.2 := rfl
  rw [p_X6_setRegister_eq]
  have lo_a1 := ti_lo a1
  have hi_a1 := ti_hi a1
  have lo_a2 := ti_lo a2
  have hi_a2 := ti_hi a2
  refine ok_bv (fun v1 ev1 => ?_)
  first | have tv1 : v1.toInt = (a1.toInt + a2.toInt) := (congrArg Int32.toInt ev1).trans (TI.e (n := (a1.toInt + a2.toInt)) (TI.add TI.rf TI.rf (by omega) (by omega))) | skip
  refine ok_ite ?_ ?_
  · intro c2
    rw [ti_lt] at c2
    exact ok_some ⟨hI_μ, hF_μ⟩
  · intro c2
    rw [ti_lt] at c2
    refine ok_ite ?_ ?_
    · intro c3
      rw [ti_lt] at c3
      exact ok_some ⟨hI_μ, hF_μ⟩
    · intro c3
      rw [ti_lt] at c3
      refine ok_ite ?_ ?_
      · intro c4
        rw [ti_le] at c4
        exact ok_some ⟨hI_μ, hF_μ⟩
      · intro c4
        rw [ti_le] at c4
        refine ok_gd (inb_iff.mpr (by omega)) ?_
        refine ok_bv (fun μ5 e_μ5 => ?_)
        have hI_μ5 : IX μ5 := by rw [e_μ5]; exact IX_L hI_μ
        have hF_μ5 : Fr [] true μ μ5 := by rw [e_μ5]; exact hF_μ
        have hr_μ5 : μ5.2.2 = μ.2.2 := (by rw [e_μ5]; rfl : μ5.2.2 = μ.2.2).trans hr_μ
        try rw [hr_μ5]
        exact ok_some ⟨hI_μ5, hF_μ5⟩

set_option maxHeartbeats 4000000 in
set_option maxRecDepth 100000 in
theorem k_X5_firstOf (a1 : Int32) (μ : Mem) (hI_μ : IX μ) : ok (p_X5_firstOf a1 μ) (fun q => μ = q.2) := by
  have lim1 : (-1 : Int32).toInt = -1 := by decide
  have li0 : (0 : Int32).toInt = 0 := by decide
  have li1 : (1 : Int32).toInt = 1 := by decide
  have hF_μ : Fr [] true μ μ := Fr.rf
  have hr_μ : μ.2.2 = μ.2.2 := rfl
  rw [p_X5_firstOf_eq]
  have lo_a1 := ti_lo a1
  have hi_a1 := ti_hi a1
  refine ok_bd (k_X5_isBlock a1 μ hI_μ) ?_
  rintro r2 μ1 ⟨hq9, p_r2⟩
  obtain rfl : μ = μ1 := hq9
  dsimp only at p_r2
  have lo_r2 := ti_lo r2
  have hi_r2 := ti_hi r2
  refine ok_ite ?_ ?_
  · intro c3
    rw [ti_eq] at c3
    exact ok_some rfl
  · intro c3
    rw [ti_eq] at c3
    refine ok_gd (inb_iff.mpr (by omega)) ?_
    exact ok_some rfl

set_option maxHeartbeats 4000000 in
set_option maxRecDepth 100000 in
theorem k_X6_enter (a1 : Int32) (μ : Mem) (hI_μ : IX μ) : ok (p_X6_enter a1 μ) (fun q => IX q ∧ Fr [(0, 151, 5), (1, 154, 0), (1, 155, 0)] true μ q) := by
  have li0 : (0 : Int32).toInt = 0 := by decide
  have li1 : (1 : Int32).toInt = 1 := by decide
  have li744 : (744 : Int32).toInt = 744 := by decide
  have hF_μ : Fr [(0, 151, 5), (1, 154, 0), (1, 155, 0)] true μ μ := Fr.rf
  have hr_μ : μ.2.2 = μ.2.2 := rfl
  rw [p_X6_enter_eq]
  have lo_a1 := ti_lo a1
  have hi_a1 := ti_hi a1
  have g1 := rg_151_5 hI_μ
  refine ok_ite ?_ ?_
  · intro c2
    rw [ti_le] at c2
    exact ok_some ⟨hI_μ, hF_μ⟩
  · intro c2
    rw [ti_le] at c2
    refine ok_gd (inb_iff.mpr (by omega)) ?_
    refine ok_bv (fun μ3 e_μ3 => ?_)
    have hI_μ3 : IX μ3 := by rw [e_μ3]; exact IX_F hI_μ (rta_154 _ _)
    have hF_μ3 : Fr [(0, 151, 5), (1, 154, 0), (1, 155, 0)] true μ μ3 := by rw [e_μ3]; exact Fr.puta hF_μ (by decide +kernel)
    have hr_μ3 : μ3.2.2 = μ.2.2 := (by rw [e_μ3]; rfl : μ3.2.2 = μ.2.2).trans hr_μ
    try rw [hr_μ3]
    have g4 := rg_151_5 hI_μ3
    have f5 : (μ3.1 151 5).toInt = (μ.1 151 5).toInt := congrArg Int32.toInt ((by rw [e_μ3]; rfl : μ3.1 151 5 = μ.1 151 5))
    refine ok_bd (k_X5_firstOf a1 μ3 hI_μ3) ?_
    rintro r7 μ6 hq9
    obtain rfl : μ3 = μ6 := hq9
    have lo_r7 := ti_lo r7
    have hi_r7 := ti_hi r7
    try rw [hr_μ3]
    refine ok_gd (inb_iff.mpr (by omega)) ?_
    refine ok_bv (fun μ8 e_μ8 => ?_)
    have hI_μ8 : IX μ8 := by rw [e_μ8]; exact IX_F hI_μ3 (rta_155 _ _)
    have hF_μ8 : Fr [(0, 151, 5), (1, 154, 0), (1, 155, 0)] true μ μ8 := by rw [e_μ8]; exact Fr.puta hF_μ3 (by decide +kernel)
    have hr_μ8 : μ8.2.2 = μ.2.2 := (by rw [e_μ8]; rfl : μ8.2.2 = μ3.2.2).trans hr_μ3
    try rw [hr_μ8]
    have g9 := rg_151_5 hI_μ8
    have f10 : (μ8.1 151 5).toInt = (μ3.1 151 5).toInt := congrArg Int32.toInt ((by rw [e_μ8]; rfl : μ8.1 151 5 = μ3.1 151 5))
    refine ok_bv (fun μ11 e_μ11 => ?_)
    have hI_μ11 : IX μ11 := by rw [e_μ11]; exact IX_F hI_μ8 (rp_151_5 (by (try rw [TI.e (e := ((μ8.1 151 5) + (1 : Int32))) (n := ((μ8.1 151 5).toInt + 1)) (TI.add TI.rf (TI.lit (by decide)) (by omega) (by omega))]); omega))
    have hF_μ11 : Fr [(0, 151, 5), (1, 154, 0), (1, 155, 0)] true μ μ11 := by rw [e_μ11]; exact Fr.put hF_μ8 (by decide +kernel)
    have v_μ11 : (μ11.1 151 5).toInt = ((μ8.1 151 5).toInt + 1) := by rw [e_μ11, sF_v]; exact TI.e (n := ((μ8.1 151 5).toInt + 1)) (TI.add TI.rf (TI.lit (by decide)) (by omega) (by omega))
    have hr_μ11 : μ11.2.2 = μ.2.2 := (by rw [e_μ11]; rfl : μ11.2.2 = μ8.2.2).trans hr_μ8
    try rw [hr_μ11]
    exact ok_some ⟨hI_μ11, hF_μ11⟩

set_option maxHeartbeats 4000000 in
set_option maxRecDepth 100000 in
theorem k_X6_known (a1 : Int64) (μ : Mem) (hI_μ : IX μ) : ok (p_X6_known a1 μ) (fun q => μ = q.2) := by
  have li0 : (0 : Int32).toInt = 0 := by decide
  have li1 : (1 : Int32).toInt = 1 := by decide
  have li3 : (3 : Int32).toInt = 3 := by decide
  have li9548 : (9548 : Int32).toInt = 9548 := by decide
  have hF_μ : Fr [] true μ μ := Fr.rf
  have hr_μ : μ.2.2 = μ.2.2 := rfl
  rw [p_X6_known_eq]
  refine ok_ite ?_ ?_
  · intro c1
    rw [ti_eq] at c1
    have g2 := ti_lo (μ.1 151 6)
    have g2h := ti_hi (μ.1 151 6)
    refine ok_bv (fun v3 ev3 => ?_)
    first | have tv3 : v3.toInt = ((μ.1 151 6).toInt + (a1.toInt32).toInt) := (congrArg Int32.toInt ev3).trans (TI.e (n := ((μ.1 151 6).toInt + (a1.toInt32).toInt)) (TI.add TI.rf (TI.bits a1) (by omega) (by omega))) | skip
    refine ok_ite ?_ ?_
    · intro c4
      rw [ti_lt] at c4
      exact ok_some rfl
    · intro c4
      rw [ti_lt] at c4
      refine ok_ite ?_ ?_
      · intro c5
        rw [ti_le] at c5
        exact ok_some rfl
      · intro c5
        rw [ti_le] at c5
        refine ok_gd (inb_iff.mpr (by omega)) ?_
        exact ok_some rfl
  · intro c1
    rw [ti_eq] at c1
    exact ok_some rfl
