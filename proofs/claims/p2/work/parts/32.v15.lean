set_option maxHeartbeats 4000000 in
set_option maxRecDepth 100000 in
theorem k_X7_step  (μ : Mem) (hI_μ : IX μ) (hc : (μ.1 (sel 0 (μ.2.2 148 4)) 4).toInt < 1000000) : ok (p_X7_step  μ) (fun q => IX q ∧ Fr [(0, 30, 5), (0, 30, 7), (0, 30, 10), (0, 148, 5), (1, 33, 0), (1, 34, 0), (1, 38, 0), (2, 0, 0), (2, 0, 1), (2, 0, 2), (2, 0, 3), (2, 0, 4), (2, 0, 5), (2, 0, 6), (2, 1, 2), (3, 0, 2)] true μ q ∧ ((q.1 (sel 0 (q.2.2 148 4)) 4).toInt ≤ (μ.1 (sel 0 (μ.2.2 148 4)) 4).toInt + 1)) := by
  have li0 : (0 : Int32).toInt = 0 := by decide
  have li1 : (1 : Int32).toInt = 1 := by decide
  have li2 : (2 : Int32).toInt = 2 := by decide
  have li3 : (3 : Int32).toInt = 3 := by decide
  have li4 : (4 : Int32).toInt = 4 := by decide
  have li5 : (5 : Int32).toInt = 5 := by decide
  have li6 : (6 : Int32).toInt = 6 := by decide
  have li7 : (7 : Int32).toInt = 7 := by decide
  have li8 : (8 : Int32).toInt = 8 := by decide
  have li9 : (9 : Int32).toInt = 9 := by decide
  have li10 : (10 : Int32).toInt = 10 := by decide
  have li11 : (11 : Int32).toInt = 11 := by decide
  have li12 : (12 : Int32).toInt = 12 := by decide
  have li13 : (13 : Int32).toInt = 13 := by decide
  have li64 : (64 : Int32).toInt = 64 := by decide
  have hF_μ : Fr [(0, 30, 5), (0, 30, 7), (0, 30, 10), (0, 148, 5), (1, 33, 0), (1, 34, 0), (1, 38, 0), (2, 0, 0), (2, 0, 1), (2, 0, 2), (2, 0, 3), (2, 0, 4), (2, 0, 5), (2, 0, 6), (2, 1, 2), (3, 0, 2)] true μ μ := Fr.rf
  have hr_μ : μ.2.2 = μ.2.2 := rfl
  rw [p_X7_step_eq]
  have g1 := rgc_0_4 (sel_0 (μ.2.2 148 4)) hI_μ
  have g2 := ti_lo (μ.1 148 5)
  have g2h := ti_hi (μ.1 148 5)
  refine ok_bd (k_X3_stepAt (sel 2 (μ.2.2 148 3)) (sel_2 _) (μ.1 148 5) μ hI_μ) ?_
  rintro r4 μ3 ⟨hI_μ3, hC_μ3⟩
  have hI_μ3 : IX μ3 := hI_μ3
  have hC_μ3 : Fr [] true μ μ3 := hC_μ3
  have lo_r4 := ti_lo r4
  have hi_r4 := ti_hi r4
  have hF_μ3 : Fr [(0, 30, 5), (0, 30, 7), (0, 30, 10), (0, 148, 5), (1, 33, 0), (1, 34, 0), (1, 38, 0), (2, 0, 0), (2, 0, 1), (2, 0, 2), (2, 0, 3), (2, 0, 4), (2, 0, 5), (2, 0, 6), (2, 1, 2), (3, 0, 2)] true μ μ3 := hF_μ.trans (hC_μ3.mono (by decide +kernel) (by decide))
  have hr_μ3 : μ3.2.2 = μ.2.2 := (hC_μ3.2 rfl : μ3.2.2 = μ.2.2).trans hr_μ
  try rw [hr_μ3]
  have g5 := ti_lo (μ3.1 148 5)
  have g5h := ti_hi (μ3.1 148 5)
  have f6 : (μ3.1 148 5).toInt = (μ.1 148 5).toInt := congrArg Int32.toInt (hC_μ3.1 148 5 (by decide +kernel))
  refine ok_bd (k_X3_markAt (sel 2 (μ.2.2 148 3)) (sel_2 _) (μ3.1 148 5) μ3 hI_μ3) ?_
  rintro r8 μ7 ⟨hI_μ7, hC_μ7⟩
  have hI_μ7 : IX μ7 := hI_μ7
  have hC_μ7 : Fr [] true μ3 μ7 := hC_μ7
  have lo_r8 := ti_lo r8
  have hi_r8 := ti_hi r8
  have hF_μ7 : Fr [(0, 30, 5), (0, 30, 7), (0, 30, 10), (0, 148, 5), (1, 33, 0), (1, 34, 0), (1, 38, 0), (2, 0, 0), (2, 0, 1), (2, 0, 2), (2, 0, 3), (2, 0, 4), (2, 0, 5), (2, 0, 6), (2, 1, 2), (3, 0, 2)] true μ μ7 := hF_μ3.trans (hC_μ7.mono (by decide +kernel) (by decide))
  have hr_μ7 : μ7.2.2 = μ.2.2 := (hC_μ7.2 rfl : μ7.2.2 = μ3.2.2).trans hr_μ3
  try rw [hr_μ7]
  have g9 := ti_lo (μ7.1 148 5)
  have g9h := ti_hi (μ7.1 148 5)
  have f10 : (μ7.1 148 5).toInt = (μ3.1 148 5).toInt := congrArg Int32.toInt (hC_μ7.1 148 5 (by decide +kernel))
  refine ok_bd (k_X3_bitsAt (sel 2 (μ.2.2 148 3)) (sel_2 _) (μ7.1 148 5) μ7 hI_μ7) ?_
  rintro r12 μ11 ⟨hI_μ11, hC_μ11⟩
  have hI_μ11 : IX μ11 := hI_μ11
  have hC_μ11 : Fr [] true μ7 μ11 := hC_μ11
  have lo_r12 := ti_lo r12
  have hi_r12 := ti_hi r12
  have hF_μ11 : Fr [(0, 30, 5), (0, 30, 7), (0, 30, 10), (0, 148, 5), (1, 33, 0), (1, 34, 0), (1, 38, 0), (2, 0, 0), (2, 0, 1), (2, 0, 2), (2, 0, 3), (2, 0, 4), (2, 0, 5), (2, 0, 6), (2, 1, 2), (3, 0, 2)] true μ μ11 := hF_μ7.trans (hC_μ11.mono (by decide +kernel) (by decide))
  have hr_μ11 : μ11.2.2 = μ.2.2 := (hC_μ11.2 rfl : μ11.2.2 = μ7.2.2).trans hr_μ7
  try rw [hr_μ11]
  have g13 := ti_lo (μ11.1 148 5)
  have g13h := ti_hi (μ11.1 148 5)
  have f14 : (μ11.1 148 5).toInt = (μ7.1 148 5).toInt := congrArg Int32.toInt (hC_μ11.1 148 5 (by decide +kernel))
  refine ok_bv (fun μ15 e_μ15 => ?_)
  have hI_μ15 : IX μ15 := by rw [e_μ15]; exact IX_F hI_μ11 (rt_148_5 _)
  have hF_μ15 : Fr [(0, 30, 5), (0, 30, 7), (0, 30, 10), (0, 148, 5), (1, 33, 0), (1, 34, 0), (1, 38, 0), (2, 0, 0), (2, 0, 1), (2, 0, 2), (2, 0, 3), (2, 0, 4), (2, 0, 5), (2, 0, 6), (2, 1, 2), (3, 0, 2)] true μ μ15 := by rw [e_μ15]; exact Fr.put hF_μ11 (by decide +kernel)
  have hr_μ15 : μ15.2.2 = μ.2.2 := (by rw [e_μ15]; rfl : μ15.2.2 = μ11.2.2).trans hr_μ11
  try rw [hr_μ15]
  refine ok_ite ?_ ?_
  · intro c17
    rw [ti_eq] at c17
    refine ok_bw (k_X8_push (s_X0_make r8 r12) μ15 hI_μ15) ?_
    rintro μ18 ⟨hI_μ18, hC_μ18⟩
    have hF_μ18 : Fr [(0, 30, 5), (0, 30, 7), (0, 30, 10), (0, 148, 5), (1, 33, 0), (1, 34, 0), (1, 38, 0), (2, 0, 0), (2, 0, 1), (2, 0, 2), (2, 0, 3), (2, 0, 4), (2, 0, 5), (2, 0, 6), (2, 1, 2), (3, 0, 2)] true μ μ18 := hF_μ15.trans (hC_μ18.mono (by decide +kernel) (by decide))
    have hr_μ18 : μ18.2.2 = μ.2.2 := (hC_μ18.2 rfl : μ18.2.2 = μ15.2.2).trans hr_μ15
    try rw [hr_μ18]
    have g20 := rgc_0_4 (sel_0 (μ.2.2 148 4)) hI_μ18
    have f21 : (μ18.1 (sel 0 (μ.2.2 148 4)) 4).toInt = (μ.1 (sel 0 (μ.2.2 148 4)) 4).toInt := congrArg Int32.toInt ((hC_μ18.1 _ _ (cls_free (by decide +kernel) (sel_0 (μ.2.2 148 4)))).trans (((by rw [e_μ15]; exact sF_k (by decide) : μ15.1 (sel 0 (μ.2.2 148 4)) 4 = μ11.1 (sel 0 (μ.2.2 148 4)) 4)).trans ((hC_μ11.1 _ _ (cls_free (by decide +kernel) (sel_0 (μ.2.2 148 4)))).trans ((hC_μ7.1 _ _ (cls_free (by decide +kernel) (sel_0 (μ.2.2 148 4)))).trans (hC_μ3.1 _ _ (cls_free (by decide +kernel) (sel_0 (μ.2.2 148 4))))))))
    exact ok_some ⟨hI_μ18, hF_μ18, by dsimp only; (try simp only [hr_μ18]); omega⟩
  intro c17
  rw [ti_eq] at c17
  refine ok_ite ?_ ?_
  · intro c22
    rw [ti_eq] at c22
    refine ok_bd (k_X8_varAt r8 μ15 hI_μ15) ?_
    rintro r24 μ23 ⟨hI_μ23, hC_μ23⟩
    have hI_μ23 : IX μ23 := hI_μ23
    have hC_μ23 : Fr [] true μ15 μ23 := hC_μ23
    have hF_μ23 : Fr [(0, 30, 5), (0, 30, 7), (0, 30, 10), (0, 148, 5), (1, 33, 0), (1, 34, 0), (1, 38, 0), (2, 0, 0), (2, 0, 1), (2, 0, 2), (2, 0, 3), (2, 0, 4), (2, 0, 5), (2, 0, 6), (2, 1, 2), (3, 0, 2)] true μ μ23 := hF_μ15.trans (hC_μ23.mono (by decide +kernel) (by decide))
    have hr_μ23 : μ23.2.2 = μ.2.2 := (hC_μ23.2 rfl : μ23.2.2 = μ15.2.2).trans hr_μ15
    try rw [hr_μ23]
    refine ok_bw (k_X8_push r24 μ23 hI_μ23) ?_
    rintro μ25 ⟨hI_μ25, hC_μ25⟩
    have hF_μ25 : Fr [(0, 30, 5), (0, 30, 7), (0, 30, 10), (0, 148, 5), (1, 33, 0), (1, 34, 0), (1, 38, 0), (2, 0, 0), (2, 0, 1), (2, 0, 2), (2, 0, 3), (2, 0, 4), (2, 0, 5), (2, 0, 6), (2, 1, 2), (3, 0, 2)] true μ μ25 := hF_μ23.trans (hC_μ25.mono (by decide +kernel) (by decide))
    have hr_μ25 : μ25.2.2 = μ.2.2 := (hC_μ25.2 rfl : μ25.2.2 = μ23.2.2).trans hr_μ23
    try rw [hr_μ25]
    have g27 := rgc_0_4 (sel_0 (μ.2.2 148 4)) hI_μ25
    have f28 : (μ25.1 (sel 0 (μ.2.2 148 4)) 4).toInt = (μ.1 (sel 0 (μ.2.2 148 4)) 4).toInt := congrArg Int32.toInt ((hC_μ25.1 _ _ (cls_free (by decide +kernel) (sel_0 (μ.2.2 148 4)))).trans ((hC_μ23.1 _ _ (cls_free (by decide +kernel) (sel_0 (μ.2.2 148 4)))).trans (((by rw [e_μ15]; exact sF_k (by decide) : μ15.1 (sel 0 (μ.2.2 148 4)) 4 = μ11.1 (sel 0 (μ.2.2 148 4)) 4)).trans ((hC_μ11.1 _ _ (cls_free (by decide +kernel) (sel_0 (μ.2.2 148 4)))).trans ((hC_μ7.1 _ _ (cls_free (by decide +kernel) (sel_0 (μ.2.2 148 4)))).trans (hC_μ3.1 _ _ (cls_free (by decide +kernel) (sel_0 (μ.2.2 148 4)))))))))
    exact ok_some ⟨hI_μ25, hF_μ25, by dsimp only; (try simp only [hr_μ25]); omega⟩
  intro c22
  rw [ti_eq] at c22
  refine ok_ite ?_ ?_
  · intro c29
    rw [ti_eq] at c29
    refine ok_bd (k_X8_popNum  μ15 hI_μ15) ?_
    rintro r31 μ30 ⟨hI_μ30, hC_μ30⟩
    have hI_μ30 : IX μ30 := hI_μ30
    have hC_μ30 : Fr [(0, 30, 7)] true μ15 μ30 := hC_μ30
    have hF_μ30 : Fr [(0, 30, 5), (0, 30, 7), (0, 30, 10), (0, 148, 5), (1, 33, 0), (1, 34, 0), (1, 38, 0), (2, 0, 0), (2, 0, 1), (2, 0, 2), (2, 0, 3), (2, 0, 4), (2, 0, 5), (2, 0, 6), (2, 1, 2), (3, 0, 2)] true μ μ30 := hF_μ15.trans (hC_μ30.mono (by decide +kernel) (by decide))
    have hr_μ30 : μ30.2.2 = μ.2.2 := (hC_μ30.2 rfl : μ30.2.2 = μ15.2.2).trans hr_μ15
    try rw [hr_μ30]
    refine ok_bd (k_X8_popNum  μ30 hI_μ30) ?_
    rintro r33 μ32 ⟨hI_μ32, hC_μ32⟩
    have hI_μ32 : IX μ32 := hI_μ32
    have hC_μ32 : Fr [(0, 30, 7)] true μ30 μ32 := hC_μ32
    have hF_μ32 : Fr [(0, 30, 5), (0, 30, 7), (0, 30, 10), (0, 148, 5), (1, 33, 0), (1, 34, 0), (1, 38, 0), (2, 0, 0), (2, 0, 1), (2, 0, 2), (2, 0, 3), (2, 0, 4), (2, 0, 5), (2, 0, 6), (2, 1, 2), (3, 0, 2)] true μ μ32 := hF_μ30.trans (hC_μ32.mono (by decide +kernel) (by decide))
    have hr_μ32 : μ32.2.2 = μ.2.2 := (hC_μ32.2 rfl : μ32.2.2 = μ30.2.2).trans hr_μ30
    try rw [hr_μ32]
    refine ok_bw (k_X8_push (s_X0_apply r8 r33 r31) μ32 hI_μ32) ?_
    rintro μ34 ⟨hI_μ34, hC_μ34⟩
    have hF_μ34 : Fr [(0, 30, 5), (0, 30, 7), (0, 30, 10), (0, 148, 5), (1, 33, 0), (1, 34, 0), (1, 38, 0), (2, 0, 0), (2, 0, 1), (2, 0, 2), (2, 0, 3), (2, 0, 4), (2, 0, 5), (2, 0, 6), (2, 1, 2), (3, 0, 2)] true μ μ34 := hF_μ32.trans (hC_μ34.mono (by decide +kernel) (by decide))
    have hr_μ34 : μ34.2.2 = μ.2.2 := (hC_μ34.2 rfl : μ34.2.2 = μ32.2.2).trans hr_μ32
    try rw [hr_μ34]
    have g36 := rgc_0_4 (sel_0 (μ.2.2 148 4)) hI_μ34
    have f37 : (μ34.1 (sel 0 (μ.2.2 148 4)) 4).toInt = (μ.1 (sel 0 (μ.2.2 148 4)) 4).toInt := congrArg Int32.toInt ((hC_μ34.1 _ _ (cls_free (by decide +kernel) (sel_0 (μ.2.2 148 4)))).trans ((hC_μ32.1 _ _ (cls_free (by decide +kernel) (sel_0 (μ.2.2 148 4)))).trans ((hC_μ30.1 _ _ (cls_free (by decide +kernel) (sel_0 (μ.2.2 148 4)))).trans (((by rw [e_μ15]; exact sF_k (by decide) : μ15.1 (sel 0 (μ.2.2 148 4)) 4 = μ11.1 (sel 0 (μ.2.2 148 4)) 4)).trans ((hC_μ11.1 _ _ (cls_free (by decide +kernel) (sel_0 (μ.2.2 148 4)))).trans ((hC_μ7.1 _ _ (cls_free (by decide +kernel) (sel_0 (μ.2.2 148 4)))).trans (hC_μ3.1 _ _ (cls_free (by decide +kernel) (sel_0 (μ.2.2 148 4))))))))))
    exact ok_some ⟨hI_μ34, hF_μ34, by dsimp only; (try simp only [hr_μ34]); omega⟩
  intro c29
  rw [ti_eq] at c29
  refine ok_ite ?_ ?_
  · intro c38
    rw [ti_eq] at c38
    refine ok_bd (k_X8_popNum  μ15 hI_μ15) ?_
    rintro r40 μ39 ⟨hI_μ39, hC_μ39⟩
    have hI_μ39 : IX μ39 := hI_μ39
    have hC_μ39 : Fr [(0, 30, 7)] true μ15 μ39 := hC_μ39
    have hF_μ39 : Fr [(0, 30, 5), (0, 30, 7), (0, 30, 10), (0, 148, 5), (1, 33, 0), (1, 34, 0), (1, 38, 0), (2, 0, 0), (2, 0, 1), (2, 0, 2), (2, 0, 3), (2, 0, 4), (2, 0, 5), (2, 0, 6), (2, 1, 2), (3, 0, 2)] true μ μ39 := hF_μ15.trans (hC_μ39.mono (by decide +kernel) (by decide))
    have hr_μ39 : μ39.2.2 = μ.2.2 := (hC_μ39.2 rfl : μ39.2.2 = μ15.2.2).trans hr_μ15
    try rw [hr_μ39]
    refine ok_bw (k_X8_push (s_X0_turn r8 r40) μ39 hI_μ39) ?_
    rintro μ41 ⟨hI_μ41, hC_μ41⟩
    have hF_μ41 : Fr [(0, 30, 5), (0, 30, 7), (0, 30, 10), (0, 148, 5), (1, 33, 0), (1, 34, 0), (1, 38, 0), (2, 0, 0), (2, 0, 1), (2, 0, 2), (2, 0, 3), (2, 0, 4), (2, 0, 5), (2, 0, 6), (2, 1, 2), (3, 0, 2)] true μ μ41 := hF_μ39.trans (hC_μ41.mono (by decide +kernel) (by decide))
    have hr_μ41 : μ41.2.2 = μ.2.2 := (hC_μ41.2 rfl : μ41.2.2 = μ39.2.2).trans hr_μ39
    try rw [hr_μ41]
    have g43 := rgc_0_4 (sel_0 (μ.2.2 148 4)) hI_μ41
    have f44 : (μ41.1 (sel 0 (μ.2.2 148 4)) 4).toInt = (μ.1 (sel 0 (μ.2.2 148 4)) 4).toInt := congrArg Int32.toInt ((hC_μ41.1 _ _ (cls_free (by decide +kernel) (sel_0 (μ.2.2 148 4)))).trans ((hC_μ39.1 _ _ (cls_free (by decide +kernel) (sel_0 (μ.2.2 148 4)))).trans (((by rw [e_μ15]; exact sF_k (by decide) : μ15.1 (sel 0 (μ.2.2 148 4)) 4 = μ11.1 (sel 0 (μ.2.2 148 4)) 4)).trans ((hC_μ11.1 _ _ (cls_free (by decide +kernel) (sel_0 (μ.2.2 148 4)))).trans ((hC_μ7.1 _ _ (cls_free (by decide +kernel) (sel_0 (μ.2.2 148 4)))).trans (hC_μ3.1 _ _ (cls_free (by decide +kernel) (sel_0 (μ.2.2 148 4)))))))))
    exact ok_some ⟨hI_μ41, hF_μ41, by dsimp only; (try simp only [hr_μ41]); omega⟩
  intro c38
  rw [ti_eq] at c38
  refine ok_ite ?_ ?_
  · intro c45
    rw [ti_eq] at c45
    refine ok_bd (k_X8_pop  μ15 hI_μ15) ?_
    rintro r47 μ46 ⟨hI_μ46, hC_μ46⟩
    have hI_μ46 : IX μ46 := hI_μ46
    have hC_μ46 : Fr [(0, 30, 7)] true μ15 μ46 := hC_μ46
    have hF_μ46 : Fr [(0, 30, 5), (0, 30, 7), (0, 30, 10), (0, 148, 5), (1, 33, 0), (1, 34, 0), (1, 38, 0), (2, 0, 0), (2, 0, 1), (2, 0, 2), (2, 0, 3), (2, 0, 4), (2, 0, 5), (2, 0, 6), (2, 1, 2), (3, 0, 2)] true μ μ46 := hF_μ15.trans (hC_μ46.mono (by decide +kernel) (by decide))
    have hr_μ46 : μ46.2.2 = μ.2.2 := (hC_μ46.2 rfl : μ46.2.2 = μ15.2.2).trans hr_μ15
    try rw [hr_μ46]
    refine ok_ite ?_ ?_
    · intro c48
      rw [ti_eq] at c48
      refine ok_bd (k_X8_firstOf r47 μ46 hI_μ46) ?_
      rintro r50 μ49 ⟨hI_μ49, hC_μ49⟩
      have hI_μ49 : IX μ49 := hI_μ49
      have hC_μ49 : Fr [] true μ46 μ49 := hC_μ49
      have hF_μ49 : Fr [(0, 30, 5), (0, 30, 7), (0, 30, 10), (0, 148, 5), (1, 33, 0), (1, 34, 0), (1, 38, 0), (2, 0, 0), (2, 0, 1), (2, 0, 2), (2, 0, 3), (2, 0, 4), (2, 0, 5), (2, 0, 6), (2, 1, 2), (3, 0, 2)] true μ μ49 := hF_μ46.trans (hC_μ49.mono (by decide +kernel) (by decide))
      have hr_μ49 : μ49.2.2 = μ.2.2 := (hC_μ49.2 rfl : μ49.2.2 = μ46.2.2).trans hr_μ46
      try rw [hr_μ49]
      refine ok_bw (k_X8_push r50 μ49 hI_μ49) ?_
      rintro μ51 ⟨hI_μ51, hC_μ51⟩
      have hF_μ51 : Fr [(0, 30, 5), (0, 30, 7), (0, 30, 10), (0, 148, 5), (1, 33, 0), (1, 34, 0), (1, 38, 0), (2, 0, 0), (2, 0, 1), (2, 0, 2), (2, 0, 3), (2, 0, 4), (2, 0, 5), (2, 0, 6), (2, 1, 2), (3, 0, 2)] true μ μ51 := hF_μ49.trans (hC_μ51.mono (by decide +kernel) (by decide))
      have hr_μ51 : μ51.2.2 = μ.2.2 := (hC_μ51.2 rfl : μ51.2.2 = μ49.2.2).trans hr_μ49
      try rw [hr_μ51]
      have g53 := rgc_0_4 (sel_0 (μ.2.2 148 4)) hI_μ51
      have f54 : (μ51.1 (sel 0 (μ.2.2 148 4)) 4).toInt = (μ.1 (sel 0 (μ.2.2 148 4)) 4).toInt := congrArg Int32.toInt ((hC_μ51.1 _ _ (cls_free (by decide +kernel) (sel_0 (μ.2.2 148 4)))).trans ((hC_μ49.1 _ _ (cls_free (by decide +kernel) (sel_0 (μ.2.2 148 4)))).trans ((hC_μ46.1 _ _ (cls_free (by decide +kernel) (sel_0 (μ.2.2 148 4)))).trans (((by rw [e_μ15]; exact sF_k (by decide) : μ15.1 (sel 0 (μ.2.2 148 4)) 4 = μ11.1 (sel 0 (μ.2.2 148 4)) 4)).trans ((hC_μ11.1 _ _ (cls_free (by decide +kernel) (sel_0 (μ.2.2 148 4)))).trans ((hC_μ7.1 _ _ (cls_free (by decide +kernel) (sel_0 (μ.2.2 148 4)))).trans (hC_μ3.1 _ _ (cls_free (by decide +kernel) (sel_0 (μ.2.2 148 4))))))))))
      exact ok_some ⟨hI_μ51, hF_μ51, by dsimp only; (try simp only [hr_μ51]); omega⟩
    · intro c48
      rw [ti_eq] at c48
      refine ok_bd (k_X8_secondOf r47 μ46 hI_μ46) ?_
      rintro r56 μ55 ⟨hI_μ55, hC_μ55⟩
      have hI_μ55 : IX μ55 := hI_μ55
      have hC_μ55 : Fr [] true μ46 μ55 := hC_μ55
      have hF_μ55 : Fr [(0, 30, 5), (0, 30, 7), (0, 30, 10), (0, 148, 5), (1, 33, 0), (1, 34, 0), (1, 38, 0), (2, 0, 0), (2, 0, 1), (2, 0, 2), (2, 0, 3), (2, 0, 4), (2, 0, 5), (2, 0, 6), (2, 1, 2), (3, 0, 2)] true μ μ55 := hF_μ46.trans (hC_μ55.mono (by decide +kernel) (by decide))
      have hr_μ55 : μ55.2.2 = μ.2.2 := (hC_μ55.2 rfl : μ55.2.2 = μ46.2.2).trans hr_μ46
      try rw [hr_μ55]
      refine ok_bw (k_X8_push r56 μ55 hI_μ55) ?_
      rintro μ57 ⟨hI_μ57, hC_μ57⟩
      have hF_μ57 : Fr [(0, 30, 5), (0, 30, 7), (0, 30, 10), (0, 148, 5), (1, 33, 0), (1, 34, 0), (1, 38, 0), (2, 0, 0), (2, 0, 1), (2, 0, 2), (2, 0, 3), (2, 0, 4), (2, 0, 5), (2, 0, 6), (2, 1, 2), (3, 0, 2)] true μ μ57 := hF_μ55.trans (hC_μ57.mono (by decide +kernel) (by decide))
      have hr_μ57 : μ57.2.2 = μ.2.2 := (hC_μ57.2 rfl : μ57.2.2 = μ55.2.2).trans hr_μ55
      try rw [hr_μ57]
      have g59 := rgc_0_4 (sel_0 (μ.2.2 148 4)) hI_μ57
      have f60 : (μ57.1 (sel 0 (μ.2.2 148 4)) 4).toInt = (μ.1 (sel 0 (μ.2.2 148 4)) 4).toInt := congrArg Int32.toInt ((hC_μ57.1 _ _ (cls_free (by decide +kernel) (sel_0 (μ.2.2 148 4)))).trans ((hC_μ55.1 _ _ (cls_free (by decide +kernel) (sel_0 (μ.2.2 148 4)))).trans ((hC_μ46.1 _ _ (cls_free (by decide +kernel) (sel_0 (μ.2.2 148 4)))).trans (((by rw [e_μ15]; exact sF_k (by decide) : μ15.1 (sel 0 (μ.2.2 148 4)) 4 = μ11.1 (sel 0 (μ.2.2 148 4)) 4)).trans ((hC_μ11.1 _ _ (cls_free (by decide +kernel) (sel_0 (μ.2.2 148 4)))).trans ((hC_μ7.1 _ _ (cls_free (by decide +kernel) (sel_0 (μ.2.2 148 4)))).trans (hC_μ3.1 _ _ (cls_free (by decide +kernel) (sel_0 (μ.2.2 148 4))))))))))
      exact ok_some ⟨hI_μ57, hF_μ57, by dsimp only; (try simp only [hr_μ57]); omega⟩
  intro c45
  rw [ti_eq] at c45
  refine ok_ite ?_ ?_
  · intro c61
    rw [ti_eq] at c61
    refine ok_bw (k_X7_makePair  μ15 hI_μ15) ?_
    rintro μ62 ⟨hI_μ62, hC_μ62⟩
    have hF_μ62 : Fr [(0, 30, 5), (0, 30, 7), (0, 30, 10), (0, 148, 5), (1, 33, 0), (1, 34, 0), (1, 38, 0), (2, 0, 0), (2, 0, 1), (2, 0, 2), (2, 0, 3), (2, 0, 4), (2, 0, 5), (2, 0, 6), (2, 1, 2), (3, 0, 2)] true μ μ62 := hF_μ15.trans (hC_μ62.mono (by decide +kernel) (by decide))
    have hr_μ62 : μ62.2.2 = μ.2.2 := (hC_μ62.2 rfl : μ62.2.2 = μ15.2.2).trans hr_μ15
    try rw [hr_μ62]
    have g64 := rgc_0_4 (sel_0 (μ.2.2 148 4)) hI_μ62
    have f65 : (μ62.1 (sel 0 (μ.2.2 148 4)) 4).toInt = (μ.1 (sel 0 (μ.2.2 148 4)) 4).toInt := congrArg Int32.toInt ((hC_μ62.1 _ _ (cls_free (by decide +kernel) (sel_0 (μ.2.2 148 4)))).trans (((by rw [e_μ15]; exact sF_k (by decide) : μ15.1 (sel 0 (μ.2.2 148 4)) 4 = μ11.1 (sel 0 (μ.2.2 148 4)) 4)).trans ((hC_μ11.1 _ _ (cls_free (by decide +kernel) (sel_0 (μ.2.2 148 4)))).trans ((hC_μ7.1 _ _ (cls_free (by decide +kernel) (sel_0 (μ.2.2 148 4)))).trans (hC_μ3.1 _ _ (cls_free (by decide +kernel) (sel_0 (μ.2.2 148 4))))))))
    exact ok_some ⟨hI_μ62, hF_μ62, by dsimp only; (try simp only [hr_μ62]); omega⟩
  intro c61
  rw [ti_eq] at c61
  refine ok_ite ?_ ?_
  · intro c66
    rw [ti_eq] at c66
    refine ok_bd (k_X8_popNum  μ15 hI_μ15) ?_
    rintro r68 μ67 ⟨hI_μ67, hC_μ67⟩
    have hI_μ67 : IX μ67 := hI_μ67
    have hC_μ67 : Fr [(0, 30, 7)] true μ15 μ67 := hC_μ67
    have hF_μ67 : Fr [(0, 30, 5), (0, 30, 7), (0, 30, 10), (0, 148, 5), (1, 33, 0), (1, 34, 0), (1, 38, 0), (2, 0, 0), (2, 0, 1), (2, 0, 2), (2, 0, 3), (2, 0, 4), (2, 0, 5), (2, 0, 6), (2, 1, 2), (3, 0, 2)] true μ μ67 := hF_μ15.trans (hC_μ67.mono (by decide +kernel) (by decide))
    have hr_μ67 : μ67.2.2 = μ.2.2 := (hC_μ67.2 rfl : μ67.2.2 = μ15.2.2).trans hr_μ15
    try rw [hr_μ67]
    refine ok_ite ?_ ?_
    · intro c69
      rw [ti_eq] at c69
      refine ok_bv (fun μ70 e_μ70 => ?_)
      have hI_μ70 : IX μ70 := by rw [e_μ70]; exact IX_F hI_μ67 (rt_148_5 _)
      have hF_μ70 : Fr [(0, 30, 5), (0, 30, 7), (0, 30, 10), (0, 148, 5), (1, 33, 0), (1, 34, 0), (1, 38, 0), (2, 0, 0), (2, 0, 1), (2, 0, 2), (2, 0, 3), (2, 0, 4), (2, 0, 5), (2, 0, 6), (2, 1, 2), (3, 0, 2)] true μ μ70 := by rw [e_μ70]; exact Fr.put hF_μ67 (by decide +kernel)
      have v_μ70 : (μ70.1 148 5).toInt = r8.toInt := by rw [e_μ70, sF_v]
      have hr_μ70 : μ70.2.2 = μ.2.2 := (by rw [e_μ70]; rfl : μ70.2.2 = μ67.2.2).trans hr_μ67
      try rw [hr_μ70]
      have g71 := rgc_0_4 (sel_0 (μ.2.2 148 4)) hI_μ70
      have f72 : (μ70.1 (sel 0 (μ.2.2 148 4)) 4).toInt = (μ.1 (sel 0 (μ.2.2 148 4)) 4).toInt := congrArg Int32.toInt (((by rw [e_μ70]; exact sF_k (by decide) : μ70.1 (sel 0 (μ.2.2 148 4)) 4 = μ67.1 (sel 0 (μ.2.2 148 4)) 4)).trans ((hC_μ67.1 _ _ (cls_free (by decide +kernel) (sel_0 (μ.2.2 148 4)))).trans (((by rw [e_μ15]; exact sF_k (by decide) : μ15.1 (sel 0 (μ.2.2 148 4)) 4 = μ11.1 (sel 0 (μ.2.2 148 4)) 4)).trans ((hC_μ11.1 _ _ (cls_free (by decide +kernel) (sel_0 (μ.2.2 148 4)))).trans ((hC_μ7.1 _ _ (cls_free (by decide +kernel) (sel_0 (μ.2.2 148 4)))).trans (hC_μ3.1 _ _ (cls_free (by decide +kernel) (sel_0 (μ.2.2 148 4)))))))))
      exact ok_some ⟨hI_μ70, hF_μ70, by dsimp only; (try simp only [hr_μ70]); omega⟩
    · intro c69
      rw [ti_eq] at c69
      have g73 := ti_lo (μ67.1 148 5)
      have g73h := ti_hi (μ67.1 148 5)
      have f74 : (μ67.1 148 5).toInt = (μ15.1 148 5).toInt := congrArg Int32.toInt (hC_μ67.1 148 5 (by decide +kernel))
      refine ok_bv (fun μ75 e_μ75 => ?_)
      have hI_μ75 : IX μ75 := by rw [e_μ75]; exact IX_F hI_μ67 (rt_148_5 _)
      have hF_μ75 : Fr [(0, 30, 5), (0, 30, 7), (0, 30, 10), (0, 148, 5), (1, 33, 0), (1, 34, 0), (1, 38, 0), (2, 0, 0), (2, 0, 1), (2, 0, 2), (2, 0, 3), (2, 0, 4), (2, 0, 5), (2, 0, 6), (2, 1, 2), (3, 0, 2)] true μ μ75 := by rw [e_μ75]; exact Fr.put hF_μ67 (by decide +kernel)
      have v_μ75 : (μ75.1 148 5).toInt = (μ67.1 148 5).toInt := by rw [e_μ75, sF_v]
      have hr_μ75 : μ75.2.2 = μ.2.2 := (by rw [e_μ75]; rfl : μ75.2.2 = μ67.2.2).trans hr_μ67
      try rw [hr_μ75]
      have g76 := rgc_0_4 (sel_0 (μ.2.2 148 4)) hI_μ75
      have f77 : (μ75.1 (sel 0 (μ.2.2 148 4)) 4).toInt = (μ.1 (sel 0 (μ.2.2 148 4)) 4).toInt := congrArg Int32.toInt (((by rw [e_μ75]; exact sF_k (by decide) : μ75.1 (sel 0 (μ.2.2 148 4)) 4 = μ67.1 (sel 0 (μ.2.2 148 4)) 4)).trans ((hC_μ67.1 _ _ (cls_free (by decide +kernel) (sel_0 (μ.2.2 148 4)))).trans (((by rw [e_μ15]; exact sF_k (by decide) : μ15.1 (sel 0 (μ.2.2 148 4)) 4 = μ11.1 (sel 0 (μ.2.2 148 4)) 4)).trans ((hC_μ11.1 _ _ (cls_free (by decide +kernel) (sel_0 (μ.2.2 148 4)))).trans ((hC_μ7.1 _ _ (cls_free (by decide +kernel) (sel_0 (μ.2.2 148 4)))).trans (hC_μ3.1 _ _ (cls_free (by decide +kernel) (sel_0 (μ.2.2 148 4)))))))))
      exact ok_some ⟨hI_μ75, hF_μ75, by dsimp only; (try simp only [hr_μ75]); omega⟩
  intro c66
  rw [ti_eq] at c66
  refine ok_ite ?_ ?_
  · intro c78
    rw [ti_eq] at c78
    refine ok_bv (fun μ79 e_μ79 => ?_)
    have hI_μ79 : IX μ79 := by rw [e_μ79]; exact IX_F hI_μ15 (rt_148_5 _)
    have hF_μ79 : Fr [(0, 30, 5), (0, 30, 7), (0, 30, 10), (0, 148, 5), (1, 33, 0), (1, 34, 0), (1, 38, 0), (2, 0, 0), (2, 0, 1), (2, 0, 2), (2, 0, 3), (2, 0, 4), (2, 0, 5), (2, 0, 6), (2, 1, 2), (3, 0, 2)] true μ μ79 := by rw [e_μ79]; exact Fr.put hF_μ15 (by decide +kernel)
    have v_μ79 : (μ79.1 148 5).toInt = r8.toInt := by rw [e_μ79, sF_v]
    have hr_μ79 : μ79.2.2 = μ.2.2 := (by rw [e_μ79]; rfl : μ79.2.2 = μ15.2.2).trans hr_μ15
    try rw [hr_μ79]
    have g80 := rgc_0_4 (sel_0 (μ.2.2 148 4)) hI_μ79
    have f81 : (μ79.1 (sel 0 (μ.2.2 148 4)) 4).toInt = (μ.1 (sel 0 (μ.2.2 148 4)) 4).toInt := congrArg Int32.toInt (((by rw [e_μ79]; exact sF_k (by decide) : μ79.1 (sel 0 (μ.2.2 148 4)) 4 = μ15.1 (sel 0 (μ.2.2 148 4)) 4)).trans (((by rw [e_μ15]; exact sF_k (by decide) : μ15.1 (sel 0 (μ.2.2 148 4)) 4 = μ11.1 (sel 0 (μ.2.2 148 4)) 4)).trans ((hC_μ11.1 _ _ (cls_free (by decide +kernel) (sel_0 (μ.2.2 148 4)))).trans ((hC_μ7.1 _ _ (cls_free (by decide +kernel) (sel_0 (μ.2.2 148 4)))).trans (hC_μ3.1 _ _ (cls_free (by decide +kernel) (sel_0 (μ.2.2 148 4))))))))
    exact ok_some ⟨hI_μ79, hF_μ79, by dsimp only; (try simp only [hr_μ79]); omega⟩
  intro c78
  rw [ti_eq] at c78
  refine ok_ite ?_ ?_
  · intro c82
    rw [ti_eq] at c82
    have g83 := rgc_0_4 (sel_0 (μ.2.2 148 4)) hI_μ15
    have f84 : (μ15.1 (sel 0 (μ.2.2 148 4)) 4).toInt = (μ.1 (sel 0 (μ.2.2 148 4)) 4).toInt := congrArg Int32.toInt (((by rw [e_μ15]; exact sF_k (by decide) : μ15.1 (sel 0 (μ.2.2 148 4)) 4 = μ11.1 (sel 0 (μ.2.2 148 4)) 4)).trans ((hC_μ11.1 _ _ (cls_free (by decide +kernel) (sel_0 (μ.2.2 148 4)))).trans ((hC_μ7.1 _ _ (cls_free (by decide +kernel) (sel_0 (μ.2.2 148 4)))).trans (hC_μ3.1 _ _ (cls_free (by decide +kernel) (sel_0 (μ.2.2 148 4)))))))
    exact ok_some ⟨hI_μ15, hF_μ15, by dsimp only; (try simp only [hr_μ15]); omega⟩
  intro c82
  rw [ti_eq] at c82
  refine ok_ite ?_ ?_
  · intro c85
    rw [ti_eq] at c85
    refine ok_bd (k_X8_fromTop (0 : Int32) μ15 hI_μ15) ?_
    rintro r87 μ86 ⟨hI_μ86, hC_μ86⟩
    have hI_μ86 : IX μ86 := hI_μ86
    have hC_μ86 : Fr [] true μ15 μ86 := hC_μ86
    have hF_μ86 : Fr [(0, 30, 5), (0, 30, 7), (0, 30, 10), (0, 148, 5), (1, 33, 0), (1, 34, 0), (1, 38, 0), (2, 0, 0), (2, 0, 1), (2, 0, 2), (2, 0, 3), (2, 0, 4), (2, 0, 5), (2, 0, 6), (2, 1, 2), (3, 0, 2)] true μ μ86 := hF_μ15.trans (hC_μ86.mono (by decide +kernel) (by decide))
    have hr_μ86 : μ86.2.2 = μ.2.2 := (hC_μ86.2 rfl : μ86.2.2 = μ15.2.2).trans hr_μ15
    try rw [hr_μ86]
    refine ok_bd (k_X8_num r87 μ86 hI_μ86) ?_
    rintro r89 μ88 ⟨hI_μ88, hC_μ88⟩
    have hI_μ88 : IX μ88 := hI_μ88
    have hC_μ88 : Fr [] true μ86 μ88 := hC_μ88
    have hF_μ88 : Fr [(0, 30, 5), (0, 30, 7), (0, 30, 10), (0, 148, 5), (1, 33, 0), (1, 34, 0), (1, 38, 0), (2, 0, 0), (2, 0, 1), (2, 0, 2), (2, 0, 3), (2, 0, 4), (2, 0, 5), (2, 0, 6), (2, 1, 2), (3, 0, 2)] true μ μ88 := hF_μ86.trans (hC_μ88.mono (by decide +kernel) (by decide))
    have hr_μ88 : μ88.2.2 = μ.2.2 := (hC_μ88.2 rfl : μ88.2.2 = μ86.2.2).trans hr_μ86
    try rw [hr_μ88]
    have g92 := rgc_0_4 (sel_0 (μ.2.2 148 4)) hI_μ88
    have f93 : (μ88.1 (sel 0 (μ.2.2 148 4)) 4).toInt = (μ.1 (sel 0 (μ.2.2 148 4)) 4).toInt := congrArg Int32.toInt ((hC_μ88.1 _ _ (cls_free (by decide +kernel) (sel_0 (μ.2.2 148 4)))).trans ((hC_μ86.1 _ _ (cls_free (by decide +kernel) (sel_0 (μ.2.2 148 4)))).trans (((by rw [e_μ15]; exact sF_k (by decide) : μ15.1 (sel 0 (μ.2.2 148 4)) 4 = μ11.1 (sel 0 (μ.2.2 148 4)) 4)).trans ((hC_μ11.1 _ _ (cls_free (by decide +kernel) (sel_0 (μ.2.2 148 4)))).trans ((hC_μ7.1 _ _ (cls_free (by decide +kernel) (sel_0 (μ.2.2 148 4)))).trans (hC_μ3.1 _ _ (cls_free (by decide +kernel) (sel_0 (μ.2.2 148 4)))))))))
    refine ok_bw (k_X1_writeOut (sel 0 (μ.2.2 148 4)) (sel_0 _) r89 μ88 hI_μ88 (by (try simp only [hr_μ88]); omega)) ?_
    rintro μ90 ⟨hI_μ90, hC_μ90, p_μ90⟩
    have hF_μ90 : Fr [(0, 30, 5), (0, 30, 7), (0, 30, 10), (0, 148, 5), (1, 33, 0), (1, 34, 0), (1, 38, 0), (2, 0, 0), (2, 0, 1), (2, 0, 2), (2, 0, 3), (2, 0, 4), (2, 0, 5), (2, 0, 6), (2, 1, 2), (3, 0, 2)] true μ μ90 := hF_μ88.trans (hC_μ90.mono (by decide +kernel) (by decide))
    have hr_μ90 : μ90.2.2 = μ.2.2 := (hC_μ90.2 rfl : μ90.2.2 = μ88.2.2).trans hr_μ88
    try rw [hr_μ90]
    try simp only [hr_μ90, hr_μ88] at p_μ90
    have g94 := rgc_0_4 (sel_0 (μ.2.2 148 4)) hI_μ90
    exact ok_some ⟨hI_μ90, hF_μ90, by dsimp only; (try simp only [hr_μ90]); omega⟩
  intro c85
  rw [ti_eq] at c85
  refine ok_ite ?_ ?_
  · intro c95
    rw [ti_eq] at c95
    refine ok_bd (k_X8_popNum  μ15 hI_μ15) ?_
    rintro r97 μ96 ⟨hI_μ96, hC_μ96⟩
    have hI_μ96 : IX μ96 := hI_μ96
    have hC_μ96 : Fr [(0, 30, 7)] true μ15 μ96 := hC_μ96
    have hF_μ96 : Fr [(0, 30, 5), (0, 30, 7), (0, 30, 10), (0, 148, 5), (1, 33, 0), (1, 34, 0), (1, 38, 0), (2, 0, 0), (2, 0, 1), (2, 0, 2), (2, 0, 3), (2, 0, 4), (2, 0, 5), (2, 0, 6), (2, 1, 2), (3, 0, 2)] true μ μ96 := hF_μ15.trans (hC_μ96.mono (by decide +kernel) (by decide))
    have hr_μ96 : μ96.2.2 = μ.2.2 := (hC_μ96.2 rfl : μ96.2.2 = μ15.2.2).trans hr_μ15
    try rw [hr_μ96]
    refine ok_bd (k_X1_put (sel 0 (μ.2.2 148 4)) (sel_0 _) r8 (s_X0_stored r8 r97) μ96 hI_μ96) ?_
    rintro r99 μ98 ⟨hI_μ98, hC_μ98⟩
    have hI_μ98 : IX μ98 := hI_μ98
    have hC_μ98 : Fr [(3, 0, 2)] true μ96 μ98 := hC_μ98
    have hF_μ98 : Fr [(0, 30, 5), (0, 30, 7), (0, 30, 10), (0, 148, 5), (1, 33, 0), (1, 34, 0), (1, 38, 0), (2, 0, 0), (2, 0, 1), (2, 0, 2), (2, 0, 3), (2, 0, 4), (2, 0, 5), (2, 0, 6), (2, 1, 2), (3, 0, 2)] true μ μ98 := hF_μ96.trans (hC_μ98.mono (by decide +kernel) (by decide))
    have hr_μ98 : μ98.2.2 = μ.2.2 := (hC_μ98.2 rfl : μ98.2.2 = μ96.2.2).trans hr_μ96
    try rw [hr_μ98]
    refine ok_bw (k_X8_push r99 μ98 hI_μ98) ?_
    rintro μ100 ⟨hI_μ100, hC_μ100⟩
    have hF_μ100 : Fr [(0, 30, 5), (0, 30, 7), (0, 30, 10), (0, 148, 5), (1, 33, 0), (1, 34, 0), (1, 38, 0), (2, 0, 0), (2, 0, 1), (2, 0, 2), (2, 0, 3), (2, 0, 4), (2, 0, 5), (2, 0, 6), (2, 1, 2), (3, 0, 2)] true μ μ100 := hF_μ98.trans (hC_μ100.mono (by decide +kernel) (by decide))
    have hr_μ100 : μ100.2.2 = μ.2.2 := (hC_μ100.2 rfl : μ100.2.2 = μ98.2.2).trans hr_μ98
    try rw [hr_μ100]
    have g102 := rgc_0_4 (sel_0 (μ.2.2 148 4)) hI_μ100
    have f103 : (μ100.1 (sel 0 (μ.2.2 148 4)) 4).toInt = (μ.1 (sel 0 (μ.2.2 148 4)) 4).toInt := congrArg Int32.toInt ((hC_μ100.1 _ _ (cls_free (by decide +kernel) (sel_0 (μ.2.2 148 4)))).trans ((hC_μ98.1 _ _ (cls_free (by decide +kernel) (sel_0 (μ.2.2 148 4)))).trans ((hC_μ96.1 _ _ (cls_free (by decide +kernel) (sel_0 (μ.2.2 148 4)))).trans (((by rw [e_μ15]; exact sF_k (by decide) : μ15.1 (sel 0 (μ.2.2 148 4)) 4 = μ11.1 (sel 0 (μ.2.2 148 4)) 4)).trans ((hC_μ11.1 _ _ (cls_free (by decide +kernel) (sel_0 (μ.2.2 148 4)))).trans ((hC_μ7.1 _ _ (cls_free (by decide +kernel) (sel_0 (μ.2.2 148 4)))).trans (hC_μ3.1 _ _ (cls_free (by decide +kernel) (sel_0 (μ.2.2 148 4))))))))))
    exact ok_some ⟨hI_μ100, hF_μ100, by dsimp only; (try simp only [hr_μ100]); omega⟩
  intro c95
  rw [ti_eq] at c95
  refine ok_ite ?_ ?_
  · intro c104
    rw [ti_eq] at c104
    refine ok_bd (k_X1_get (sel 0 (μ.2.2 148 4)) (sel_0 _) r8 μ15 hI_μ15) ?_
    rintro r106 μ105 ⟨hI_μ105, hC_μ105⟩
    have hI_μ105 : IX μ105 := hI_μ105
    have hC_μ105 : Fr [] true μ15 μ105 := hC_μ105
    have hF_μ105 : Fr [(0, 30, 5), (0, 30, 7), (0, 30, 10), (0, 148, 5), (1, 33, 0), (1, 34, 0), (1, 38, 0), (2, 0, 0), (2, 0, 1), (2, 0, 2), (2, 0, 3), (2, 0, 4), (2, 0, 5), (2, 0, 6), (2, 1, 2), (3, 0, 2)] true μ μ105 := hF_μ15.trans (hC_μ105.mono (by decide +kernel) (by decide))
    have hr_μ105 : μ105.2.2 = μ.2.2 := (hC_μ105.2 rfl : μ105.2.2 = μ15.2.2).trans hr_μ15
    try rw [hr_μ105]
    refine ok_bw (k_X8_push r106 μ105 hI_μ105) ?_
    rintro μ107 ⟨hI_μ107, hC_μ107⟩
    have hF_μ107 : Fr [(0, 30, 5), (0, 30, 7), (0, 30, 10), (0, 148, 5), (1, 33, 0), (1, 34, 0), (1, 38, 0), (2, 0, 0), (2, 0, 1), (2, 0, 2), (2, 0, 3), (2, 0, 4), (2, 0, 5), (2, 0, 6), (2, 1, 2), (3, 0, 2)] true μ μ107 := hF_μ105.trans (hC_μ107.mono (by decide +kernel) (by decide))
    have hr_μ107 : μ107.2.2 = μ.2.2 := (hC_μ107.2 rfl : μ107.2.2 = μ105.2.2).trans hr_μ105
    try rw [hr_μ107]
    have g109 := rgc_0_4 (sel_0 (μ.2.2 148 4)) hI_μ107
    have f110 : (μ107.1 (sel 0 (μ.2.2 148 4)) 4).toInt = (μ.1 (sel 0 (μ.2.2 148 4)) 4).toInt := congrArg Int32.toInt ((hC_μ107.1 _ _ (cls_free (by decide +kernel) (sel_0 (μ.2.2 148 4)))).trans ((hC_μ105.1 _ _ (cls_free (by decide +kernel) (sel_0 (μ.2.2 148 4)))).trans (((by rw [e_μ15]; exact sF_k (by decide) : μ15.1 (sel 0 (μ.2.2 148 4)) 4 = μ11.1 (sel 0 (μ.2.2 148 4)) 4)).trans ((hC_μ11.1 _ _ (cls_free (by decide +kernel) (sel_0 (μ.2.2 148 4)))).trans ((hC_μ7.1 _ _ (cls_free (by decide +kernel) (sel_0 (μ.2.2 148 4)))).trans (hC_μ3.1 _ _ (cls_free (by decide +kernel) (sel_0 (μ.2.2 148 4)))))))))
    exact ok_some ⟨hI_μ107, hF_μ107, by dsimp only; (try simp only [hr_μ107]); omega⟩
  intro c104
  rw [ti_eq] at c104
  refine ok_ite ?_ ?_
  · intro c111
    rw [ti_eq] at c111
    refine ok_bd (k_X8_pop  μ15 hI_μ15) ?_
    rintro r113 μ112 ⟨hI_μ112, hC_μ112⟩
    have hI_μ112 : IX μ112 := hI_μ112
    have hC_μ112 : Fr [(0, 30, 7)] true μ15 μ112 := hC_μ112
    have hF_μ112 : Fr [(0, 30, 5), (0, 30, 7), (0, 30, 10), (0, 148, 5), (1, 33, 0), (1, 34, 0), (1, 38, 0), (2, 0, 0), (2, 0, 1), (2, 0, 2), (2, 0, 3), (2, 0, 4), (2, 0, 5), (2, 0, 6), (2, 1, 2), (3, 0, 2)] true μ μ112 := hF_μ15.trans (hC_μ112.mono (by decide +kernel) (by decide))
    have hr_μ112 : μ112.2.2 = μ.2.2 := (hC_μ112.2 rfl : μ112.2.2 = μ15.2.2).trans hr_μ15
    try rw [hr_μ112]
    refine ok_bw (k_X8_setVar r8 r113 μ112 hI_μ112) ?_
    rintro μ114 ⟨hI_μ114, hC_μ114⟩
    have hF_μ114 : Fr [(0, 30, 5), (0, 30, 7), (0, 30, 10), (0, 148, 5), (1, 33, 0), (1, 34, 0), (1, 38, 0), (2, 0, 0), (2, 0, 1), (2, 0, 2), (2, 0, 3), (2, 0, 4), (2, 0, 5), (2, 0, 6), (2, 1, 2), (3, 0, 2)] true μ μ114 := hF_μ112.trans (hC_μ114.mono (by decide +kernel) (by decide))
    have hr_μ114 : μ114.2.2 = μ.2.2 := (hC_μ114.2 rfl : μ114.2.2 = μ112.2.2).trans hr_μ112
    try rw [hr_μ114]
    have g116 := rgc_0_4 (sel_0 (μ.2.2 148 4)) hI_μ114
    have f117 : (μ114.1 (sel 0 (μ.2.2 148 4)) 4).toInt = (μ.1 (sel 0 (μ.2.2 148 4)) 4).toInt := congrArg Int32.toInt ((hC_μ114.1 _ _ (cls_free (by decide +kernel) (sel_0 (μ.2.2 148 4)))).trans ((hC_μ112.1 _ _ (cls_free (by decide +kernel) (sel_0 (μ.2.2 148 4)))).trans (((by rw [e_μ15]; exact sF_k (by decide) : μ15.1 (sel 0 (μ.2.2 148 4)) 4 = μ11.1 (sel 0 (μ.2.2 148 4)) 4)).trans ((hC_μ11.1 _ _ (cls_free (by decide +kernel) (sel_0 (μ.2.2 148 4)))).trans ((hC_μ7.1 _ _ (cls_free (by decide +kernel) (sel_0 (μ.2.2 148 4)))).trans (hC_μ3.1 _ _ (cls_free (by decide +kernel) (sel_0 (μ.2.2 148 4)))))))))
    exact ok_some ⟨hI_μ114, hF_μ114, by dsimp only; (try simp only [hr_μ114]); omega⟩
  intro c111
  rw [ti_eq] at c111
  refine ok_ite ?_ ?_
  · intro c118
    rw [ti_eq] at c118
    refine ok_bw (k_X7_call r8 r12 μ15 hI_μ15) ?_
    rintro μ119 ⟨hI_μ119, hC_μ119⟩
    have hF_μ119 : Fr [(0, 30, 5), (0, 30, 7), (0, 30, 10), (0, 148, 5), (1, 33, 0), (1, 34, 0), (1, 38, 0), (2, 0, 0), (2, 0, 1), (2, 0, 2), (2, 0, 3), (2, 0, 4), (2, 0, 5), (2, 0, 6), (2, 1, 2), (3, 0, 2)] true μ μ119 := hF_μ15.trans (hC_μ119.mono (by decide +kernel) (by decide))
    have hr_μ119 : μ119.2.2 = μ.2.2 := (hC_μ119.2 rfl : μ119.2.2 = μ15.2.2).trans hr_μ15
    try rw [hr_μ119]
    have g121 := rgc_0_4 (sel_0 (μ.2.2 148 4)) hI_μ119
    have f122 : (μ119.1 (sel 0 (μ.2.2 148 4)) 4).toInt = (μ.1 (sel 0 (μ.2.2 148 4)) 4).toInt := congrArg Int32.toInt ((hC_μ119.1 _ _ (cls_free (by decide +kernel) (sel_0 (μ.2.2 148 4)))).trans (((by rw [e_μ15]; exact sF_k (by decide) : μ15.1 (sel 0 (μ.2.2 148 4)) 4 = μ11.1 (sel 0 (μ.2.2 148 4)) 4)).trans ((hC_μ11.1 _ _ (cls_free (by decide +kernel) (sel_0 (μ.2.2 148 4)))).trans ((hC_μ7.1 _ _ (cls_free (by decide +kernel) (sel_0 (μ.2.2 148 4)))).trans (hC_μ3.1 _ _ (cls_free (by decide +kernel) (sel_0 (μ.2.2 148 4))))))))
    exact ok_some ⟨hI_μ119, hF_μ119, by dsimp only; (try simp only [hr_μ119]); omega⟩
  intro c118
  rw [ti_eq] at c118
  refine ok_bw (k_X7_goBack  μ15 hI_μ15) ?_
  rintro μ123 ⟨hI_μ123, hC_μ123⟩
  have hF_μ123 : Fr [(0, 30, 5), (0, 30, 7), (0, 30, 10), (0, 148, 5), (1, 33, 0), (1, 34, 0), (1, 38, 0), (2, 0, 0), (2, 0, 1), (2, 0, 2), (2, 0, 3), (2, 0, 4), (2, 0, 5), (2, 0, 6), (2, 1, 2), (3, 0, 2)] true μ μ123 := hF_μ15.trans (hC_μ123.mono (by decide +kernel) (by decide))
  have hr_μ123 : μ123.2.2 = μ.2.2 := (hC_μ123.2 rfl : μ123.2.2 = μ15.2.2).trans hr_μ15
  try rw [hr_μ123]
  have g125 := rgc_0_4 (sel_0 (μ.2.2 148 4)) hI_μ123
  have f126 : (μ123.1 (sel 0 (μ.2.2 148 4)) 4).toInt = (μ.1 (sel 0 (μ.2.2 148 4)) 4).toInt := congrArg Int32.toInt ((hC_μ123.1 _ _ (cls_free (by decide +kernel) (sel_0 (μ.2.2 148 4)))).trans (((by rw [e_μ15]; exact sF_k (by decide) : μ15.1 (sel 0 (μ.2.2 148 4)) 4 = μ11.1 (sel 0 (μ.2.2 148 4)) 4)).trans ((hC_μ11.1 _ _ (cls_free (by decide +kernel) (sel_0 (μ.2.2 148 4)))).trans ((hC_μ7.1 _ _ (cls_free (by decide +kernel) (sel_0 (μ.2.2 148 4)))).trans (hC_μ3.1 _ _ (cls_free (by decide +kernel) (sel_0 (μ.2.2 148 4))))))))
  exact ok_some ⟨hI_μ123, hF_μ123, by dsimp only; (try simp only [hr_μ123]); omega⟩
