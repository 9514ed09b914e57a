set_option maxHeartbeats 4000000 in
set_option maxRecDepth 100000 in
theorem k_X12_readNumber_b161 (a1 : Int32) (a2 : Int32) (k0 : UInt32) (μ : Mem) (hI_μ : IM μ) (hc : (k0 = 1092616192 ∨ k0 = 1120403456 ∨ k0 = 1148846080)) : ok (p_X12_readNumber_b161 a1 a2 k0 μ) (fun q => IM q.2 ∧ Fr [(0, 0, 4), (0, 0, 5), (0, 0, 6), (0, 0, 7)] true μ q.2 ∧ (((q.1).toInt = 0 ∨ (q.1).toInt = 1) ∧ (q.2.1 0 4).toInt = (μ.1 0 4).toInt)) := by
  have li0 : (0 : Int32).toInt = 0 := by decide
  have li1 : (1 : Int32).toInt = 1 := by decide
  have hF_μ : Fr [(0, 0, 4), (0, 0, 5), (0, 0, 6), (0, 0, 7)] true μ μ := Fr.rf
  have hr_μ : μ.2.2 = μ.2.2 := rfl
  rw [p_X12_readNumber_b161_eq]
  have lo_a1 := ti_lo a1
  have hi_a1 := ti_hi a1
  have lo_a2 := ti_lo a2
  have hi_a2 := ti_hi a2
  have g53 := rgm_0_4 hI_μ
  refine ok_bv (fun μ54 e_μ54 => ?_)
  have hI_μ54 : IM μ54 := by rw [e_μ54]; exact IM_F hI_μ (rpm_0_6 (by omega))
  have hF_μ54 : Fr [(0, 0, 4), (0, 0, 5), (0, 0, 6), (0, 0, 7)] true μ μ54 := by rw [e_μ54]; exact Fr.put hF_μ (by decide +kernel)
  have v_μ54 : (μ54.1 0 6).toInt = 1 := by rw [e_μ54, sF_v]; exact TI.e (n := 1) (TI.lit (by decide))
  have hr_μ54 : μ54.2.2 = μ.2.2 := (by rw [e_μ54]; rfl : μ54.2.2 = μ.2.2).trans hr_μ
  refine ok_ite ?_ ?_
  · intro c55
    rw [ti_eq] at c55
    refine ok_gd (n32_dec _ hc) ?_
    refine ok_bv (fun μ57 e_μ57 => ?_)
    have hI_μ57 : IM μ57 := by rw [e_μ57]; exact IM_F hI_μ54 (rtm_0_7 _)
    have hF_μ57 : Fr [(0, 0, 4), (0, 0, 5), (0, 0, 6), (0, 0, 7)] true μ μ57 := by rw [e_μ57]; exact Fr.put hF_μ54 (by decide +kernel)
    have v_μ57 : (μ57.1 0 7).toInt = (s_X12_bitsOf (FP.fdiv (FP.i2f a2) k0)).toInt := by rw [e_μ57, sF_v]
    have hr_μ57 : μ57.2.2 = μ.2.2 := (by rw [e_μ57]; rfl : μ57.2.2 = μ54.2.2).trans hr_μ54
    have g58 := rgm_0_4 hI_μ57
    have f59 : (μ57.1 0 4).toInt = (μ.1 0 4).toInt := congrArg Int32.toInt (((by rw [e_μ57]; rfl : μ57.1 0 4 = μ54.1 0 4)).trans ((by rw [e_μ54]; rfl : μ54.1 0 4 = μ.1 0 4)))
    exact ok_some ⟨hI_μ57, hF_μ57, by (try dsimp only); (try rw [hr_μ57]); omega⟩
  · intro c55
    rw [ti_eq] at c55
    refine ok_gd (n32_dec _ hc) ?_
    refine ok_bv (fun μ61 e_μ61 => ?_)
    have hI_μ61 : IM μ61 := by rw [e_μ61]; exact IM_F hI_μ54 (rtm_0_7 _)
    have hF_μ61 : Fr [(0, 0, 4), (0, 0, 5), (0, 0, 6), (0, 0, 7)] true μ μ61 := by rw [e_μ61]; exact Fr.put hF_μ54 (by decide +kernel)
    have v_μ61 : (μ61.1 0 7).toInt = (s_X12_bitsOf (FP.fdiv (FP.i2f (-a2)) k0)).toInt := by rw [e_μ61, sF_v]
    have hr_μ61 : μ61.2.2 = μ.2.2 := (by rw [e_μ61]; rfl : μ61.2.2 = μ54.2.2).trans hr_μ54
    have g62 := rgm_0_4 hI_μ61
    have f63 : (μ61.1 0 4).toInt = (μ.1 0 4).toInt := congrArg Int32.toInt (((by rw [e_μ61]; rfl : μ61.1 0 4 = μ54.1 0 4)).trans ((by rw [e_μ54]; rfl : μ54.1 0 4 = μ.1 0 4)))
    exact ok_some ⟨hI_μ61, hF_μ61, by (try dsimp only); (try rw [hr_μ61]); omega⟩
set_option maxHeartbeats 4000000 in
set_option maxRecDepth 100000 in
theorem k_X12_readNumber_b71 (a1 : Int32) (a2 : Int32) (k0 : Int32) (μ : Mem) (hI_μ : IM μ) : ok (p_X12_readNumber_b71 a1 a2 k0 μ) (fun q => IM q.2 ∧ Fr [(0, 0, 4), (0, 0, 5), (0, 0, 6), (0, 0, 7)] true μ q.2 ∧ (((q.1).toInt = 0 ∨ (q.1).toInt = 1) ∧ (μ.1 0 4).toInt ≤ (q.2.1 0 4).toInt)) := by
  have li0 : (0 : Int32).toInt = 0 := by decide
  have li1 : (1 : Int32).toInt = 1 := by decide
  have li2 : (2 : Int32).toInt = 2 := by decide
  have li3 : (3 : Int32).toInt = 3 := by decide
  have li46 : (46 : Int32).toInt = 46 := by decide
  have hF_μ : Fr [(0, 0, 4), (0, 0, 5), (0, 0, 6), (0, 0, 7)] true μ μ := Fr.rf
  have hr_μ : μ.2.2 = μ.2.2 := rfl
  rw [p_X12_readNumber_b71_eq]
  have lo_a1 := ti_lo a1
  have hi_a1 := ti_hi a1
  have lo_a2 := ti_lo a2
  have hi_a2 := ti_hi a2
  have lo_k0 := ti_lo k0
  have hi_k0 := ti_hi k0
  have g26 := rgm_0_4 hI_μ
  refine ok_bv (fun μ27 e_μ27 => ?_)
  have hI_μ27 : IM μ27 := by rw [e_μ27]; exact IM_F hI_μ (rtm_0_7 _)
  have hF_μ27 : Fr [(0, 0, 4), (0, 0, 5), (0, 0, 6), (0, 0, 7)] true μ μ27 := by rw [e_μ27]; exact Fr.put hF_μ (by decide +kernel)
  have v_μ27 : (μ27.1 0 7).toInt = k0.toInt := by rw [e_μ27, sF_v]
  have hr_μ27 : μ27.2.2 = μ.2.2 := (by rw [e_μ27]; rfl : μ27.2.2 = μ.2.2).trans hr_μ
  have g30 := rgm_0_3 hI_μ27
  have g31 := rgm_0_4 hI_μ27
  have f32 : (μ27.1 0 4).toInt = (μ.1 0 4).toInt := congrArg Int32.toInt ((by rw [e_μ27]; rfl : μ27.1 0 4 = μ.1 0 4))
  refine ok_bd (k_X12_here  μ27 hI_μ27) ?_
  rintro r29 μ28 ⟨hq9, p_r29⟩
  obtain rfl : μ27 = μ28 := hq9
  dsimp only at p_r29
  have lo_r29 := ti_lo r29
  have hi_r29 := ti_hi r29
  try simp only [hr_μ27] at p_r29
  refine ok_ite ?_ ?_
  · intro c33
    rw [ti_eq] at c33
    refine ok_bv (fun μ34 e_μ34 => ?_)
    have hI_μ34 : IM μ34 := by rw [e_μ34]; exact IM_F hI_μ27 (rpm_0_4 (by (try rw [TI.e (e := ((μ27.1 0 4) + (1 : Int32))) (n := ((μ27.1 0 4).toInt + 1)) (TI.add TI.rf (TI.lit (by decide)) (by omega) (by omega))]); omega))
    have hF_μ34 : Fr [(0, 0, 4), (0, 0, 5), (0, 0, 6), (0, 0, 7)] true μ μ34 := by rw [e_μ34]; exact Fr.put hF_μ27 (by decide +kernel)
    have v_μ34 : (μ34.1 0 4).toInt = ((μ27.1 0 4).toInt + 1) := by rw [e_μ34, sF_v]; exact TI.e (n := ((μ27.1 0 4).toInt + 1)) (TI.add TI.rf (TI.lit (by decide)) (by omega) (by omega))
    have hr_μ34 : μ34.2.2 = μ.2.2 := (by rw [e_μ34]; rfl : μ34.2.2 = μ27.2.2).trans hr_μ27
    have g37 := rgm_0_3 hI_μ34
    have f38 : (μ34.1 0 3).toInt = (μ27.1 0 3).toInt := congrArg Int32.toInt ((by rw [e_μ34]; rfl : μ34.1 0 3 = μ27.1 0 3))
    have g39 := rgm_0_4 hI_μ34
    refine ok_bd (k_X12_here  μ34 hI_μ34) ?_
    rintro r36 μ35 ⟨hq9, p_r36⟩
    obtain rfl : μ34 = μ35 := hq9
    dsimp only at p_r36
    have lo_r36 := ti_lo r36
    have hi_r36 := ti_hi r36
    try simp only [hr_μ34] at p_r36
    refine ok_ite ?_ ?_
    · intro c40
      rw [ti_eq] at c40
      have y41 := tf_isFigure r36
      refine ok_bd (k_X12_fails (μ34.1 0 4) μ34 hI_μ34) ?_
      rintro r43 μ42 ⟨hI_μ42, hC_μ42, p_μ42⟩
      have hI_μ42 : IM μ42 := hI_μ42
      have hC_μ42 : Fr [(0, 0, 5)] true μ34 μ42 := hC_μ42
      dsimp only at p_μ42
      have lo_r43 := ti_lo r43
      have hi_r43 := ti_hi r43
      have hF_μ42 : Fr [(0, 0, 4), (0, 0, 5), (0, 0, 6), (0, 0, 7)] true μ μ42 := hF_μ34.trans (hC_μ42.mono (by decide +kernel) (by decide))
      have hr_μ42 : μ42.2.2 = μ.2.2 := (hC_μ42.2 rfl : μ42.2.2 = μ34.2.2).trans hr_μ34
      refine ok_gd (isB_of (by omega)) ?_
      have g44 := rgm_0_4 hI_μ42
      have f45 : (μ42.1 0 4).toInt = (μ34.1 0 4).toInt := congrArg Int32.toInt (hC_μ42.1 0 4 (by decide +kernel))
      exact ok_some ⟨hI_μ42, hF_μ42, by (try dsimp only); (try rw [hr_μ42]); omega⟩
    · intro c40
      rw [ti_eq] at c40
      have y47 := tf_isFigure r36
      refine ok_bv (fun v48 ev48 => ?_)
      have tv48 : v48.toInt = (μ34.1 0 4).toInt := congrArg Int32.toInt ev48
      refine ok_bd (k_X12_digits (3 : Int32) a2 μ34 hI_μ34) ?_
      rintro r50 μ49 ⟨hI_μ49, hC_μ49, p_μ49⟩
      have hI_μ49 : IM μ49 := hI_μ49
      have hC_μ49 : Fr [(0, 0, 4)] true μ34 μ49 := hC_μ49
      dsimp only at p_μ49
      have lo_r50 := ti_lo r50
      have hi_r50 := ti_hi r50
      have hF_μ49 : Fr [(0, 0, 4), (0, 0, 5), (0, 0, 6), (0, 0, 7)] true μ μ49 := hF_μ34.trans (hC_μ49.mono (by decide +kernel) (by decide))
      have hr_μ49 : μ49.2.2 = μ.2.2 := (hC_μ49.2 rfl : μ49.2.2 = μ34.2.2).trans hr_μ34
      try simp only [hr_μ49, hr_μ34] at p_μ49
      have g51 := rgm_0_4 hI_μ49
      refine ok_ite ?_ ?_
      · intro c52
        rw [ti_eq] at c52
        try rw [TI.e (e := ((μ49.1 0 4) - v48)) (n := ((μ49.1 0 4).toInt - v48.toInt)) (TI.sub TI.rf TI.rf (by omega) (by omega))] at c52
        exact ok_mono (k_X12_readNumber_b161  a1 r50 (1092616192) μ49 hI_μ49 (by first | exact Or.inl rfl | exact Or.inr (Or.inl rfl) | exact Or.inr (Or.inr rfl))) (fun q h => ⟨h.1, hF_μ49.trans h.2.1, by have h9 := h.2.2; (try dsimp only at h9 ⊢); omega⟩)
      · intro c52
        rw [ti_eq] at c52
        try rw [TI.e (e := ((μ49.1 0 4) - v48)) (n := ((μ49.1 0 4).toInt - v48.toInt)) (TI.sub TI.rf TI.rf (by omega) (by omega))] at c52
        refine ok_ite ?_ ?_
        · intro c64
          rw [ti_eq] at c64
          try rw [TI.e (e := ((μ49.1 0 4) - v48)) (n := ((μ49.1 0 4).toInt - v48.toInt)) (TI.sub TI.rf TI.rf (by omega) (by omega))] at c64
          exact ok_mono (k_X12_readNumber_b161  a1 r50 (1120403456) μ49 hI_μ49 (by first | exact Or.inl rfl | exact Or.inr (Or.inl rfl) | exact Or.inr (Or.inr rfl))) (fun q h => ⟨h.1, hF_μ49.trans h.2.1, by have h9 := h.2.2; (try dsimp only at h9 ⊢); omega⟩)
        · intro c64
          rw [ti_eq] at c64
          try rw [TI.e (e := ((μ49.1 0 4) - v48)) (n := ((μ49.1 0 4).toInt - v48.toInt)) (TI.sub TI.rf TI.rf (by omega) (by omega))] at c64
          exact ok_mono (k_X12_readNumber_b161  a1 r50 (1148846080) μ49 hI_μ49 (by first | exact Or.inl rfl | exact Or.inr (Or.inl rfl) | exact Or.inr (Or.inr rfl))) (fun q h => ⟨h.1, hF_μ49.trans h.2.1, by have h9 := h.2.2; (try dsimp only at h9 ⊢); omega⟩)
  · intro c33
    rw [ti_eq] at c33
    exact ok_some ⟨hI_μ27, hF_μ27, by (try dsimp only); (try rw [hr_μ27]); omega⟩
set_option maxHeartbeats 4000000 in
set_option maxRecDepth 100000 in
theorem k_X12_readNumber_b29 (a1 : Int32) (μ : Mem) (hI_μ : IM μ) : ok (p_X12_readNumber_b29 a1 μ) (fun q => IM q.2 ∧ Fr [(0, 0, 4), (0, 0, 5), (0, 0, 6), (0, 0, 7)] true μ q.2 ∧ (((q.1).toInt = 0 ∨ (q.1).toInt = 1) ∧ (μ.1 0 4).toInt ≤ (q.2.1 0 4).toInt ∧ ((q.1).toInt = 0 ∨ (μ.1 0 4).toInt < (q.2.1 0 4).toInt))) := by
  have li0 : (0 : Int32).toInt = 0 := by decide
  have li1 : (1 : Int32).toInt = 1 := by decide
  have li5 : (5 : Int32).toInt = 5 := by decide
  have hF_μ : Fr [(0, 0, 4), (0, 0, 5), (0, 0, 6), (0, 0, 7)] true μ μ := Fr.rf
  have hr_μ : μ.2.2 = μ.2.2 := rfl
  rw [p_X12_readNumber_b29_eq]
  have lo_a1 := ti_lo a1
  have hi_a1 := ti_hi a1
  have g9 := rgm_0_4 hI_μ
  have g12 := rgm_0_3 hI_μ
  refine ok_bd (k_X12_here  μ hI_μ) ?_
  rintro r11 μ10 ⟨hq9, p_r11⟩
  obtain rfl : μ = μ10 := hq9
  dsimp only at p_r11
  have lo_r11 := ti_lo r11
  have hi_r11 := ti_hi r11
  refine ok_ite ?_ ?_
  · intro c13
    rw [ti_eq] at c13
    have y14 := tf_isFigure r11
    refine ok_bd (k_X12_fails (μ.1 0 4) μ hI_μ) ?_
    rintro r16 μ15 ⟨hI_μ15, hC_μ15, p_μ15⟩
    have hI_μ15 : IM μ15 := hI_μ15
    have hC_μ15 : Fr [(0, 0, 5)] true μ μ15 := hC_μ15
    dsimp only at p_μ15
    have lo_r16 := ti_lo r16
    have hi_r16 := ti_hi r16
    have hF_μ15 : Fr [(0, 0, 4), (0, 0, 5), (0, 0, 6), (0, 0, 7)] true μ μ15 := hF_μ.trans (hC_μ15.mono (by decide +kernel) (by decide))
    have hr_μ15 : μ15.2.2 = μ.2.2 := (hC_μ15.2 rfl : μ15.2.2 = μ.2.2).trans hr_μ
    refine ok_gd (isB_of (by omega)) ?_
    have g17 := rgm_0_4 hI_μ15
    have f18 : (μ15.1 0 4).toInt = (μ.1 0 4).toInt := congrArg Int32.toInt (hC_μ15.1 0 4 (by decide +kernel))
    exact ok_some ⟨hI_μ15, hF_μ15, by (try dsimp only); (try rw [hr_μ15]); omega⟩
  · intro c13
    rw [ti_eq] at c13
    have y20 := tf_isFigure r11
    refine ok_bd (k_X12_digits (5 : Int32) (0 : Int32) μ hI_μ) ?_
    rintro r22 μ21 ⟨hI_μ21, hC_μ21, p_μ21⟩
    have hI_μ21 : IM μ21 := hI_μ21
    have hC_μ21 : Fr [(0, 0, 4)] true μ μ21 := hC_μ21
    dsimp only at p_μ21
    have lo_r22 := ti_lo r22
    have hi_r22 := ti_hi r22
    have hF_μ21 : Fr [(0, 0, 4), (0, 0, 5), (0, 0, 6), (0, 0, 7)] true μ μ21 := hF_μ.trans (hC_μ21.mono (by decide +kernel) (by decide))
    have hr_μ21 : μ21.2.2 = μ.2.2 := (hC_μ21.2 rfl : μ21.2.2 = μ.2.2).trans hr_μ
    try simp only [hr_μ21, hr_μ] at p_μ21
    have g23 := rgm_0_4 hI_μ21
    refine ok_bv (fun μ24 e_μ24 => ?_)
    have hI_μ24 : IM μ24 := by rw [e_μ24]; exact IM_F hI_μ21 (rpm_0_6 (by omega))
    have hF_μ24 : Fr [(0, 0, 4), (0, 0, 5), (0, 0, 6), (0, 0, 7)] true μ μ24 := by rw [e_μ24]; exact Fr.put hF_μ21 (by decide +kernel)
    have v_μ24 : (μ24.1 0 6).toInt = 0 := by rw [e_μ24, sF_v]; exact TI.e (n := 0) (TI.lit (by decide))
    have hr_μ24 : μ24.2.2 = μ.2.2 := (by rw [e_μ24]; rfl : μ24.2.2 = μ21.2.2).trans hr_μ21
    refine ok_ite ?_ ?_
    · intro c25
      rw [ti_eq] at c25
      have g65 := rgm_0_4 hI_μ24
      have f66 : (μ24.1 0 4).toInt = (μ21.1 0 4).toInt := congrArg Int32.toInt ((by rw [e_μ24]; rfl : μ24.1 0 4 = μ21.1 0 4))
      exact ok_mono (k_X12_readNumber_b71  a1 r22 r22 μ24 hI_μ24) (fun q h => ⟨h.1, hF_μ24.trans h.2.1, by have h9 := h.2.2; (try dsimp only at h9 ⊢); omega⟩)
    · intro c25
      rw [ti_eq] at c25
      have g67 := rgm_0_4 hI_μ24
      have f68 : (μ24.1 0 4).toInt = (μ21.1 0 4).toInt := congrArg Int32.toInt ((by rw [e_μ24]; rfl : μ24.1 0 4 = μ21.1 0 4))
      exact ok_mono (k_X12_readNumber_b71  a1 r22 (-r22) μ24 hI_μ24) (fun q h => ⟨h.1, hF_μ24.trans h.2.1, by have h9 := h.2.2; (try dsimp only at h9 ⊢); omega⟩)
set_option maxHeartbeats 4000000 in
set_option maxRecDepth 100000 in
theorem k_X12_readNumber_b14 (k0 : Int32) (μ : Mem) (hI_μ : IM μ) (hc : ((k0).toInt = 0 ∨ (μ.1 0 4).toInt < (μ.1 0 3).toInt)) : ok (p_X12_readNumber_b14 k0 μ) (fun q => IM q.2 ∧ Fr [(0, 0, 4), (0, 0, 5), (0, 0, 6), (0, 0, 7)] true μ q.2 ∧ (((q.1).toInt = 0 ∨ (q.1).toInt = 1) ∧ (μ.1 0 4).toInt ≤ (q.2.1 0 4).toInt ∧ ((q.1).toInt = 0 ∨ (μ.1 0 4).toInt < (q.2.1 0 4).toInt))) := by
  have li0 : (0 : Int32).toInt = 0 := by decide
  have li1 : (1 : Int32).toInt = 1 := by decide
  have hF_μ : Fr [(0, 0, 4), (0, 0, 5), (0, 0, 6), (0, 0, 7)] true μ μ := Fr.rf
  have hr_μ : μ.2.2 = μ.2.2 := rfl
  rw [p_X12_readNumber_b14_eq]
  have lo_k0 := ti_lo k0
  have hi_k0 := ti_hi k0
  have g6 := rgm_0_4 hI_μ
  have g7 := rgm_0_3 hI_μ
  refine ok_ite ?_ ?_
  · intro c8
    rw [ti_eq] at c8
    exact ok_mono (k_X12_readNumber_b29  k0 μ hI_μ) (fun q h => ⟨h.1, hF_μ.trans h.2.1, by have h9 := h.2.2; (try dsimp only at h9 ⊢); omega⟩)
  · intro c8
    rw [ti_eq] at c8
    refine ok_bv (fun μ69 e_μ69 => ?_)
    have hI_μ69 : IM μ69 := by rw [e_μ69]; exact IM_F hI_μ (rpm_0_4 (by (try rw [TI.e (e := ((μ.1 0 4) + (1 : Int32))) (n := ((μ.1 0 4).toInt + 1)) (TI.add TI.rf (TI.lit (by decide)) (by omega) (by omega))]); omega))
    have hF_μ69 : Fr [(0, 0, 4), (0, 0, 5), (0, 0, 6), (0, 0, 7)] true μ μ69 := by rw [e_μ69]; exact Fr.put hF_μ (by decide +kernel)
    have v_μ69 : (μ69.1 0 4).toInt = ((μ.1 0 4).toInt + 1) := by rw [e_μ69, sF_v]; exact TI.e (n := ((μ.1 0 4).toInt + 1)) (TI.add TI.rf (TI.lit (by decide)) (by omega) (by omega))
    have hr_μ69 : μ69.2.2 = μ.2.2 := (by rw [e_μ69]; rfl : μ69.2.2 = μ.2.2).trans hr_μ
    have g70 := rgm_0_4 hI_μ69
    exact ok_mono (k_X12_readNumber_b29  k0 μ69 hI_μ69) (fun q h => ⟨h.1, hF_μ69.trans h.2.1, by have h9 := h.2.2; (try dsimp only at h9 ⊢); omega⟩)
set_option maxHeartbeats 4000000 in
set_option maxRecDepth 100000 in
theorem k_X12_readNumber  (μ : Mem) (hI_μ : IM μ) : ok (p_X12_readNumber  μ) (fun q => IM q.2 ∧ Fr [(0, 0, 4), (0, 0, 5), (0, 0, 6), (0, 0, 7)] true μ q.2 ∧ (((q.1).toInt = 0 ∨ (q.1).toInt = 1) ∧ (μ.1 0 4).toInt ≤ (q.2.1 0 4).toInt ∧ ((q.1).toInt = 0 ∨ (μ.1 0 4).toInt < (q.2.1 0 4).toInt))) := by
  have li0 : (0 : Int32).toInt = 0 := by decide
  have li1 : (1 : Int32).toInt = 1 := by decide
  have li45 : (45 : Int32).toInt = 45 := by decide
  have hF_μ : Fr [(0, 0, 4), (0, 0, 5), (0, 0, 6), (0, 0, 7)] true μ μ := Fr.rf
  have hr_μ : μ.2.2 = μ.2.2 := rfl
  rw [p_X12_readNumber_eq]
  have g1 := rgm_0_4 hI_μ
  have g4 := rgm_0_3 hI_μ
  refine ok_bd (k_X12_here  μ hI_μ) ?_
  rintro r3 μ2 ⟨hq9, p_r3⟩
  obtain rfl : μ = μ2 := hq9
  dsimp only at p_r3
  have lo_r3 := ti_lo r3
  have hi_r3 := ti_hi r3
  refine ok_ite ?_ ?_
  · intro c5
    rw [ti_eq] at c5
    exact ok_mono (k_X12_readNumber_b14  (1 : Int32) μ hI_μ (by omega)) (fun q h => ⟨h.1, hF_μ.trans h.2.1, by have h9 := h.2.2; (try dsimp only at h9 ⊢); omega⟩)
  · intro c5
    rw [ti_eq] at c5
    exact ok_mono (k_X12_readNumber_b14  (0 : Int32) μ hI_μ (by omega)) (fun q h => ⟨h.1, hF_μ.trans h.2.1, by have h9 := h.2.2; (try dsimp only at h9 ⊢); omega⟩)

set_option maxHeartbeats 4000000 in
theorem k_X12_lay (a1 : Int32) (a2 : Int32) (a3 : Int32) (μ : Mem) (hI_μ : IM μ) (hc : (μ.1 0 28).toInt < 800 ∧ ((a1).toInt ≠ 11 ∨ (0 ≤ (a2).toInt ∧ (a2).toInt ≤ 13))) : ok (p_X12_lay a1 a2 a3 μ) (fun q => IM q.2 ∧ Fr [(0, 0, 28), (1, 16, 0), (1, 17, 0), (1, 18, 0)] true μ q.2 ∧ ((q.1).toInt = 1 ∧ (q.2.1 0 28).toInt = (μ.1 0 28).toInt + 1)) := by
  have e1 : (1 : Int32).toInt = 1 := by decide
  have g := rgm_0_28 hI_μ
  rw [p_X12_lay_eq]
  refine ok_gd (inb_iff.mpr (by omega)) ?_
  refine ok_bv (fun μ1 z1 => ?_)
  have f1 : μ1.1 0 28 = μ.1 0 28 := by rw [z1]; rfl
  refine ok_gd (inb_iff.mpr (by rw [f1]; omega)) ?_
  refine ok_bv (fun μ2 z2 => ?_)
  have f2 : μ2.1 0 28 = μ.1 0 28 := by rw [z2]; exact f1
  refine ok_gd (inb_iff.mpr (by rw [f2]; omega)) ?_
  refine ok_bv (fun μ3 z3 => ?_)
  have f3 : μ3.1 0 28 = μ.1 0 28 := by rw [z3]; exact f2
  have hI2 : IM μ2 := by
    refine ⟨?_, fun k => ?_⟩
    · rw [z2]; refine IM_N ?_ (rtma_17 _ _)
      rw [z1]; exact IM_N hI_μ.1 (rtma_16 _ _)
    · have s1 : μ2.1 16 k = if k = (μ.1 0 28).toNatClampNeg then a1 else μ.1 16 k := by
        rw [z2, sF_i (by decide), z1, sF_1, if_pos rfl]
      have s2 : μ2.1 17 k = if k = (μ.1 0 28).toNatClampNeg then a2 else μ.1 17 k := by
        rw [z2, sF_1, if_pos rfl, f1, z1, sF_i (by decide)]
      rw [s1, s2]
      by_cases e : k = (μ.1 0 28).toNatClampNeg
      · rw [if_pos e, if_pos e]; exact hc.2
      · rw [if_neg e, if_neg e]; exact hI_μ.2 k
  have hI3 : IM μ3 := by rw [z3]; exact IM_F hI2 (rtma_18 _ _)
  have hF3 : Fr [(0, 0, 28), (1, 16, 0), (1, 17, 0), (1, 18, 0)] true μ μ3 := by
    rw [z3]; refine Fr.puta ?_ (by decide +kernel)
    rw [z2]; refine Fr.puta ?_ (by decide +kernel)
    rw [z1]; exact Fr.puta Fr.rf (by decide +kernel)
  refine ok_bv (fun μ4 z4 => ?_)
  have tv : (μ3.1 0 28 + 1).toInt = (μ.1 0 28).toInt + 1 := by rw [f3, ti_add (by omega) (by omega), e1]
  have hI4 : IM μ4 := by rw [z4]; exact IM_F hI3 (rpm_0_28 (by rw [tv]; omega))
  have hF4 : Fr [(0, 0, 28), (1, 16, 0), (1, 17, 0), (1, 18, 0)] true μ μ4 := by rw [z4]; exact Fr.put hF3 (by decide +kernel)
  exact ok_some ⟨hI4, hF4, e1, by rw [z4, sF_v]; exact tv⟩

set_option maxHeartbeats 4000000 in
set_option maxRecDepth 100000 in
theorem k_X12_openThing  (μ : Mem) (hI_μ : IM μ) (hc : (μ.1 0 32).toInt < 20 ∧ 1 ≤ (μ.1 0 28).toInt) : ok (p_X12_openThing  μ) (fun q => IM q ∧ Fr [(0, 0, 32), (1, 19, 0), (1, 20, 0)] true μ q ∧ ((q.1 0 32).toInt = (μ.1 0 32).toInt + 1)) := by
  have li0 : (0 : Int32).toInt = 0 := by decide
  have li1 : (1 : Int32).toInt = 1 := by decide
  have hF_μ : Fr [(0, 0, 32), (1, 19, 0), (1, 20, 0)] true μ μ := Fr.rf
  have hr_μ : μ.2.2 = μ.2.2 := rfl
  rw [p_X12_openThing_eq]
  have g1 := rgm_0_32 hI_μ
  have g2 := rgm_0_28 hI_μ
  refine ok_gd (inb_iff.mpr (by omega)) ?_
  refine ok_bv (fun μ3 e_μ3 => ?_)
  have hI_μ3 : IM μ3 := by rw [e_μ3]; exact IM_F hI_μ (rpm_19 (by (try rw [TI.e (e := ((μ.1 0 28) - (1 : Int32))) (n := ((μ.1 0 28).toInt - 1)) (TI.sub TI.rf (TI.lit (by decide)) (by omega) (by omega))]); omega))
  have hF_μ3 : Fr [(0, 0, 32), (1, 19, 0), (1, 20, 0)] true μ μ3 := by rw [e_μ3]; exact Fr.puta hF_μ (by decide +kernel)
  have hr_μ3 : μ3.2.2 = μ.2.2 := (by rw [e_μ3]; rfl : μ3.2.2 = μ.2.2).trans hr_μ
  have g4 := rgm_0_32 hI_μ3
  have f5 : (μ3.1 0 32).toInt = (μ.1 0 32).toInt := congrArg Int32.toInt ((by rw [e_μ3]; rfl : μ3.1 0 32 = μ.1 0 32))
  refine ok_gd (inb_iff.mpr (by omega)) ?_
  refine ok_bv (fun μ6 e_μ6 => ?_)
  have hI_μ6 : IM μ6 := by rw [e_μ6]; exact IM_F hI_μ3 (rtma_20 _ _)
  have hF_μ6 : Fr [(0, 0, 32), (1, 19, 0), (1, 20, 0)] true μ μ6 := by rw [e_μ6]; exact Fr.puta hF_μ3 (by decide +kernel)
  have hr_μ6 : μ6.2.2 = μ.2.2 := (by rw [e_μ6]; rfl : μ6.2.2 = μ3.2.2).trans hr_μ3
  have g7 := rgm_0_32 hI_μ6
  have f8 : (μ6.1 0 32).toInt = (μ3.1 0 32).toInt := congrArg Int32.toInt ((by rw [e_μ6]; rfl : μ6.1 0 32 = μ3.1 0 32))
  refine ok_bv (fun μ9 e_μ9 => ?_)
  have hI_μ9 : IM μ9 := by rw [e_μ9]; exact IM_F hI_μ6 (rpm_0_32 (by (try rw [TI.e (e := ((μ6.1 0 32) + (1 : Int32))) (n := ((μ6.1 0 32).toInt + 1)) (TI.add TI.rf (TI.lit (by decide)) (by omega) (by omega))]); omega))
  have hF_μ9 : Fr [(0, 0, 32), (1, 19, 0), (1, 20, 0)] true μ μ9 := by rw [e_μ9]; exact Fr.put hF_μ6 (by decide +kernel)
  have v_μ9 : (μ9.1 0 32).toInt = ((μ6.1 0 32).toInt + 1) := by rw [e_μ9, sF_v]; exact TI.e (n := ((μ6.1 0 32).toInt + 1)) (TI.add TI.rf (TI.lit (by decide)) (by omega) (by omega))
  have hr_μ9 : μ9.2.2 = μ.2.2 := (by rw [e_μ9]; rfl : μ9.2.2 = μ6.2.2).trans hr_μ6
  have g10 := rgm_0_32 hI_μ9
  exact ok_some ⟨hI_μ9, hF_μ9, by (try dsimp only); (try rw [hr_μ9]); omega⟩

set_option maxHeartbeats 4000000 in
set_option maxRecDepth 100000 in
theorem k_X12_layOpen (a1 : Int32) (a2 : Int32) (a3 : Int32) (μ : Mem) (hI_μ : IM μ) (hc : (μ.1 0 4).toInt < 800 ∧ (μ.1 0 28).toInt ≤ (μ.1 0 4).toInt ∧ (μ.1 0 32).toInt < 20 ∧ ((a1).toInt ≠ 11 ∨ (0 ≤ (a2).toInt ∧ (a2).toInt ≤ 13))) : ok (p_X12_layOpen a1 a2 a3 μ) (fun q => IM q.2 ∧ Fr [(0, 0, 28), (0, 0, 32), (0, 0, 4), (1, 16, 0), (1, 17, 0), (1, 18, 0), (1, 19, 0), (1, 20, 0)] true μ q.2 ∧ ((q.1).toInt = 1 ∧ (q.2.1 0 4).toInt = (μ.1 0 4).toInt + 1 ∧ (q.2.1 0 28).toInt = (μ.1 0 28).toInt + 1 ∧ (q.2.1 0 32).toInt = (μ.1 0 32).toInt + 1)) := by
  have li0 : (0 : Int32).toInt = 0 := by decide
  have li1 : (1 : Int32).toInt = 1 := by decide
  have hF_μ : Fr [(0, 0, 28), (0, 0, 32), (0, 0, 4), (1, 16, 0), (1, 17, 0), (1, 18, 0), (1, 19, 0), (1, 20, 0)] true μ μ := Fr.rf
  have hr_μ : μ.2.2 = μ.2.2 := rfl
  rw [p_X12_layOpen_eq]
  have lo_a1 := ti_lo a1
  have hi_a1 := ti_hi a1
  have lo_a2 := ti_lo a2
  have hi_a2 := ti_hi a2
  have lo_a3 := ti_lo a3
  have hi_a3 := ti_hi a3
  have g1 := rgm_0_4 hI_μ
  have g2 := rgm_0_28 hI_μ
  have g3 := rgm_0_32 hI_μ
  refine ok_bv (fun μ4 e_μ4 => ?_)
  have hI_μ4 : IM μ4 := by rw [e_μ4]; exact IM_F hI_μ (rpm_0_4 (by (try rw [TI.e (e := ((μ.1 0 4) + (1 : Int32))) (n := ((μ.1 0 4).toInt + 1)) (TI.add TI.rf (TI.lit (by decide)) (by omega) (by omega))]); omega))
  have hF_μ4 : Fr [(0, 0, 28), (0, 0, 32), (0, 0, 4), (1, 16, 0), (1, 17, 0), (1, 18, 0), (1, 19, 0), (1, 20, 0)] true μ μ4 := by rw [e_μ4]; exact Fr.put hF_μ (by decide +kernel)
  have v_μ4 : (μ4.1 0 4).toInt = ((μ.1 0 4).toInt + 1) := by rw [e_μ4, sF_v]; exact TI.e (n := ((μ.1 0 4).toInt + 1)) (TI.add TI.rf (TI.lit (by decide)) (by omega) (by omega))
  have hr_μ4 : μ4.2.2 = μ.2.2 := (by rw [e_μ4]; rfl : μ4.2.2 = μ.2.2).trans hr_μ
  have g7 := rgm_0_28 hI_μ4
  have f8 : (μ4.1 0 28).toInt = (μ.1 0 28).toInt := congrArg Int32.toInt ((by rw [e_μ4]; rfl : μ4.1 0 28 = μ.1 0 28))
  refine ok_bd (k_X12_lay a1 a2 a3 μ4 hI_μ4 (by (try rw [hr_μ4]); omega)) ?_
  rintro r6 μ5 ⟨hI_μ5, hC_μ5, p_μ5⟩
  have hI_μ5 : IM μ5 := hI_μ5
  have hC_μ5 : Fr [(0, 0, 28), (1, 16, 0), (1, 17, 0), (1, 18, 0)] true μ4 μ5 := hC_μ5
  dsimp only at p_μ5
  have lo_r6 := ti_lo r6
  have hi_r6 := ti_hi r6
  have hF_μ5 : Fr [(0, 0, 28), (0, 0, 32), (0, 0, 4), (1, 16, 0), (1, 17, 0), (1, 18, 0), (1, 19, 0), (1, 20, 0)] true μ μ5 := hF_μ4.trans (hC_μ5.mono (by decide +kernel) (by decide))
  have hr_μ5 : μ5.2.2 = μ.2.2 := (hC_μ5.2 rfl : μ5.2.2 = μ4.2.2).trans hr_μ4
  try simp only [hr_μ5, hr_μ4] at p_μ5
  have g9 := rgm_0_28 hI_μ5
  have g12 := rgm_0_32 hI_μ5
  have f13 : (μ5.1 0 32).toInt = (μ.1 0 32).toInt := congrArg Int32.toInt ((hC_μ5.1 0 32 (by decide +kernel)).trans ((by rw [e_μ4]; rfl : μ4.1 0 32 = μ.1 0 32)))
  refine ok_bw (k_X12_openThing  μ5 hI_μ5 (by (try rw [hr_μ5]); omega)) ?_
  rintro μ10 ⟨hI_μ10, hC_μ10, p_μ10⟩
  have hF_μ10 : Fr [(0, 0, 28), (0, 0, 32), (0, 0, 4), (1, 16, 0), (1, 17, 0), (1, 18, 0), (1, 19, 0), (1, 20, 0)] true μ μ10 := hF_μ5.trans (hC_μ10.mono (by decide +kernel) (by decide))
  have hr_μ10 : μ10.2.2 = μ.2.2 := (hC_μ10.2 rfl : μ10.2.2 = μ5.2.2).trans hr_μ5
  try simp only [hr_μ10, hr_μ5] at p_μ10
  have g14 := rgm_0_32 hI_μ10
  refine ok_gd (isB_of (by omega)) ?_
  have g15 := rgm_0_4 hI_μ10
  have f16 : (μ10.1 0 4).toInt = (μ4.1 0 4).toInt := congrArg Int32.toInt ((hC_μ10.1 0 4 (by decide +kernel)).trans (hC_μ5.1 0 4 (by decide +kernel)))
  have g17 := rgm_0_28 hI_μ10
  have f18 : (μ10.1 0 28).toInt = (μ5.1 0 28).toInt := congrArg Int32.toInt (hC_μ10.1 0 28 (by decide +kernel))
  exact ok_some ⟨hI_μ10, hF_μ10, by (try dsimp only); (try rw [hr_μ10]); omega⟩

set_option maxHeartbeats 4000000 in
set_option maxRecDepth 100000 in
theorem k_X12_readPlace  (μ : Mem) (hI_μ : IM μ) (hc : (μ.1 0 4).toInt < 800) : ok (p_X12_readPlace  μ) (fun q => IM q.2 ∧ Fr [(0, 0, 4), (0, 0, 5)] true μ q.2 ∧ (((q.1).toInt = 0 ∨ (q.1).toInt = 1) ∧ (q.2.1 0 4).toInt = (μ.1 0 4).toInt + 1 ∧ ((q.1).toInt = 0 ∨ (q.2.1 0 4).toInt < (μ.1 0 3).toInt))) := by
  have li0 : (0 : Int32).toInt = 0 := by decide
  have li1 : (1 : Int32).toInt = 1 := by decide
  have li48 : (48 : Int32).toInt = 48 := by decide
  have li55 : (55 : Int32).toInt = 55 := by decide
  have hF_μ : Fr [(0, 0, 4), (0, 0, 5)] true μ μ := Fr.rf
  have hr_μ : μ.2.2 = μ.2.2 := rfl
  rw [p_X12_readPlace_eq]
  have g1 := rgm_0_4 hI_μ
  have g2 := rgm_0_3 hI_μ
  refine ok_bv (fun μ3 e_μ3 => ?_)
  have hI_μ3 : IM μ3 := by rw [e_μ3]; exact IM_F hI_μ (rpm_0_4 (by (try rw [TI.e (e := ((μ.1 0 4) + (1 : Int32))) (n := ((μ.1 0 4).toInt + 1)) (TI.add TI.rf (TI.lit (by decide)) (by omega) (by omega))]); omega))
  have hF_μ3 : Fr [(0, 0, 4), (0, 0, 5)] true μ μ3 := by rw [e_μ3]; exact Fr.put hF_μ (by decide +kernel)
  have v_μ3 : (μ3.1 0 4).toInt = ((μ.1 0 4).toInt + 1) := by rw [e_μ3, sF_v]; exact TI.e (n := ((μ.1 0 4).toInt + 1)) (TI.add TI.rf (TI.lit (by decide)) (by omega) (by omega))
  have hr_μ3 : μ3.2.2 = μ.2.2 := (by rw [e_μ3]; rfl : μ3.2.2 = μ.2.2).trans hr_μ
  have g6 := rgm_0_3 hI_μ3
  have f7 : (μ3.1 0 3).toInt = (μ.1 0 3).toInt := congrArg Int32.toInt ((by rw [e_μ3]; rfl : μ3.1 0 3 = μ.1 0 3))
  have g8 := rgm_0_4 hI_μ3
  refine ok_bd (k_X12_here  μ3 hI_μ3) ?_
  rintro r5 μ4 ⟨hq9, p_r5⟩
  obtain rfl : μ3 = μ4 := hq9
  dsimp only at p_r5
  have lo_r5 := ti_lo r5
  have hi_r5 := ti_hi r5
  try simp only [hr_μ3] at p_r5
  refine ok_ite ?_ ?_
  · intro c9
    rw [ti_eq] at c9
    have y10 := tf_isIn r5 (48 : Int32) (55 : Int32)
    refine ok_bd (k_X12_fails (μ3.1 0 4) μ3 hI_μ3) ?_
    rintro r12 μ11 ⟨hI_μ11, hC_μ11, p_μ11⟩
    have hI_μ11 : IM μ11 := hI_μ11
    have hC_μ11 : Fr [(0, 0, 5)] true μ3 μ11 := hC_μ11
    dsimp only at p_μ11
    have lo_r12 := ti_lo r12
    have hi_r12 := ti_hi r12
    have hF_μ11 : Fr [(0, 0, 4), (0, 0, 5)] true μ μ11 := hF_μ3.trans (hC_μ11.mono (by decide +kernel) (by decide))
    have hr_μ11 : μ11.2.2 = μ.2.2 := (hC_μ11.2 rfl : μ11.2.2 = μ3.2.2).trans hr_μ3
    refine ok_ite ?_ ?_
    · intro c13
      rw [ti_eq] at c13
      have g14 := rgm_0_4 hI_μ11
      have f15 : (μ11.1 0 4).toInt = (μ3.1 0 4).toInt := congrArg Int32.toInt (hC_μ11.1 0 4 (by decide +kernel))
      have g16 := rgm_0_3 hI_μ11
      have f17 : (μ11.1 0 3).toInt = (μ3.1 0 3).toInt := congrArg Int32.toInt (hC_μ11.1 0 3 (by decide +kernel))
      exact ok_some ⟨hI_μ11, hF_μ11, by (try dsimp only); (try rw [hr_μ11]); omega⟩
    · intro c13
      rw [ti_eq] at c13
      have g18 := rgm_0_4 hI_μ11
      have f19 : (μ11.1 0 4).toInt = (μ3.1 0 4).toInt := congrArg Int32.toInt (hC_μ11.1 0 4 (by decide +kernel))
      have g20 := rgm_0_3 hI_μ11
      have f21 : (μ11.1 0 3).toInt = (μ3.1 0 3).toInt := congrArg Int32.toInt (hC_μ11.1 0 3 (by decide +kernel))
      exact ok_some ⟨hI_μ11, hF_μ11, by (try dsimp only); (try rw [hr_μ11]); omega⟩
  · intro c9
    rw [ti_eq] at c9
    have y22 := tf_isIn r5 (48 : Int32) (55 : Int32)
    exact ok_some ⟨hI_μ3, hF_μ3, by (try dsimp only); (try rw [hr_μ3]); omega⟩

set_option maxHeartbeats 4000000 in
set_option maxRecDepth 100000 in
theorem k_X12_readLet  (μ : Mem) (hI_μ : IM μ) (hc : (μ.1 0 4).toInt < (μ.1 0 3).toInt ∧ (μ.1 0 28).toInt ≤ (μ.1 0 4).toInt ∧ (μ.1 0 32).toInt < 20) : ok (p_X12_readLet  μ) (fun q => IM q.2 ∧ Fr [(0, 0, 28), (0, 0, 32), (0, 0, 4), (0, 0, 5), (1, 16, 0), (1, 17, 0), (1, 18, 0), (1, 19, 0), (1, 20, 0)] true μ q.2 ∧ (((q.1).toInt = 0 ∨ (q.1).toInt = 1) ∧ ((q.1).toInt = 0 ∨ ((q.2.1 0 28).toInt ≤ (q.2.1 0 4).toInt ∧ (μ.1 0 4).toInt < (q.2.1 0 4).toInt)))) := by
  have li0 : (0 : Int32).toInt = 0 := by decide
  have li1 : (1 : Int32).toInt = 1 := by decide
  have li2 : (2 : Int32).toInt = 2 := by decide
  have li11 : (11 : Int32).toInt = 11 := by decide
  have li61 : (61 : Int32).toInt = 61 := by decide
  have li109 : (109 : Int32).toInt = 109 := by decide
  have hF_μ : Fr [(0, 0, 28), (0, 0, 32), (0, 0, 4), (0, 0, 5), (1, 16, 0), (1, 17, 0), (1, 18, 0), (1, 19, 0), (1, 20, 0)] true μ μ := Fr.rf
  have hr_μ : μ.2.2 = μ.2.2 := rfl
  rw [p_X12_readLet_eq]
  have g1 := rgm_0_4 hI_μ
  have g2 := rgm_0_3 hI_μ
  have g3 := rgm_0_28 hI_μ
  have g4 := rgm_0_32 hI_μ
  refine ok_bv (fun μ5 e_μ5 => ?_)
  have hI_μ5 : IM μ5 := by rw [e_μ5]; exact IM_F hI_μ (rpm_0_4 (by (try rw [TI.e (e := ((μ.1 0 4) + (1 : Int32))) (n := ((μ.1 0 4).toInt + 1)) (TI.add TI.rf (TI.lit (by decide)) (by omega) (by omega))]); omega))
  have hF_μ5 : Fr [(0, 0, 28), (0, 0, 32), (0, 0, 4), (0, 0, 5), (1, 16, 0), (1, 17, 0), (1, 18, 0), (1, 19, 0), (1, 20, 0)] true μ μ5 := by rw [e_μ5]; exact Fr.put hF_μ (by decide +kernel)
  have v_μ5 : (μ5.1 0 4).toInt = ((μ.1 0 4).toInt + 1) := by rw [e_μ5, sF_v]; exact TI.e (n := ((μ.1 0 4).toInt + 1)) (TI.add TI.rf (TI.lit (by decide)) (by omega) (by omega))
  have hr_μ5 : μ5.2.2 = μ.2.2 := (by rw [e_μ5]; rfl : μ5.2.2 = μ.2.2).trans hr_μ
  have g8 := rgm_0_3 hI_μ5
  have f9 : (μ5.1 0 3).toInt = (μ.1 0 3).toInt := congrArg Int32.toInt ((by rw [e_μ5]; rfl : μ5.1 0 3 = μ.1 0 3))
  have g10 := rgm_0_4 hI_μ5
  refine ok_bd (k_X12_here  μ5 hI_μ5) ?_
  rintro r7 μ6 ⟨hq9, p_r7⟩
  obtain rfl : μ5 = μ6 := hq9
  dsimp only at p_r7
  have lo_r7 := ti_lo r7
  have hi_r7 := ti_hi r7
  try simp only [hr_μ5] at p_r7
  refine ok_ite ?_ ?_
  · intro c11
    rw [ti_eq] at c11
    have y12 := tf_isVarLetter r7
    refine ok_bd (k_X12_fails (μ5.1 0 4) μ5 hI_μ5) ?_
    rintro r14 μ13 ⟨hI_μ13, hC_μ13, p_μ13⟩
    have hI_μ13 : IM μ13 := hI_μ13
    have hC_μ13 : Fr [(0, 0, 5)] true μ5 μ13 := hC_μ13
    dsimp only at p_μ13
    have lo_r14 := ti_lo r14
    have hi_r14 := ti_hi r14
    have hF_μ13 : Fr [(0, 0, 28), (0, 0, 32), (0, 0, 4), (0, 0, 5), (1, 16, 0), (1, 17, 0), (1, 18, 0), (1, 19, 0), (1, 20, 0)] true μ μ13 := hF_μ5.trans (hC_μ13.mono (by decide +kernel) (by decide))
    have hr_μ13 : μ13.2.2 = μ.2.2 := (hC_μ13.2 rfl : μ13.2.2 = μ5.2.2).trans hr_μ5
    refine ok_gd (isB_of (by omega)) ?_
    have g15 := rgm_0_28 hI_μ13
    have f16 : (μ13.1 0 28).toInt = (μ.1 0 28).toInt := congrArg Int32.toInt ((hC_μ13.1 0 28 (by decide +kernel)).trans ((by rw [e_μ5]; rfl : μ5.1 0 28 = μ.1 0 28)))
    have g17 := rgm_0_4 hI_μ13
    have f18 : (μ13.1 0 4).toInt = (μ5.1 0 4).toInt := congrArg Int32.toInt (hC_μ13.1 0 4 (by decide +kernel))
    exact ok_some ⟨hI_μ13, hF_μ13, by (try dsimp only); (try rw [hr_μ13]); omega⟩
  · intro c11
    rw [ti_eq] at c11
    have y20 := tf_isVarLetter r7
    refine ok_bd (k_X12_here  μ5 hI_μ5) ?_
    rintro r22 μ21 ⟨hq9, p_r22⟩
    obtain rfl : μ5 = μ21 := hq9
    dsimp only at p_r22
    have lo_r22 := ti_lo r22
    have hi_r22 := ti_hi r22
    try simp only [hr_μ5] at p_r22
    refine ok_bv (fun v23 ev23 => ?_)
    first | have tv23 : v23.toInt = (r22.toInt - 109) := (congrArg Int32.toInt ev23).trans (TI.e (n := (r22.toInt - 109)) (TI.sub TI.rf (TI.lit (by decide)) (by omega) (by omega))) | skip
    have g26 := rgm_0_28 hI_μ5
    have f27 : (μ5.1 0 28).toInt = (μ.1 0 28).toInt := congrArg Int32.toInt ((by rw [e_μ5]; rfl : μ5.1 0 28 = μ.1 0 28))
    have g28 := rgm_0_32 hI_μ5
    have f29 : (μ5.1 0 32).toInt = (μ.1 0 32).toInt := congrArg Int32.toInt ((by rw [e_μ5]; rfl : μ5.1 0 32 = μ.1 0 32))
    refine ok_bd (k_X12_layOpen (11 : Int32) v23 (2 : Int32) μ5 hI_μ5 (by (try rw [hr_μ5]); omega)) ?_
    rintro r25 μ24 ⟨hI_μ24, hC_μ24, p_μ24⟩
    have hI_μ24 : IM μ24 := hI_μ24
    have hC_μ24 : Fr [(0, 0, 28), (0, 0, 32), (0, 0, 4), (1, 16, 0), (1, 17, 0), (1, 18, 0), (1, 19, 0), (1, 20, 0)] true μ5 μ24 := hC_μ24
    dsimp only at p_μ24
    have lo_r25 := ti_lo r25
    have hi_r25 := ti_hi r25
    have hF_μ24 : Fr [(0, 0, 28), (0, 0, 32), (0, 0, 4), (0, 0, 5), (1, 16, 0), (1, 17, 0), (1, 18, 0), (1, 19, 0), (1, 20, 0)] true μ μ24 := hF_μ5.trans (hC_μ24.mono (by decide +kernel) (by decide))
    have hr_μ24 : μ24.2.2 = μ.2.2 := (hC_μ24.2 rfl : μ24.2.2 = μ5.2.2).trans hr_μ5
    try simp only [hr_μ24, hr_μ5] at p_μ24
    have g30 := rgm_0_4 hI_μ24
    have g31 := rgm_0_28 hI_μ24
    have g32 := rgm_0_32 hI_μ24
    refine ok_ite ?_ ?_
    · intro c33
      rw [ti_eq] at c33
      exact ok_some ⟨hI_μ24, hF_μ24, by (try dsimp only); (try rw [hr_μ24]); omega⟩
    · intro c33
      rw [ti_eq] at c33
      have g36 := rgm_0_3 hI_μ24
      have f37 : (μ24.1 0 3).toInt = (μ5.1 0 3).toInt := congrArg Int32.toInt (hC_μ24.1 0 3 (by decide +kernel))
      refine ok_bd (k_X12_takes (61 : Int32) μ24 hI_μ24 (by (try rw [hr_μ24]); omega)) ?_
      rintro r35 μ34 ⟨hI_μ34, hC_μ34, p_μ34⟩
      have hI_μ34 : IM μ34 := hI_μ34
      have hC_μ34 : Fr [(0, 0, 4), (0, 0, 5)] true μ24 μ34 := hC_μ34
      dsimp only at p_μ34
      have lo_r35 := ti_lo r35
      have hi_r35 := ti_hi r35
      have hF_μ34 : Fr [(0, 0, 28), (0, 0, 32), (0, 0, 4), (0, 0, 5), (1, 16, 0), (1, 17, 0), (1, 18, 0), (1, 19, 0), (1, 20, 0)] true μ μ34 := hF_μ24.trans (hC_μ34.mono (by decide +kernel) (by decide))
      have hr_μ34 : μ34.2.2 = μ.2.2 := (hC_μ34.2 rfl : μ34.2.2 = μ24.2.2).trans hr_μ24
      try simp only [hr_μ34, hr_μ24] at p_μ34
      have g38 := rgm_0_4 hI_μ34
      refine ok_ite ?_ ?_
      · intro c39
        rw [ti_eq] at c39
        have g40 := rgm_0_28 hI_μ34
        have f41 : (μ34.1 0 28).toInt = (μ24.1 0 28).toInt := congrArg Int32.toInt (hC_μ34.1 0 28 (by decide +kernel))
        exact ok_some ⟨hI_μ34, hF_μ34, by (try dsimp only); (try rw [hr_μ34]); omega⟩
      · intro c39
        rw [ti_eq] at c39
        have g42 := rgm_0_28 hI_μ34
        have f43 : (μ34.1 0 28).toInt = (μ24.1 0 28).toInt := congrArg Int32.toInt (hC_μ34.1 0 28 (by decide +kernel))
        exact ok_some ⟨hI_μ34, hF_μ34, by (try dsimp only); (try rw [hr_μ34]); omega⟩

set_option maxHeartbeats 4000000 in
set_option maxRecDepth 100000 in
theorem k_X12_readCall_b30 (k0 : Int32) (μ : Mem) (hI_μ : IM μ) (hc : ((k0).toInt = 0 ∨ (k0).toInt = 1) ∧ 1 ≤ (μ.1 0 32).toInt ∧ (μ.1 0 28).toInt ≤ (μ.1 0 4).toInt) : ok (p_X12_readCall_b30 k0 μ) (fun q => IM q.2 ∧ Fr [(0, 0, 28), (0, 0, 32), (0, 0, 4), (0, 0, 5), (1, 16, 0), (1, 17, 0), (1, 18, 0), (1, 19, 0), (1, 20, 0)] true μ q.2 ∧ (((q.1).toInt = 0 ∨ (q.1).toInt = 1) ∧ ((q.1).toInt = 0 ∨ ((q.2.1 0 28).toInt ≤ (q.2.1 0 4).toInt ∧ (μ.1 0 4).toInt ≤ (q.2.1 0 4).toInt)))) := by
  have li0 : (0 : Int32).toInt = 0 := by decide
  have li1 : (1 : Int32).toInt = 1 := by decide
  have li41 : (41 : Int32).toInt = 41 := by decide
  have hF_μ : Fr [(0, 0, 28), (0, 0, 32), (0, 0, 4), (0, 0, 5), (1, 16, 0), (1, 17, 0), (1, 18, 0), (1, 19, 0), (1, 20, 0)] true μ μ := Fr.rf
  have hr_μ : μ.2.2 = μ.2.2 := rfl
  rw [p_X12_readCall_b30_eq]
  have lo_k0 := ti_lo k0
  have hi_k0 := ti_hi k0
  have g14 := rgm_0_4 hI_μ
  have g15 := rgm_0_32 hI_μ
  have g16 := rgm_0_28 hI_μ
  refine ok_ite ?_ ?_
  · intro c17
    rw [ti_eq] at c17
    refine ok_gd (isB_of (by omega)) ?_
    exact ok_some ⟨hI_μ, hF_μ, by (try dsimp only); omega⟩
  · intro c17
    rw [ti_eq] at c17
    have g21 := rgm_0_3 hI_μ
    refine ok_bd (k_X12_here  μ hI_μ) ?_
    rintro r20 μ19 ⟨hq9, p_r20⟩
    obtain rfl : μ = μ19 := hq9
    dsimp only at p_r20
    have lo_r20 := ti_lo r20
    have hi_r20 := ti_hi r20
    refine ok_ite ?_ ?_
    · intro c22
      rw [ti_eq] at c22
      refine ok_bv (fun μ23 e_μ23 => ?_)
      have hI_μ23 : IM μ23 := by rw [e_μ23]; exact IM_F hI_μ (rpm_0_4 (by (try rw [TI.e (e := ((μ.1 0 4) + (1 : Int32))) (n := ((μ.1 0 4).toInt + 1)) (TI.add TI.rf (TI.lit (by decide)) (by omega) (by omega))]); omega))
      have hF_μ23 : Fr [(0, 0, 28), (0, 0, 32), (0, 0, 4), (0, 0, 5), (1, 16, 0), (1, 17, 0), (1, 18, 0), (1, 19, 0), (1, 20, 0)] true μ μ23 := by rw [e_μ23]; exact Fr.put hF_μ (by decide +kernel)
      have v_μ23 : (μ23.1 0 4).toInt = ((μ.1 0 4).toInt + 1) := by rw [e_μ23, sF_v]; exact TI.e (n := ((μ.1 0 4).toInt + 1)) (TI.add TI.rf (TI.lit (by decide)) (by omega) (by omega))
      have hr_μ23 : μ23.2.2 = μ.2.2 := (by rw [e_μ23]; rfl : μ23.2.2 = μ.2.2).trans hr_μ
      have g24 := rgm_0_32 hI_μ23
      have f25 : (μ23.1 0 32).toInt = (μ.1 0 32).toInt := congrArg Int32.toInt ((by rw [e_μ23]; rfl : μ23.1 0 32 = μ.1 0 32))
      refine ok_bv (fun μ26 e_μ26 => ?_)
      have hI_μ26 : IM μ26 := by rw [e_μ26]; exact IM_F hI_μ23 (rpm_0_32 (by (try rw [TI.e (e := ((μ23.1 0 32) - (1 : Int32))) (n := ((μ23.1 0 32).toInt - 1)) (TI.sub TI.rf (TI.lit (by decide)) (by omega) (by omega))]); omega))
      have hF_μ26 : Fr [(0, 0, 28), (0, 0, 32), (0, 0, 4), (0, 0, 5), (1, 16, 0), (1, 17, 0), (1, 18, 0), (1, 19, 0), (1, 20, 0)] true μ μ26 := by rw [e_μ26]; exact Fr.put hF_μ23 (by decide +kernel)
      have v_μ26 : (μ26.1 0 32).toInt = ((μ23.1 0 32).toInt - 1) := by rw [e_μ26, sF_v]; exact TI.e (n := ((μ23.1 0 32).toInt - 1)) (TI.sub TI.rf (TI.lit (by decide)) (by omega) (by omega))
      have hr_μ26 : μ26.2.2 = μ.2.2 := (by rw [e_μ26]; rfl : μ26.2.2 = μ23.2.2).trans hr_μ23
      refine ok_gd (isB_of (by omega)) ?_
      have g27 := rgm_0_28 hI_μ26
      have f28 : (μ26.1 0 28).toInt = (μ.1 0 28).toInt := congrArg Int32.toInt (((by rw [e_μ26]; rfl : μ26.1 0 28 = μ23.1 0 28)).trans ((by rw [e_μ23]; rfl : μ23.1 0 28 = μ.1 0 28)))
      have g29 := rgm_0_4 hI_μ26
      have f30 : (μ26.1 0 4).toInt = (μ23.1 0 4).toInt := congrArg Int32.toInt ((by rw [e_μ26]; rfl : μ26.1 0 4 = μ23.1 0 4))
      exact ok_some ⟨hI_μ26, hF_μ26, by (try dsimp only); (try rw [hr_μ26]); omega⟩
    · intro c22
      rw [ti_eq] at c22
      refine ok_gd (isB_of (by omega)) ?_
      exact ok_some ⟨hI_μ, hF_μ, by (try dsimp only); omega⟩
set_option maxHeartbeats 4000000 in
set_option maxRecDepth 100000 in
theorem k_X12_readCall_b29  (μ : Mem) (hI_μ : IM μ) (hc : 1 ≤ (μ.1 0 32).toInt ∧ (μ.1 0 28).toInt ≤ (μ.1 0 4).toInt) : ok (p_X12_readCall_b29  μ) (fun q => IM q.2 ∧ Fr [(0, 0, 28), (0, 0, 32), (0, 0, 4), (0, 0, 5), (1, 16, 0), (1, 17, 0), (1, 18, 0), (1, 19, 0), (1, 20, 0)] true μ q.2 ∧ (((q.1).toInt = 0 ∨ (q.1).toInt = 1) ∧ ((q.1).toInt = 0 ∨ ((q.2.1 0 28).toInt ≤ (q.2.1 0 4).toInt ∧ (μ.1 0 4).toInt ≤ (q.2.1 0 4).toInt)))) := by
  have li0 : (0 : Int32).toInt = 0 := by decide
  have li1 : (1 : Int32).toInt = 1 := by decide
  have hF_μ : Fr [(0, 0, 28), (0, 0, 32), (0, 0, 4), (0, 0, 5), (1, 16, 0), (1, 17, 0), (1, 18, 0), (1, 19, 0), (1, 20, 0)] true μ μ := Fr.rf
  have hr_μ : μ.2.2 = μ.2.2 := rfl
  rw [p_X12_readCall_b29_eq]
  have g11 := rgm_0_4 hI_μ
  have g12 := rgm_0_32 hI_μ
  have g13 := rgm_0_28 hI_μ
  exact ok_mono (k_X12_readCall_b30  (0 : Int32) μ hI_μ (by omega)) (fun q h => ⟨h.1, hF_μ.trans h.2.1, by have h9 := h.2.2; (try dsimp only at h9 ⊢); omega⟩)
set_option maxHeartbeats 4000000 in
set_option maxRecDepth 100000 in
theorem k_X12_readCall (a1 : Int32) (μ : Mem) (hI_μ : IM μ) (hc : (μ.1 0 4).toInt < (μ.1 0 3).toInt ∧ (μ.1 0 28).toInt ≤ (μ.1 0 4).toInt ∧ (μ.1 0 32).toInt < 20 ∧ 97 ≤ (a1).toInt ∧ (a1).toInt ≤ 108) : ok (p_X12_readCall a1 μ) (fun q => IM q.2 ∧ Fr [(0, 0, 28), (0, 0, 32), (0, 0, 4), (0, 0, 5), (1, 16, 0), (1, 17, 0), (1, 18, 0), (1, 19, 0), (1, 20, 0)] true μ q.2 ∧ (((q.1).toInt = 0 ∨ (q.1).toInt = 1) ∧ ((q.1).toInt = 0 ∨ ((q.2.1 0 28).toInt ≤ (q.2.1 0 4).toInt ∧ (μ.1 0 4).toInt < (q.2.1 0 4).toInt)))) := by
  have li0 : (0 : Int32).toInt = 0 := by decide
  have li1 : (1 : Int32).toInt = 1 := by decide
  have li12 : (12 : Int32).toInt = 12 := by decide
  have li40 : (40 : Int32).toInt = 40 := by decide
  have li97 : (97 : Int32).toInt = 97 := by decide
  have hF_μ : Fr [(0, 0, 28), (0, 0, 32), (0, 0, 4), (0, 0, 5), (1, 16, 0), (1, 17, 0), (1, 18, 0), (1, 19, 0), (1, 20, 0)] true μ μ := Fr.rf
  have hr_μ : μ.2.2 = μ.2.2 := rfl
  rw [p_X12_readCall_eq]
  have lo_a1 := ti_lo a1
  have hi_a1 := ti_hi a1
  have g1 := rgm_0_4 hI_μ
  have g2 := rgm_0_3 hI_μ
  have g3 := rgm_0_28 hI_μ
  have g4 := rgm_0_32 hI_μ
  refine ok_bd (k_X12_layOpen (12 : Int32) ((a1 - (97 : Int32)) + (1 : Int32)) (0 : Int32) μ hI_μ (by (try rw [TI.e (e := ((a1 - (97 : Int32)) + (1 : Int32))) (n := ((a1.toInt - 97) + 1)) (TI.add (TI.sub TI.rf (TI.lit (by decide)) (by omega) (by omega)) (TI.lit (by decide)) (by omega) (by omega))]); omega)) ?_
  rintro r6 μ5 ⟨hI_μ5, hC_μ5, p_μ5⟩
  have hI_μ5 : IM μ5 := hI_μ5
  have hC_μ5 : Fr [(0, 0, 28), (0, 0, 32), (0, 0, 4), (1, 16, 0), (1, 17, 0), (1, 18, 0), (1, 19, 0), (1, 20, 0)] true μ μ5 := hC_μ5
  dsimp only at p_μ5
  have lo_r6 := ti_lo r6
  have hi_r6 := ti_hi r6
  have hF_μ5 : Fr [(0, 0, 28), (0, 0, 32), (0, 0, 4), (0, 0, 5), (1, 16, 0), (1, 17, 0), (1, 18, 0), (1, 19, 0), (1, 20, 0)] true μ μ5 := hF_μ.trans (hC_μ5.mono (by decide +kernel) (by decide))
  have hr_μ5 : μ5.2.2 = μ.2.2 := (hC_μ5.2 rfl : μ5.2.2 = μ.2.2).trans hr_μ
  try simp only [hr_μ5, hr_μ] at p_μ5
  have g7 := rgm_0_4 hI_μ5
  have g8 := rgm_0_28 hI_μ5
  have g9 := rgm_0_32 hI_μ5
  refine ok_ite ?_ ?_
  · intro c10
    rw [ti_eq] at c10
    exact ok_mono (k_X12_readCall_b29   μ5 hI_μ5 (by (try rw [hr_μ5]); omega)) (fun q h => ⟨h.1, hF_μ5.trans h.2.1, by have h9 := h.2.2; (try dsimp only at h9 ⊢); omega⟩)
  · intro c10
    rw [ti_eq] at c10
    have g35 := rgm_0_3 hI_μ5
    have f36 : (μ5.1 0 3).toInt = (μ.1 0 3).toInt := congrArg Int32.toInt (hC_μ5.1 0 3 (by decide +kernel))
    refine ok_bd (k_X12_takes (40 : Int32) μ5 hI_μ5 (by (try rw [hr_μ5]); omega)) ?_
    rintro r34 μ33 ⟨hI_μ33, hC_μ33, p_μ33⟩
    have hI_μ33 : IM μ33 := hI_μ33
    have hC_μ33 : Fr [(0, 0, 4), (0, 0, 5)] true μ5 μ33 := hC_μ33
    dsimp only at p_μ33
    have lo_r34 := ti_lo r34
    have hi_r34 := ti_hi r34
    have hF_μ33 : Fr [(0, 0, 28), (0, 0, 32), (0, 0, 4), (0, 0, 5), (1, 16, 0), (1, 17, 0), (1, 18, 0), (1, 19, 0), (1, 20, 0)] true μ μ33 := hF_μ5.trans (hC_μ33.mono (by decide +kernel) (by decide))
    have hr_μ33 : μ33.2.2 = μ.2.2 := (hC_μ33.2 rfl : μ33.2.2 = μ5.2.2).trans hr_μ5
    try simp only [hr_μ33, hr_μ5] at p_μ33
    have g37 := rgm_0_4 hI_μ33
    refine ok_ite ?_ ?_
    · intro c38
      rw [ti_eq] at c38
      have g39 := rgm_0_32 hI_μ33
      have f40 : (μ33.1 0 32).toInt = (μ5.1 0 32).toInt := congrArg Int32.toInt (hC_μ33.1 0 32 (by decide +kernel))
      have g41 := rgm_0_28 hI_μ33
      have f42 : (μ33.1 0 28).toInt = (μ5.1 0 28).toInt := congrArg Int32.toInt (hC_μ33.1 0 28 (by decide +kernel))
      exact ok_mono (k_X12_readCall_b29   μ33 hI_μ33 (by (try rw [hr_μ33]); omega)) (fun q h => ⟨h.1, hF_μ33.trans h.2.1, by have h9 := h.2.2; (try dsimp only at h9 ⊢); omega⟩)
    · intro c38
      rw [ti_eq] at c38
      have g43 := rgm_0_32 hI_μ33
      have f44 : (μ33.1 0 32).toInt = (μ5.1 0 32).toInt := congrArg Int32.toInt (hC_μ33.1 0 32 (by decide +kernel))
      have g45 := rgm_0_28 hI_μ33
      have f46 : (μ33.1 0 28).toInt = (μ5.1 0 28).toInt := congrArg Int32.toInt (hC_μ33.1 0 28 (by decide +kernel))
      exact ok_mono (k_X12_readCall_b30  (1 : Int32) μ33 hI_μ33 (by (try rw [hr_μ33]); omega)) (fun q h => ⟨h.1, hF_μ33.trans h.2.1, by have h9 := h.2.2; (try dsimp only at h9 ⊢); omega⟩)
