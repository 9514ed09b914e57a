set_option maxHeartbeats 4000000 in
set_option maxRecDepth 100000 in
theorem k_X10_endElse  (μ : Mem) (hI_μ : IX μ) : ok (p_X10_endElse  μ) (fun q => IX q ∧ Fr [(0, 30, 7), (0, 39, 1), (0, 137, 6), (0, 137, 8), (0, 137, 12), (0, 137, 13), (1, 40, 0), (1, 42, 0), (1, 43, 0), (1, 45, 0)] true μ q) := by
  have lim1 : (-1 : Int32).toInt = -1 := by decide
  have li0 : (0 : Int32).toInt = 0 := by decide
  have li1 : (1 : Int32).toInt = 1 := by decide
  have li2 : (2 : Int32).toInt = 2 := by decide
  have li3 : (3 : Int32).toInt = 3 := by decide
  have li4 : (4 : Int32).toInt = 4 := by decide
  have li6 : (6 : Int32).toInt = 6 := by decide
  have hF_μ : Fr [(0, 30, 7), (0, 39, 1), (0, 137, 6), (0, 137, 8), (0, 137, 12), (0, 137, 13), (1, 40, 0), (1, 42, 0), (1, 43, 0), (1, 45, 0)] true μ μ := Fr.rf
  have hr_μ : μ.2.2 = μ.2.2 := rfl
  rw [p_X10_endElse_eq]
  refine ok_bd (k_X10_branch (1 : Int32) μ hI_μ (by omega)) ?_
  rintro r2 μ1 hq9
  obtain rfl : μ = μ1 := hq9
  have lo_r2 := ti_lo r2
  have hi_r2 := ti_hi r2
  refine ok_bd (k_X10_branch (2 : Int32) μ hI_μ (by omega)) ?_
  rintro r4 μ3 hq9
  obtain rfl : μ = μ3 := hq9
  have lo_r4 := ti_lo r4
  have hi_r4 := ti_hi r4
  refine ok_ite ?_ ?_
  · intro c5
    rw [ti_eq] at c5
    refine ok_bw (k_X10_closeBranch  μ hI_μ) ?_
    rintro μ6 ⟨hI_μ6, hC_μ6⟩
    have hF_μ6 : Fr [(0, 30, 7), (0, 39, 1), (0, 137, 6), (0, 137, 8), (0, 137, 12), (0, 137, 13), (1, 40, 0), (1, 42, 0), (1, 43, 0), (1, 45, 0)] true μ μ6 := hF_μ.trans (hC_μ6.mono (by decide +kernel) (by decide))
    have hr_μ6 : μ6.2.2 = μ.2.2 := (hC_μ6.2 rfl : μ6.2.2 = μ.2.2).trans hr_μ
    try rw [hr_μ6]
    exact ok_some ⟨hI_μ6, hF_μ6⟩
  · intro c5
    rw [ti_eq] at c5
    have g8 := rg_137_12 hI_μ
    refine ok_ite ?_ ?_
    · intro c9
      rw [ti_le] at c9
      have g10 := ti_lo (μ.1 137 8)
      have g10h := ti_hi (μ.1 137 8)
      refine ok_bd (k_X8_pop  μ hI_μ) ?_
      rintro r12 μ11 ⟨hI_μ11, hC_μ11⟩
      have hI_μ11 : IX μ11 := hI_μ11
      have hC_μ11 : Fr [(0, 30, 7)] true μ μ11 := hC_μ11
      have hF_μ11 : Fr [(0, 30, 7), (0, 39, 1), (0, 137, 6), (0, 137, 8), (0, 137, 12), (0, 137, 13), (1, 40, 0), (1, 42, 0), (1, 43, 0), (1, 45, 0)] true μ μ11 := hF_μ.trans (hC_μ11.mono (by decide +kernel) (by decide))
      have hr_μ11 : μ11.2.2 = μ.2.2 := (hC_μ11.2 rfl : μ11.2.2 = μ.2.2).trans hr_μ
      try rw [hr_μ11]
      refine ok_bd (kr_X10_lift 50 r12 (0 : Int32) μ11 hI_μ11 (by (try rw [hr_μ11]); omega)) ?_
      rintro r14 μ13 ⟨hI_μ13, hC_μ13⟩
      have hI_μ13 : IX μ13 := hI_μ13
      have hC_μ13 : Fr [(0, 39, 1), (0, 137, 6), (1, 40, 0), (1, 42, 0), (1, 43, 0), (1, 45, 0)] true μ11 μ13 := hC_μ13
      have hF_μ13 : Fr [(0, 30, 7), (0, 39, 1), (0, 137, 6), (0, 137, 8), (0, 137, 12), (0, 137, 13), (1, 40, 0), (1, 42, 0), (1, 43, 0), (1, 45, 0)] true μ μ13 := hF_μ11.trans (hC_μ13.mono (by decide +kernel) (by decide))
      have hr_μ13 : μ13.2.2 = μ.2.2 := (hC_μ13.2 rfl : μ13.2.2 = μ11.2.2).trans hr_μ11
      try rw [hr_μ13]
      refine ok_bw (k_X5_endBlock (μ.1 137 8) r14 μ13 hI_μ13) ?_
      rintro μ15 ⟨hI_μ15, hC_μ15⟩
      have hF_μ15 : Fr [(0, 30, 7), (0, 39, 1), (0, 137, 6), (0, 137, 8), (0, 137, 12), (0, 137, 13), (1, 40, 0), (1, 42, 0), (1, 43, 0), (1, 45, 0)] true μ μ15 := hF_μ13.trans (hC_μ15.mono (by decide +kernel) (by decide))
      have hr_μ15 : μ15.2.2 = μ.2.2 := (hC_μ15.2 rfl : μ15.2.2 = μ13.2.2).trans hr_μ13
      try rw [hr_μ15]
      refine ok_bd (k_X10_branch (0 : Int32) μ15 hI_μ15 (by (try rw [hr_μ15]); omega)) ?_
      rintro r18 μ17 hq9
      obtain rfl : μ15 = μ17 := hq9
      have lo_r18 := ti_lo r18
      have hi_r18 := ti_hi r18
      try rw [hr_μ15]
      refine ok_bv (fun μ19 e_μ19 => ?_)
      have hI_μ19 : IX μ19 := by rw [e_μ19]; exact IX_F hI_μ15 (rt_137_8 _)
      have hF_μ19 : Fr [(0, 30, 7), (0, 39, 1), (0, 137, 6), (0, 137, 8), (0, 137, 12), (0, 137, 13), (1, 40, 0), (1, 42, 0), (1, 43, 0), (1, 45, 0)] true μ μ19 := by rw [e_μ19]; exact Fr.put hF_μ15 (by decide +kernel)
      have v_μ19 : (μ19.1 137 8).toInt = r18.toInt := by rw [e_μ19, sF_v]
      have hr_μ19 : μ19.2.2 = μ.2.2 := (by rw [e_μ19]; rfl : μ19.2.2 = μ15.2.2).trans hr_μ15
      try rw [hr_μ19]
      have g20 := rg_137_12 hI_μ19
      have f21 : (μ19.1 137 12).toInt = (μ.1 137 12).toInt := congrArg Int32.toInt (((by rw [e_μ19]; rfl : μ19.1 137 12 = μ15.1 137 12)).trans ((hC_μ15.1 137 12 (by decide +kernel)).trans ((hC_μ13.1 137 12 (by decide +kernel)).trans (hC_μ11.1 137 12 (by decide +kernel)))))
      refine ok_gd (inb_iff.mpr (by (try rw [TI.e (e := ((μ19.1 137 12) - (1 : Int32))) (n := ((μ19.1 137 12).toInt - 1)) (TI.sub TI.rf (TI.lit (by decide)) (by omega) (by omega))]); omega)) ?_
      refine ok_bd (k_X10_leave (6 : Int32) (0 : Int32) (μ19.2.1 139 ((μ19.1 137 12) - (1 : Int32)).toNatClampNeg) (0 : Int64) μ19 hI_μ19) ?_
      rintro r23 μ22 ⟨hI_μ22, hC_μ22⟩
      have hI_μ22 : IX μ22 := hI_μ22
      have hC_μ22 : Fr [(0, 39, 1), (0, 137, 6), (1, 40, 0), (1, 42, 0), (1, 43, 0), (1, 45, 0)] true μ19 μ22 := hC_μ22
      have hF_μ22 : Fr [(0, 30, 7), (0, 39, 1), (0, 137, 6), (0, 137, 8), (0, 137, 12), (0, 137, 13), (1, 40, 0), (1, 42, 0), (1, 43, 0), (1, 45, 0)] true μ μ22 := hF_μ19.trans (hC_μ22.mono (by decide +kernel) (by decide))
      have hr_μ22 : μ22.2.2 = μ.2.2 := (hC_μ22.2 rfl : μ22.2.2 = μ19.2.2).trans hr_μ19
      try rw [hr_μ22]
      refine ok_bw (k_X10_closeBranch  μ22 hI_μ22) ?_
      rintro μ24 ⟨hI_μ24, hC_μ24⟩
      have hF_μ24 : Fr [(0, 30, 7), (0, 39, 1), (0, 137, 6), (0, 137, 8), (0, 137, 12), (0, 137, 13), (1, 40, 0), (1, 42, 0), (1, 43, 0), (1, 45, 0)] true μ μ24 := hF_μ22.trans (hC_μ24.mono (by decide +kernel) (by decide))
      have hr_μ24 : μ24.2.2 = μ.2.2 := (hC_μ24.2 rfl : μ24.2.2 = μ22.2.2).trans hr_μ22
      try rw [hr_μ24]
      have g26 := ti_lo (μ24.1 137 13)
      have g26h := ti_hi (μ24.1 137 13)
      refine ok_bv (fun μ27 e_μ27 => ?_)
      have hI_μ27 : IX μ27 := by rw [e_μ27]; exact IX_F hI_μ24 (rt_137_13 _)
      have hF_μ27 : Fr [(0, 30, 7), (0, 39, 1), (0, 137, 6), (0, 137, 8), (0, 137, 12), (0, 137, 13), (1, 40, 0), (1, 42, 0), (1, 43, 0), (1, 45, 0)] true μ μ27 := by rw [e_μ27]; exact Fr.put hF_μ24 (by decide +kernel)
      have hr_μ27 : μ27.2.2 = μ.2.2 := (by rw [e_μ27]; rfl : μ27.2.2 = μ24.2.2).trans hr_μ24
      try rw [hr_μ27]
      have g28 := ti_lo (μ27.1 137 6)
      have g28h := ti_hi (μ27.1 137 6)
      refine ok_ite ?_ ?_
      · intro c29
        rw [ti_eq] at c29
        have g30 := rg_39_1 hI_μ27
        refine ok_bw (k_X5_setCell ((μ27.1 39 1) - (1 : Int32)) (3 : Int32) r2 μ27 hI_μ27 (by (try rw [hr_μ27]); (try rw [TI.e (e := ((μ27.1 39 1) - (1 : Int32))) (n := ((μ27.1 39 1).toInt - 1)) (TI.sub TI.rf (TI.lit (by decide)) (by omega) (by omega))]); omega)) ?_
        rintro μ31 ⟨hI_μ31, hC_μ31⟩
        have hF_μ31 : Fr [(0, 30, 7), (0, 39, 1), (0, 137, 6), (0, 137, 8), (0, 137, 12), (0, 137, 13), (1, 40, 0), (1, 42, 0), (1, 43, 0), (1, 45, 0)] true μ μ31 := hF_μ27.trans (hC_μ31.mono (by decide +kernel) (by decide))
        have hr_μ31 : μ31.2.2 = μ.2.2 := (hC_μ31.2 rfl : μ31.2.2 = μ27.2.2).trans hr_μ27
        try rw [hr_μ31]
        have g33 := rg_39_1 hI_μ31
        have f34 : (μ31.1 39 1).toInt = (μ27.1 39 1).toInt := congrArg Int32.toInt (hC_μ31.1 39 1 (by decide +kernel))
        refine ok_bw (k_X5_setCell ((μ31.1 39 1) - (1 : Int32)) (4 : Int32) r4 μ31 hI_μ31 (by (try rw [hr_μ31]); (try rw [TI.e (e := ((μ31.1 39 1) - (1 : Int32))) (n := ((μ31.1 39 1).toInt - 1)) (TI.sub TI.rf (TI.lit (by decide)) (by omega) (by omega))]); omega)) ?_
        rintro μ35 ⟨hI_μ35, hC_μ35⟩
        have hF_μ35 : Fr [(0, 30, 7), (0, 39, 1), (0, 137, 6), (0, 137, 8), (0, 137, 12), (0, 137, 13), (1, 40, 0), (1, 42, 0), (1, 43, 0), (1, 45, 0)] true μ μ35 := hF_μ31.trans (hC_μ35.mono (by decide +kernel) (by decide))
        have hr_μ35 : μ35.2.2 = μ.2.2 := (hC_μ35.2 rfl : μ35.2.2 = μ31.2.2).trans hr_μ31
        try rw [hr_μ35]
        refine ok_bd (k_X5_endOf r2 μ35 hI_μ35) ?_
        rintro r38 μ37 hq9
        obtain rfl : μ35 = μ37 := hq9
        try rw [hr_μ35]
        refine ok_ite ?_ ?_
        · intro c39
          rw [ti_eq] at c39
          refine ok_bw (k_X8_push r23 μ35 hI_μ35) ?_
          rintro μ40 ⟨hI_μ40, hC_μ40⟩
          have hF_μ40 : Fr [(0, 30, 7), (0, 39, 1), (0, 137, 6), (0, 137, 8), (0, 137, 12), (0, 137, 13), (1, 40, 0), (1, 42, 0), (1, 43, 0), (1, 45, 0)] true μ μ40 := hF_μ35.trans (hC_μ40.mono (by decide +kernel) (by decide))
          have hr_μ40 : μ40.2.2 = μ.2.2 := (hC_μ40.2 rfl : μ40.2.2 = μ35.2.2).trans hr_μ35
          try rw [hr_μ40]
          exact ok_some ⟨hI_μ40, hF_μ40⟩
        · intro c39
          rw [ti_eq] at c39
          refine ok_bd (k_X5_endOf r4 μ35 hI_μ35) ?_
          rintro r43 μ42 hq9
          obtain rfl : μ35 = μ42 := hq9
          try rw [hr_μ35]
          refine ok_ite ?_ ?_
          · intro c44
            rw [ti_eq] at c44
            refine ok_bw (k_X8_push r38 μ35 hI_μ35) ?_
            rintro μ45 ⟨hI_μ45, hC_μ45⟩
            have hF_μ45 : Fr [(0, 30, 7), (0, 39, 1), (0, 137, 6), (0, 137, 8), (0, 137, 12), (0, 137, 13), (1, 40, 0), (1, 42, 0), (1, 43, 0), (1, 45, 0)] true μ μ45 := hF_μ35.trans (hC_μ45.mono (by decide +kernel) (by decide))
            have hr_μ45 : μ45.2.2 = μ.2.2 := (hC_μ45.2 rfl : μ45.2.2 = μ35.2.2).trans hr_μ35
            try rw [hr_μ45]
            exact ok_some ⟨hI_μ45, hF_μ45⟩
          · intro c44
            rw [ti_eq] at c44
            refine ok_bw (k_X8_push r23 μ35 hI_μ35) ?_
            rintro μ47 ⟨hI_μ47, hC_μ47⟩
            have hF_μ47 : Fr [(0, 30, 7), (0, 39, 1), (0, 137, 6), (0, 137, 8), (0, 137, 12), (0, 137, 13), (1, 40, 0), (1, 42, 0), (1, 43, 0), (1, 45, 0)] true μ μ47 := hF_μ35.trans (hC_μ47.mono (by decide +kernel) (by decide))
            have hr_μ47 : μ47.2.2 = μ.2.2 := (hC_μ47.2 rfl : μ47.2.2 = μ35.2.2).trans hr_μ35
            try rw [hr_μ47]
            exact ok_some ⟨hI_μ47, hF_μ47⟩
      · intro c29
        rw [ti_eq] at c29
        exact ok_some ⟨hI_μ27, hF_μ27⟩
    · intro c9
      rw [ti_le] at c9
      refine ok_bw (k_X10_closeBranch  μ hI_μ) ?_
      rintro μ49 ⟨hI_μ49, hC_μ49⟩
      have hF_μ49 : Fr [(0, 30, 7), (0, 39, 1), (0, 137, 6), (0, 137, 8), (0, 137, 12), (0, 137, 13), (1, 40, 0), (1, 42, 0), (1, 43, 0), (1, 45, 0)] true μ μ49 := hF_μ.trans (hC_μ49.mono (by decide +kernel) (by decide))
      have hr_μ49 : μ49.2.2 = μ.2.2 := (hC_μ49.2 rfl : μ49.2.2 = μ.2.2).trans hr_μ
      try rw [hr_μ49]
      exact ok_some ⟨hI_μ49, hF_μ49⟩

set_option maxHeartbeats 4000000 in
set_option maxRecDepth 100000 in
theorem k_X8_fromTop (a1 : Int32) (μ : Mem) (hI_μ : IX μ) : ok (p_X8_fromTop a1 μ) (fun q => μ = q.2) := by
  have li0 : (0 : Int32).toInt = 0 := by decide
  have li1 : (1 : Int32).toInt = 1 := by decide
  have hF_μ : Fr [] true μ μ := Fr.rf
  have hr_μ : μ.2.2 = μ.2.2 := rfl
  rw [p_X8_fromTop_eq]
  have lo_a1 := ti_lo a1
  have hi_a1 := ti_hi a1
  have g1 := rg_30_7 hI_μ
  refine ok_bv (fun v2 ev2 => ?_)
  first | have tv2 : v2.toInt = (((μ.1 30 7).toInt - 1) - a1.toInt) := (congrArg Int32.toInt ev2).trans (TI.e (n := (((μ.1 30 7).toInt - 1) - a1.toInt)) (TI.sub (TI.sub TI.rf (TI.lit (by decide)) (by omega) (by omega)) TI.rf (by omega) (by omega))) | skip
  refine ok_ite ?_ ?_
  · intro c3
    rw [ti_lt] at c3
    exact ok_some rfl
  · intro c3
    rw [ti_lt] at c3
    refine ok_ite ?_ ?_
    · intro c4
      rw [ti_le] at c4
      exact ok_some rfl
    · intro c4
      rw [ti_le] at c4
      refine ok_gd (inb_iff.mpr (by omega)) ?_
      exact ok_some rfl

set_option maxHeartbeats 4000000 in
set_option maxRecDepth 100000 in
theorem k_X10_putAt (a1 : Int32) (μ : Mem) (hI_μ : IX μ) : ok (p_X10_putAt a1 μ) (fun q => IX q ∧ Fr [(0, 30, 7), (0, 39, 1), (0, 137, 6), (1, 40, 0), (1, 42, 0), (1, 43, 0), (1, 45, 0)] true μ q) := by
  have li0 : (0 : Int32).toInt = 0 := by decide
  have li1 : (1 : Int32).toInt = 1 := by decide
  have li8 : (8 : Int32).toInt = 8 := by decide
  have hF_μ : Fr [(0, 30, 7), (0, 39, 1), (0, 137, 6), (1, 40, 0), (1, 42, 0), (1, 43, 0), (1, 45, 0)] true μ μ := Fr.rf
  have hr_μ : μ.2.2 = μ.2.2 := rfl
  rw [p_X10_putAt_eq]
  have lo_a1 := ti_lo a1
  have hi_a1 := ti_hi a1
  refine ok_bd (k_X8_popNum  μ hI_μ) ?_
  rintro r2 μ1 ⟨hI_μ1, hC_μ1⟩
  have hI_μ1 : IX μ1 := hI_μ1
  have hC_μ1 : Fr [(0, 30, 7)] true μ μ1 := hC_μ1
  have hF_μ1 : Fr [(0, 30, 7), (0, 39, 1), (0, 137, 6), (1, 40, 0), (1, 42, 0), (1, 43, 0), (1, 45, 0)] true μ μ1 := hF_μ.trans (hC_μ1.mono (by decide +kernel) (by decide))
  have hr_μ1 : μ1.2.2 = μ.2.2 := (hC_μ1.2 rfl : μ1.2.2 = μ.2.2).trans hr_μ
  try rw [hr_μ1]
  refine ok_bd (k_X10_leave (8 : Int32) a1 r2 (0 : Int64) μ1 hI_μ1) ?_
  rintro r4 μ3 ⟨hI_μ3, hC_μ3⟩
  have hI_μ3 : IX μ3 := hI_μ3
  have hC_μ3 : Fr [(0, 39, 1), (0, 137, 6), (1, 40, 0), (1, 42, 0), (1, 43, 0), (1, 45, 0)] true μ1 μ3 := hC_μ3
  have hF_μ3 : Fr [(0, 30, 7), (0, 39, 1), (0, 137, 6), (1, 40, 0), (1, 42, 0), (1, 43, 0), (1, 45, 0)] true μ μ3 := hF_μ1.trans (hC_μ3.mono (by decide +kernel) (by decide))
  have hr_μ3 : μ3.2.2 = μ.2.2 := (hC_μ3.2 rfl : μ3.2.2 = μ1.2.2).trans hr_μ1
  try rw [hr_μ3]
  refine ok_ite ?_ ?_
  · intro c5
    rw [ti_eq] at c5
    refine ok_bw (k_X8_push r4 μ3 hI_μ3) ?_
    rintro μ6 ⟨hI_μ6, hC_μ6⟩
    have hF_μ6 : Fr [(0, 30, 7), (0, 39, 1), (0, 137, 6), (1, 40, 0), (1, 42, 0), (1, 43, 0), (1, 45, 0)] true μ μ6 := hF_μ3.trans (hC_μ6.mono (by decide +kernel) (by decide))
    have hr_μ6 : μ6.2.2 = μ.2.2 := (hC_μ6.2 rfl : μ6.2.2 = μ3.2.2).trans hr_μ3
    try rw [hr_μ6]
    exact ok_some ⟨hI_μ6, hF_μ6⟩
  · intro c5
    rw [ti_eq] at c5
    refine ok_bw (k_X8_push (s_X0_stored a1 r2) μ3 hI_μ3) ?_
    rintro μ8 ⟨hI_μ8, hC_μ8⟩
    have hF_μ8 : Fr [(0, 30, 7), (0, 39, 1), (0, 137, 6), (1, 40, 0), (1, 42, 0), (1, 43, 0), (1, 45, 0)] true μ μ8 := hF_μ3.trans (hC_μ8.mono (by decide +kernel) (by decide))
    have hr_μ8 : μ8.2.2 = μ.2.2 := (hC_μ8.2 rfl : μ8.2.2 = μ3.2.2).trans hr_μ3
    try rw [hr_μ8]
    exact ok_some ⟨hI_μ8, hF_μ8⟩

set_option maxHeartbeats 4000000 in
set_option maxRecDepth 100000 in
theorem k_X8_drop (a1 : Int32) (μ : Mem) (hI_μ : IX μ) (hc : 0 ≤ (a1).toInt ∧ (a1).toInt ≤ 5) : ok (p_X8_drop a1 μ) (fun q => IX q ∧ Fr [(0, 30, 7)] true μ q) := by
  have li0 : (0 : Int32).toInt = 0 := by decide
  have li1 : (1 : Int32).toInt = 1 := by decide
  have hF_μ : Fr [(0, 30, 7)] true μ μ := Fr.rf
  have hr_μ : μ.2.2 = μ.2.2 := rfl
  rw [p_X8_drop_eq]
  have lo_a1 := ti_lo a1
  have hi_a1 := ti_hi a1
  have g1 := rg_30_7 hI_μ
  refine ok_bv (fun μ2 e_μ2 => ?_)
  have hI_μ2 : IX μ2 := by rw [e_μ2]; exact IX_F hI_μ (rp_30_7 (by (try rw [TI.e (e := (imax (0 : Int32) ((μ.1 30 7) - a1))) (n := (max 0 ((μ.1 30 7).toInt - a1.toInt))) (TI.max (TI.lit (by decide)) (TI.sub TI.rf TI.rf (by omega) (by omega)))]); omega))
  have hF_μ2 : Fr [(0, 30, 7)] true μ μ2 := by rw [e_μ2]; exact Fr.put hF_μ (by decide +kernel)
  have v_μ2 : (μ2.1 30 7).toInt = (max 0 ((μ.1 30 7).toInt - a1.toInt)) := by rw [e_μ2, sF_v]; exact TI.e (n := (max 0 ((μ.1 30 7).toInt - a1.toInt))) (TI.max (TI.lit (by decide)) (TI.sub TI.rf TI.rf (by omega) (by omega)))
  have hr_μ2 : μ2.2.2 = μ.2.2 := (by rw [e_μ2]; rfl : μ2.2.2 = μ.2.2).trans hr_μ
  exact ok_some ⟨hI_μ2, hF_μ2⟩

set_option maxHeartbeats 4000000 in
set_option maxRecDepth 100000 in
theorem k_X8_bindArguments_b4 : ∀ (n : Nat) (a2 : Int32) (μ : Mem), IX μ → ((0 : Int) ≤ 0 ∧ (a2).toInt + 2147483649 < n) → ok (p_X8_bindArguments_b4 n a2 μ) (fun q => IX q ∧ Fr [(0, 30, 7)] true μ q) := by
  have lim1 : (-1 : Int32).toInt = -1 := by decide
  have li0 : (0 : Int32).toInt = 0 := by decide
  have li1 : (1 : Int32).toInt = 1 := by decide
  intro n
  induction n with
  | zero => intro a2 μ hI_μ hc; exact absurd hc (by have lo_a2 := ti_lo a2; have hi_a2 := ti_hi a2; omega)
  | succ n ih =>
    intro a2 μ hI_μ hc
    have hF_μ : Fr [(0, 30, 7)] true μ μ := Fr.rf
    have hr_μ : μ.2.2 = μ.2.2 := rfl
    rw [p_X8_bindArguments_b4_s]
    have lo_a2 := ti_lo a2
    have hi_a2 := ti_hi a2
    refine ok_ite ?_ ?_
    · intro c2
      rw [ti_lt] at c2
      exact ok_some ⟨hI_μ, hF_μ⟩
    · intro c2
      rw [ti_lt] at c2
      refine ok_bd (k_X8_pop  μ hI_μ) ?_
      rintro r4 μ3 ⟨hI_μ3, hC_μ3⟩
      have hI_μ3 : IX μ3 := hI_μ3
      have hC_μ3 : Fr [(0, 30, 7)] true μ μ3 := hC_μ3
      have hF_μ3 : Fr [(0, 30, 7)] true μ μ3 := hF_μ.trans (hC_μ3.mono (by decide +kernel) (by decide))
      have hr_μ3 : μ3.2.2 = μ.2.2 := (hC_μ3.2 rfl : μ3.2.2 = μ.2.2).trans hr_μ
      refine ok_bw (k_X8_setVar a2 r4 μ3 hI_μ3) ?_
      rintro μ5 ⟨hI_μ5, hC_μ5⟩
      have hF_μ5 : Fr [(0, 30, 7)] true μ μ5 := hF_μ3.trans (hC_μ5.mono (by decide +kernel) (by decide))
      have hr_μ5 : μ5.2.2 = μ.2.2 := (hC_μ5.2 rfl : μ5.2.2 = μ3.2.2).trans hr_μ3
      refine ok_bv (fun v7 ev7 => ?_)
      first | have tv7 : v7.toInt = (a2.toInt + (-1)) := (congrArg Int32.toInt ev7).trans (TI.e (n := (a2.toInt + (-1))) (TI.add TI.rf (TI.lit (by decide)) (by omega) (by omega))) | skip
      exact ok_mono (ih v7 μ5 hI_μ5 (by (try rw [hr_μ5]); omega)) (fun q h => ⟨h.1, hF_μ5.trans h.2⟩)
set_option maxHeartbeats 4000000 in
set_option maxRecDepth 100000 in
theorem k_X8_bindArguments (a1 : Int32) (μ : Mem) (hI_μ : IX μ) (hc : 0 ≤ (a1).toInt ∧ (a1).toInt ≤ 5) : ok (p_X8_bindArguments a1 μ) (fun q => IX q ∧ Fr [(0, 30, 7)] true μ q) := by
  have li0 : (0 : Int32).toInt = 0 := by decide
  have li1 : (1 : Int32).toInt = 1 := by decide
  have hF_μ : Fr [(0, 30, 7)] true μ μ := Fr.rf
  have hr_μ : μ.2.2 = μ.2.2 := rfl
  rw [p_X8_bindArguments_eq]
  have lo_a1 := ti_lo a1
  have hi_a1 := ti_hi a1
  refine ok_bv (fun v1 ev1 => ?_)
  first | have tv1 : v1.toInt = (a1.toInt - 1) := (congrArg Int32.toInt ev1).trans (TI.e (n := (a1.toInt - 1)) (TI.sub TI.rf (TI.lit (by decide)) (by omega) (by omega))) | skip
  obtain ⟨fu, hfu0, hfu⟩ := fuel_ex
  rw [hfu0]
  exact ok_mono (k_X8_bindArguments_b4  fu v1 μ hI_μ (by omega)) (fun q h => ⟨h.1, hF_μ.trans h.2⟩)

set_option maxHeartbeats 4000000 in
set_option maxRecDepth 100000 in
theorem k_X8_openFrame (a1 : Int32) (a2 : Int32) (μ : Mem) (hI_μ : IX μ) (hc : 0 ≤ (a1).toInt ∧ (a1).toInt ≤ 5) : ok (p_X8_openFrame a1 a2 μ) (fun q => IX q ∧ Fr [(0, 30, 7), (0, 30, 10), (1, 38, 0)] true μ q) := by
  have li0 : (0 : Int32).toInt = 0 := by decide
  have li1 : (1 : Int32).toInt = 1 := by decide
  have li31 : (31 : Int32).toInt = 31 := by decide
  have hF_μ : Fr [(0, 30, 7), (0, 30, 10), (1, 38, 0)] true μ μ := Fr.rf
  have hr_μ : μ.2.2 = μ.2.2 := rfl
  rw [p_X8_openFrame_eq]
  have lo_a1 := ti_lo a1
  have hi_a1 := ti_hi a1
  have lo_a2 := ti_lo a2
  have hi_a2 := ti_hi a2
  have g1 := rg_30_10 hI_μ
  refine ok_ite ?_ ?_
  · intro c2
    rw [ti_lt] at c2
    try rw [TI.e (e := ((μ.1 30 10) + (1 : Int32))) (n := ((μ.1 30 10).toInt + 1)) (TI.add TI.rf (TI.lit (by decide)) (by omega) (by omega))] at c2
    refine ok_bv (fun μ3 e_μ3 => ?_)
    have hI_μ3 : IX μ3 := by rw [e_μ3]; exact IX_F hI_μ (rp_30_10 (by (try rw [TI.e (e := ((μ.1 30 10) + (1 : Int32))) (n := ((μ.1 30 10).toInt + 1)) (TI.add TI.rf (TI.lit (by decide)) (by omega) (by omega))]); omega))
    have hF_μ3 : Fr [(0, 30, 7), (0, 30, 10), (1, 38, 0)] true μ μ3 := by rw [e_μ3]; exact Fr.put hF_μ (by decide +kernel)
    have v_μ3 : (μ3.1 30 10).toInt = ((μ.1 30 10).toInt + 1) := by rw [e_μ3, sF_v]; exact TI.e (n := ((μ.1 30 10).toInt + 1)) (TI.add TI.rf (TI.lit (by decide)) (by omega) (by omega))
    have hr_μ3 : μ3.2.2 = μ.2.2 := (by rw [e_μ3]; rfl : μ3.2.2 = μ.2.2).trans hr_μ
    have g4 := rg_30_10 hI_μ3
    refine ok_gd (inb_iff.mpr (by omega)) ?_
    refine ok_bv (fun μ5 e_μ5 => ?_)
    have hI_μ5 : IX μ5 := by rw [e_μ5]; exact IX_F hI_μ3 (rta_38 _ _)
    have hF_μ5 : Fr [(0, 30, 7), (0, 30, 10), (1, 38, 0)] true μ μ5 := by rw [e_μ5]; exact Fr.puta hF_μ3 (by decide +kernel)
    have hr_μ5 : μ5.2.2 = μ.2.2 := (by rw [e_μ5]; rfl : μ5.2.2 = μ3.2.2).trans hr_μ3
    refine ok_bw (k_X8_bindArguments a1 μ5 hI_μ5 (by (try rw [hr_μ5]); omega)) ?_
    rintro μ6 ⟨hI_μ6, hC_μ6⟩
    have hF_μ6 : Fr [(0, 30, 7), (0, 30, 10), (1, 38, 0)] true μ μ6 := hF_μ5.trans (hC_μ6.mono (by decide +kernel) (by decide))
    have hr_μ6 : μ6.2.2 = μ.2.2 := (hC_μ6.2 rfl : μ6.2.2 = μ5.2.2).trans hr_μ5
    exact ok_some ⟨hI_μ6, hF_μ6⟩
  · intro c2
    rw [ti_lt] at c2
    try rw [TI.e (e := ((μ.1 30 10) + (1 : Int32))) (n := ((μ.1 30 10).toInt + 1)) (TI.add TI.rf (TI.lit (by decide)) (by omega) (by omega))] at c2
    exact ok_some ⟨hI_μ, hF_μ⟩

set_option maxHeartbeats 4000000 in
set_option maxRecDepth 100000 in
theorem k_X10_workCall (a1 : Int32) (a2 : Int32) (μ : Mem) (hI_μ : IX μ) (hc : 0 ≤ (a2).toInt ∧ (a2).toInt ≤ 5) : ok (p_X10_workCall a1 a2 μ) (fun q => IX q.2 ∧ Fr [(0, 30, 7), (0, 30, 10), (0, 39, 1), (0, 39, 3), (0, 137, 6), (0, 137, 9), (1, 38, 0), (1, 40, 0), (1, 42, 0), (1, 43, 0), (1, 45, 0)] true μ q.2 ∧ ((q.1).toInt = 0 ∨ (q.1).toInt = 1)) := by
  have lim3 : (-3 : Int32).toInt = -3 := by decide
  have lim1 : (-1 : Int32).toInt = -1 := by decide
  have li0 : (0 : Int32).toInt = 0 := by decide
  have li1 : (1 : Int32).toInt = 1 := by decide
  have li12 : (12 : Int32).toInt = 12 := by decide
  have li200 : (200 : Int32).toInt = 200 := by decide
  have hF_μ : Fr [(0, 30, 7), (0, 30, 10), (0, 39, 1), (0, 39, 3), (0, 137, 6), (0, 137, 9), (1, 38, 0), (1, 40, 0), (1, 42, 0), (1, 43, 0), (1, 45, 0)] true μ μ := Fr.rf
  have hr_μ : μ.2.2 = μ.2.2 := rfl
  rw [p_X10_workCall_eq]
  have lo_a1 := ti_lo a1
  have hi_a1 := ti_hi a1
  have lo_a2 := ti_lo a2
  have hi_a2 := ti_hi a2
  refine ok_bd (k_X3_startOf (sel 2 (μ.2.2 137 5)) (sel_2 _) a1 μ hI_μ) ?_
  rintro r2 μ1 hq9
  obtain rfl : μ = μ1 := hq9
  have lo_r2 := ti_lo r2
  have hi_r2 := ti_hi r2
  refine ok_ite ?_ ?_
  · intro c3
    rw [ti_eq] at c3
    refine ok_bw (k_X8_drop a2 μ hI_μ (by omega)) ?_
    rintro μ4 ⟨hI_μ4, hC_μ4⟩
    have hF_μ4 : Fr [(0, 30, 7), (0, 30, 10), (0, 39, 1), (0, 39, 3), (0, 137, 6), (0, 137, 9), (1, 38, 0), (1, 40, 0), (1, 42, 0), (1, 43, 0), (1, 45, 0)] true μ μ4 := hF_μ.trans (hC_μ4.mono (by decide +kernel) (by decide))
    have hr_μ4 : μ4.2.2 = μ.2.2 := (hC_μ4.2 rfl : μ4.2.2 = μ.2.2).trans hr_μ
    try rw [hr_μ4]
    refine ok_bd (k_X10_leave (12 : Int32) (0 : Int32) (0 : Int64) (0 : Int64) μ4 hI_μ4) ?_
    rintro r7 μ6 ⟨hI_μ6, hC_μ6⟩
    have hI_μ6 : IX μ6 := hI_μ6
    have hC_μ6 : Fr [(0, 39, 1), (0, 137, 6), (1, 40, 0), (1, 42, 0), (1, 43, 0), (1, 45, 0)] true μ4 μ6 := hC_μ6
    have hF_μ6 : Fr [(0, 30, 7), (0, 30, 10), (0, 39, 1), (0, 39, 3), (0, 137, 6), (0, 137, 9), (1, 38, 0), (1, 40, 0), (1, 42, 0), (1, 43, 0), (1, 45, 0)] true μ μ6 := hF_μ4.trans (hC_μ6.mono (by decide +kernel) (by decide))
    have hr_μ6 : μ6.2.2 = μ.2.2 := (hC_μ6.2 rfl : μ6.2.2 = μ4.2.2).trans hr_μ4
    try rw [hr_μ6]
    refine ok_bw (k_X8_push r7 μ6 hI_μ6) ?_
    rintro μ8 ⟨hI_μ8, hC_μ8⟩
    have hF_μ8 : Fr [(0, 30, 7), (0, 30, 10), (0, 39, 1), (0, 39, 3), (0, 137, 6), (0, 137, 9), (1, 38, 0), (1, 40, 0), (1, 42, 0), (1, 43, 0), (1, 45, 0)] true μ μ8 := hF_μ6.trans (hC_μ8.mono (by decide +kernel) (by decide))
    have hr_μ8 : μ8.2.2 = μ.2.2 := (hC_μ8.2 rfl : μ8.2.2 = μ6.2.2).trans hr_μ6
    try rw [hr_μ8]
    exact ok_some ⟨hI_μ8, hF_μ8, by (try dsimp only); (try rw [hr_μ8]); omega⟩
  · intro c3
    rw [ti_eq] at c3
    have g10 := ti_lo (μ.1 137 13)
    have g10h := ti_hi (μ.1 137 13)
    refine ok_ite ?_ ?_
    · intro c11
      rw [ti_lt] at c11
      exact ok_some ⟨hI_μ, hF_μ, by (try dsimp only); omega⟩
    · intro c11
      rw [ti_lt] at c11
      have g12 := rg_30_10 hI_μ
      have g13 := ti_lo (μ.1 137 0)
      have g13h := ti_hi (μ.1 137 0)
      refine ok_ite ?_ ?_
      · intro c14
        rw [ti_lt] at c14
        have g15 := ti_lo (μ.1 39 3)
        have g15h := ti_hi (μ.1 39 3)
        refine ok_ite ?_ ?_
        · intro c16
          rw [ti_lt] at c16
          refine ok_bv (fun μ17 e_μ17 => ?_)
          have hI_μ17 : IX μ17 := by rw [e_μ17]; exact IX_F hI_μ (rt_39_3 _)
          have hF_μ17 : Fr [(0, 30, 7), (0, 30, 10), (0, 39, 1), (0, 39, 3), (0, 137, 6), (0, 137, 9), (1, 38, 0), (1, 40, 0), (1, 42, 0), (1, 43, 0), (1, 45, 0)] true μ μ17 := by rw [e_μ17]; exact Fr.put hF_μ (by decide +kernel)
          have hr_μ17 : μ17.2.2 = μ.2.2 := (by rw [e_μ17]; rfl : μ17.2.2 = μ.2.2).trans hr_μ
          try rw [hr_μ17]
          have g18 := ti_lo (μ17.1 137 9)
          have g18h := ti_hi (μ17.1 137 9)
          refine ok_bw (k_X8_openFrame a2 (μ17.1 137 9) μ17 hI_μ17 (by (try rw [hr_μ17]); omega)) ?_
          rintro μ19 ⟨hI_μ19, hC_μ19⟩
          have hF_μ19 : Fr [(0, 30, 7), (0, 30, 10), (0, 39, 1), (0, 39, 3), (0, 137, 6), (0, 137, 9), (1, 38, 0), (1, 40, 0), (1, 42, 0), (1, 43, 0), (1, 45, 0)] true μ μ19 := hF_μ17.trans (hC_μ19.mono (by decide +kernel) (by decide))
          have hr_μ19 : μ19.2.2 = μ.2.2 := (hC_μ19.2 rfl : μ19.2.2 = μ17.2.2).trans hr_μ17
          try rw [hr_μ19]
          refine ok_bv (fun μ21 e_μ21 => ?_)
          have hI_μ21 : IX μ21 := by rw [e_μ21]; exact IX_F hI_μ19 (rt_137_9 _)
          have hF_μ21 : Fr [(0, 30, 7), (0, 30, 10), (0, 39, 1), (0, 39, 3), (0, 137, 6), (0, 137, 9), (1, 38, 0), (1, 40, 0), (1, 42, 0), (1, 43, 0), (1, 45, 0)] true μ μ21 := by rw [e_μ21]; exact Fr.put hF_μ19 (by decide +kernel)
          have v_μ21 : (μ21.1 137 9).toInt = r2.toInt := by rw [e_μ21, sF_v]
          have hr_μ21 : μ21.2.2 = μ.2.2 := (by rw [e_μ21]; rfl : μ21.2.2 = μ19.2.2).trans hr_μ19
          try rw [hr_μ21]
          exact ok_some ⟨hI_μ21, hF_μ21, by (try dsimp only); (try rw [hr_μ21]); omega⟩
        · intro c16
          rw [ti_lt] at c16
          refine ok_bw (k_X10_breakOff (-3 : Int32) μ hI_μ) ?_
          rintro μ22 ⟨hI_μ22, hC_μ22⟩
          have hF_μ22 : Fr [(0, 30, 7), (0, 30, 10), (0, 39, 1), (0, 39, 3), (0, 137, 6), (0, 137, 9), (1, 38, 0), (1, 40, 0), (1, 42, 0), (1, 43, 0), (1, 45, 0)] true μ μ22 := hF_μ.trans (hC_μ22.mono (by decide +kernel) (by decide))
          have hr_μ22 : μ22.2.2 = μ.2.2 := (hC_μ22.2 rfl : μ22.2.2 = μ.2.2).trans hr_μ
          try rw [hr_μ22]
          exact ok_some ⟨hI_μ22, hF_μ22, by (try dsimp only); (try rw [hr_μ22]); omega⟩
      · intro c14
        rw [ti_lt] at c14
        exact ok_some ⟨hI_μ, hF_μ, by (try dsimp only); omega⟩

set_option maxHeartbeats 4000000 in
set_option maxRecDepth 100000 in
theorem k_X8_flatten_b145 {n13 : Nat} (K13 : Nat → Int32 → Int32 → Mem → Option Mem) (hK13 : ∀ (z3 : Nat) (w3 : sh 0 z3 = (0, 1)) (z4 : Int32) (z5 : Int32) (μ1 : Mem), IX μ1 → (0 ≤ (z4).toInt ∧ (z4).toInt ≤ 264 ∧ 0 ≤ (z5).toInt ∧ (z5).toInt ≤ 30200 ∧ 30200 - (z5).toInt < n13) → ok (K13 z3 z4 z5 μ1) (fun q => IX q ∧ Fr [(2, 1, 2)] true μ1 q)) (a3 : Nat) (q3 : sh 0 a3 = (0, 1)) (a4 : Int32) (a5 : Int32) (μ : Mem) (hI_μ : IX μ) (hc : 0 ≤ (a4).toInt ∧ (a4).toInt ≤ 264 ∧ 0 ≤ (a5).toInt ∧ (a5).toInt < 30200 ∧ 30200 - (a5).toInt < n13 + 1) : ok (p_X8_flatten_b145 K13 a3 a4 a5 μ) (fun q => IX q ∧ Fr [(2, 1, 2)] true μ q) := by
  have li0 : (0 : Int32).toInt = 0 := by decide
  have li1 : (1 : Int32).toInt = 1 := by decide
  have hF_μ : Fr [(2, 1, 2)] true μ μ := Fr.rf
  have hr_μ : μ.2.2 = μ.2.2 := rfl
  rw [p_X8_flatten_b145_eq]
  have lo_a4 := ti_lo a4
  have hi_a4 := ti_hi a4
  have lo_a5 := ti_lo a5
  have hi_a5 := ti_hi a5
  refine ok_bv (fun v14 ev14 => ?_)
  first | have tv14 : v14.toInt = (a5.toInt + 1) := (congrArg Int32.toInt ev14).trans (TI.e (n := (a5.toInt + 1)) (TI.add TI.rf (TI.lit (by decide)) (by omega) (by omega))) | have tv14 : v14.toInt ≤ a5.toInt + 1 := by rw [ev14]; exact ti_inc _ | skip
  exact ok_mono (hK13 a3 q3 a4 v14 μ hI_μ (by omega)) (fun q h => ⟨h.1, hF_μ.trans h.2⟩)
set_option maxHeartbeats 4000000 in
set_option maxRecDepth 100000 in
theorem k_X8_flatten_b140 {n13 : Nat} (K13 : Nat → Int32 → Int32 → Mem → Option Mem) (hK13 : ∀ (z3 : Nat) (w3 : sh 0 z3 = (0, 1)) (z4 : Int32) (z5 : Int32) (μ1 : Mem), IX μ1 → (0 ≤ (z4).toInt ∧ (z4).toInt ≤ 264 ∧ 0 ≤ (z5).toInt ∧ (z5).toInt ≤ 30200 ∧ 30200 - (z5).toInt < n13) → ok (K13 z3 z4 z5 μ1) (fun q => IX q ∧ Fr [(2, 1, 2)] true μ1 q)) (a3 : Nat) (q3 : sh 0 a3 = (0, 1)) (a4 : Int32) (a5 : Int32) (a6 : Int64) (k0 : Int64) (k1 : Nat) (qk1 : sh 0 k1 = (0, 1)) (μ : Mem) (hI_μ : IX μ) (hc : 0 ≤ (a4).toInt ∧ (a4).toInt ≤ 264 ∧ 0 ≤ (a5).toInt ∧ (a5).toInt < 30200 ∧ 30200 - (a5).toInt < n13 + 1) : ok (p_X8_flatten_b140 K13 a3 a4 a5 a6 k0 k1 μ) (fun q => IX q ∧ Fr [(2, 1, 2)] true μ q) := by
  have li0 : (0 : Int32).toInt = 0 := by decide
  have li1 : (1 : Int32).toInt = 1 := by decide
  have hF_μ : Fr [(2, 1, 2)] true μ μ := Fr.rf
  have hr_μ : μ.2.2 = μ.2.2 := rfl
  rw [p_X8_flatten_b140_eq]
  have lo_a4 := ti_lo a4
  have hi_a4 := ti_hi a4
  have lo_a5 := ti_lo a5
  have hi_a5 := ti_hi a5
  refine ok_bw (k_X2_add k1 qk1 k0 a6 μ hI_μ) ?_
  rintro μ12 ⟨hI_μ12, hC_μ12⟩
  have hF_μ12 : Fr [(2, 1, 2)] true μ μ12 := hF_μ.trans (hC_μ12.mono (by decide +kernel) (by decide))
  have hr_μ12 : μ12.2.2 = μ.2.2 := (hC_μ12.2 rfl : μ12.2.2 = μ.2.2).trans hr_μ
  exact ok_mono (k_X8_flatten_b145 _ hK13 a3 q3 a4 a5 μ12 hI_μ12 (by (try rw [hr_μ12]); omega)) (fun q h => ⟨h.1, hF_μ12.trans h.2⟩)
set_option maxHeartbeats 4000000 in
set_option maxRecDepth 100000 in
theorem k_X8_flatten_b124 {n13 : Nat} (K13 : Nat → Int32 → Int32 → Mem → Option Mem) (hK13 : ∀ (z3 : Nat) (w3 : sh 0 z3 = (0, 1)) (z4 : Int32) (z5 : Int32) (μ1 : Mem), IX μ1 → (0 ≤ (z4).toInt ∧ (z4).toInt ≤ 264 ∧ 0 ≤ (z5).toInt ∧ (z5).toInt ≤ 30200 ∧ 30200 - (z5).toInt < n13) → ok (K13 z3 z4 z5 μ1) (fun q => IX q ∧ Fr [(2, 1, 2)] true μ1 q)) (a3 : Nat) (q3 : sh 0 a3 = (0, 1)) (a4 : Int32) (a5 : Int32) (a6 : Int64) (k0 : Int32) (μ : Mem) (hI_μ : IX μ) (hc : 0 ≤ (a4).toInt ∧ (a4).toInt ≤ 264 ∧ 0 ≤ (a5).toInt ∧ (a5).toInt < 30200 ∧ 30200 - (a5).toInt < n13 + 1) : ok (p_X8_flatten_b124 K13 a3 a4 a5 a6 k0 μ) (fun q => IX q ∧ Fr [(2, 1, 2)] true μ q) := by
  have li0 : (0 : Int32).toInt = 0 := by decide
  have li1 : (1 : Int32).toInt = 1 := by decide
  have hF_μ : Fr [(2, 1, 2)] true μ μ := Fr.rf
  have hr_μ : μ.2.2 = μ.2.2 := rfl
  rw [p_X8_flatten_b124_eq]
  have lo_a4 := ti_lo a4
  have hi_a4 := ti_hi a4
  have lo_a5 := ti_lo a5
  have hi_a5 := ti_hi a5
  have lo_k0 := ti_lo k0
  have hi_k0 := ti_hi k0
  refine ok_ite ?_ ?_
  · intro c11
    rw [ti_eq] at c11
    exact ok_mono (k_X8_flatten_b140 _ hK13 a3 q3 a4 a5 a6 a6 a3 q3 μ hI_μ (by omega)) (fun q h => ⟨h.1, hF_μ.trans h.2⟩)
  · intro c11
    rw [ti_eq] at c11
    exact ok_mono (k_X8_flatten_b140 _ hK13 a3 q3 a4 a5 a6 (17179869184 : Int64) a3 q3 μ hI_μ (by omega)) (fun q h => ⟨h.1, hF_μ.trans h.2⟩)
set_option maxHeartbeats 4000000 in
set_option maxRecDepth 100000 in
theorem k_X8_flatten_b110 {n13 : Nat} (K13 : Nat → Int32 → Int32 → Mem → Option Mem) (hK13 : ∀ (z3 : Nat) (w3 : sh 0 z3 = (0, 1)) (z4 : Int32) (z5 : Int32) (μ1 : Mem), IX μ1 → (0 ≤ (z4).toInt ∧ (z4).toInt ≤ 264 ∧ 0 ≤ (z5).toInt ∧ (z5).toInt ≤ 30200 ∧ 30200 - (z5).toInt < n13) → ok (K13 z3 z4 z5 μ1) (fun q => IX q ∧ Fr [(2, 1, 2)] true μ1 q)) (a3 : Nat) (q3 : sh 0 a3 = (0, 1)) (a4 : Int32) (a5 : Int32) (a6 : Int64) (μ : Mem) (hI_μ : IX μ) (hc : 0 ≤ (a4).toInt ∧ (a4).toInt ≤ 264 ∧ 0 ≤ (a5).toInt ∧ (a5).toInt < 30200 ∧ 30200 - (a5).toInt < n13 + 1) : ok (p_X8_flatten_b110 K13 a3 a4 a5 a6 μ) (fun q => IX q ∧ Fr [(2, 1, 2)] true μ q) := by
  have li0 : (0 : Int32).toInt = 0 := by decide
  have li1 : (1 : Int32).toInt = 1 := by decide
  have li3 : (3 : Int32).toInt = 3 := by decide
  have hF_μ : Fr [(2, 1, 2)] true μ μ := Fr.rf
  have hr_μ : μ.2.2 = μ.2.2 := rfl
  rw [p_X8_flatten_b110_eq]
  have lo_a4 := ti_lo a4
  have hi_a4 := ti_hi a4
  have lo_a5 := ti_lo a5
  have hi_a5 := ti_hi a5
  refine ok_ite ?_ ?_
  · intro c10
    rw [ti_eq] at c10
    exact ok_mono (k_X8_flatten_b124 _ hK13 a3 q3 a4 a5 a6 (1 : Int32) μ hI_μ (by omega)) (fun q h => ⟨h.1, hF_μ.trans h.2⟩)
  · intro c10
    rw [ti_eq] at c10
    exact ok_mono (k_X8_flatten_b124 _ hK13 a3 q3 a4 a5 a6 (0 : Int32) μ hI_μ (by omega)) (fun q h => ⟨h.1, hF_μ.trans h.2⟩)
set_option maxHeartbeats 4000000 in
set_option maxRecDepth 100000 in
theorem k_X8_flatten_b13 : ∀ (n : Nat) (a3 : Nat) (q3 : sh 0 a3 = (0, 1)) (a4 : Int32) (a5 : Int32) (μ : Mem), IX μ → (0 ≤ (a4).toInt ∧ (a4).toInt ≤ 264 ∧ 0 ≤ (a5).toInt ∧ (a5).toInt ≤ 30200 ∧ 30200 - (a5).toInt < n) → ok (p_X8_flatten_b13 n a3 a4 a5 μ) (fun q => IX q ∧ Fr [(2, 1, 2)] true μ q) := by
  have lim1 : (-1 : Int32).toInt = -1 := by decide
  have li0 : (0 : Int32).toInt = 0 := by decide
  have li1 : (1 : Int32).toInt = 1 := by decide
  have li2 : (2 : Int32).toInt = 2 := by decide
  have li264 : (264 : Int32).toInt = 264 := by decide
  have li30200 : (30200 : Int32).toInt = 30200 := by decide
  intro n
  induction n with
  | zero => intro a3 q3 a4 a5 μ hI_μ hc; exact absurd hc (by have lo_a4 := ti_lo a4; have hi_a4 := ti_hi a4; have lo_a5 := ti_lo a5; have hi_a5 := ti_hi a5; omega)
  | succ n ih =>
    intro a3 q3 a4 a5 μ hI_μ hc
    have hF_μ : Fr [(2, 1, 2)] true μ μ := Fr.rf
    have hr_μ : μ.2.2 = μ.2.2 := rfl
    rw [p_X8_flatten_b13_s]
    have lo_a4 := ti_lo a4
    have hi_a4 := ti_hi a4
    have lo_a5 := ti_lo a5
    have hi_a5 := ti_hi a5
    refine ok_ite ?_ ?_
    · intro c2
      rw [ti_le] at c2
      exact ok_some ⟨hI_μ, hF_μ⟩
    · intro c2
      rw [ti_le] at c2
      refine ok_ite ?_ ?_
      · intro c3
        rw [ti_le] at c3
        exact ok_some ⟨hI_μ, hF_μ⟩
      · intro c3
        rw [ti_le] at c3
        refine ok_bv (fun v4 ev4 => ?_)
        first | have tv4 : v4.toInt = (a4.toInt + (-1)) := (congrArg Int32.toInt ev4).trans (TI.e (n := (a4.toInt + (-1))) (TI.add TI.rf (TI.lit (by decide)) (by omega) (by omega))) | skip
        refine ok_gd (inb_iff.mpr (by omega)) ?_
        refine ok_bv (fun v5 ev5 => ?_)
        have g8 := rg_30_5 hI_μ
        refine ok_bd (k_X8_isPair v5 μ hI_μ) ?_
        rintro r7 μ6 ⟨hq9, p_r7⟩
        obtain rfl : μ = μ6 := hq9
        dsimp only at p_r7
        have lo_r7 := ti_lo r7
        have hi_r7 := ti_hi r7
        refine ok_ite ?_ ?_
        · intro c9
          rw [ti_eq] at c9
          exact ok_mono (k_X8_flatten_b110 _ ih a3 q3 v4 a5 v5 μ hI_μ (by omega)) (fun q h => ⟨h.1, hF_μ.trans h.2⟩)
        · intro c9
          rw [ti_eq] at c9
          refine ok_ite ?_ ?_
          · intro c15
            rw [ti_lt] at c15
            try rw [TI.e (e := (v4 + (2 : Int32))) (n := (v4.toInt + 2)) (TI.add TI.rf (TI.lit (by decide)) (by omega) (by omega))] at c15
            exact ok_mono (k_X8_flatten_b110 _ ih a3 q3 v4 a5 v5 μ hI_μ (by omega)) (fun q h => ⟨h.1, hF_μ.trans h.2⟩)
          · intro c15
            rw [ti_lt] at c15
            try rw [TI.e (e := (v4 + (2 : Int32))) (n := (v4.toInt + 2)) (TI.add TI.rf (TI.lit (by decide)) (by omega) (by omega))] at c15
            refine ok_bw (k_X2_add a3 q3 (8589934592 : Int64) v5 μ hI_μ) ?_
            rintro μ16 ⟨hI_μ16, hC_μ16⟩
            have hF_μ16 : Fr [(2, 1, 2)] true μ μ16 := hF_μ.trans (hC_μ16.mono (by decide +kernel) (by decide))
            have hr_μ16 : μ16.2.2 = μ.2.2 := (hC_μ16.2 rfl : μ16.2.2 = μ.2.2).trans hr_μ
            refine ok_gd (inb_iff.mpr (by (try rw [TI.e (e := (s_X0_bits v5)) (n := (v5.toInt32).toInt) (TI.bits v5)]); omega)) ?_
            refine ok_gd (inb_iff.mpr (by omega)) ?_
            refine ok_bv (fun μ18 e_μ18 => ?_)
            have hI_μ18 : IX μ18 := by rw [e_μ18]; exact IX_L hI_μ16
            have hF_μ18 : Fr [(2, 1, 2)] true μ μ18 := by rw [e_μ18]; exact hF_μ16
            have hr_μ18 : μ18.2.2 = μ.2.2 := (by rw [e_μ18]; rfl : μ18.2.2 = μ16.2.2).trans hr_μ16
            refine ok_gd (inb_iff.mpr (by (try rw [TI.e (e := (s_X0_bits v5)) (n := (v5.toInt32).toInt) (TI.bits v5)]); omega)) ?_
            refine ok_gd (inb_iff.mpr (by (try rw [TI.e (e := (v4 + (1 : Int32))) (n := (v4.toInt + 1)) (TI.add TI.rf (TI.lit (by decide)) (by omega) (by omega))]); omega)) ?_
            refine ok_bv (fun μ19 e_μ19 => ?_)
            have hI_μ19 : IX μ19 := by rw [e_μ19]; exact IX_L hI_μ18
            have hF_μ19 : Fr [(2, 1, 2)] true μ μ19 := by rw [e_μ19]; exact hF_μ18
            have hr_μ19 : μ19.2.2 = μ.2.2 := (by rw [e_μ19]; rfl : μ19.2.2 = μ18.2.2).trans hr_μ18
            refine ok_bv (fun v20 ev20 => ?_)
            first | have tv20 : v20.toInt = (v4.toInt + 2) := (congrArg Int32.toInt ev20).trans (TI.e (n := (v4.toInt + 2)) (TI.add TI.rf (TI.lit (by decide)) (by omega) (by omega))) | skip
            exact ok_mono (k_X8_flatten_b145 _ ih a3 q3 v20 a5 μ19 hI_μ19 (by (try rw [hr_μ19]); omega)) (fun q h => ⟨h.1, hF_μ19.trans h.2⟩)
set_option maxHeartbeats 4000000 in
set_option maxRecDepth 100000 in
theorem k_X8_flatten (a1 : Int64) (a3 : Nat) (q3 : sh 0 a3 = (0, 1)) (μ : Mem) (hI_μ : IX μ) : ok (p_X8_flatten a1 a3 μ) (fun q => IX q ∧ Fr [(2, 1, 2)] true μ q) := by
  have li0 : (0 : Int32).toInt = 0 := by decide
  have li1 : (1 : Int32).toInt = 1 := by decide
  have hF_μ : Fr [(2, 1, 2)] true μ μ := Fr.rf
  have hr_μ : μ.2.2 = μ.2.2 := rfl
  rw [p_X8_flatten_eq]
  refine ok_gd (inb_iff.mpr (by omega)) ?_
  refine ok_bv (fun μ1 e_μ1 => ?_)
  have hI_μ1 : IX μ1 := by rw [e_μ1]; exact IX_L hI_μ
  have hF_μ1 : Fr [(2, 1, 2)] true μ μ1 := by rw [e_μ1]; exact hF_μ
  have hr_μ1 : μ1.2.2 = μ.2.2 := (by rw [e_μ1]; rfl : μ1.2.2 = μ.2.2).trans hr_μ
  obtain ⟨fu, hfu0, hfu⟩ := fuel_ex
  rw [hfu0]
  exact ok_mono (k_X8_flatten_b13  fu a3 q3 (1 : Int32) (0 : Int32) μ1 hI_μ1 (by (try rw [hr_μ1]); omega)) (fun q h => ⟨h.1, hF_μ1.trans h.2⟩)

set_option maxHeartbeats 4000000 in
set_option maxRecDepth 100000 in
theorem k_X2_behind_b39 {n8 : Nat} (K8 : Nat → Int32 → Int32 → Mem → Option (Int32 × Mem)) (hK8 : ∀ (z0 : Nat) (w0 : sh 0 z0 = (0, 1)) (z2 : Int32) (z3 : Int32) (μ1 : Mem), IX μ1 → (0 ≤ (z3).toInt ∧ 2147483648 - (z3).toInt < n8) → ok (K8 z0 z2 z3 μ1) (fun q => μ1 = q.2 ∧ (0 ≤ (q.1).toInt))) (a0 : Nat) (q0 : sh 0 a0 = (0, 1)) (a3 : Int32) (k0 : Int32) (k1 : Int32) (μ : Mem) (hI_μ : IX μ) (hc : 0 ≤ (a3).toInt ∧ (a3).toInt < 200 ∧ 2147483648 - (a3).toInt < n8 + 1) : ok (p_X2_behind_b39 K8 a0 a3 k0 k1 μ) (fun q => μ = q.2 ∧ (0 ≤ (q.1).toInt)) := by
  have li0 : (0 : Int32).toInt = 0 := by decide
  have li1 : (1 : Int32).toInt = 1 := by decide
  have hF_μ : Fr [] true μ μ := Fr.rf
  have hr_μ : μ.2.2 = μ.2.2 := rfl
  rw [p_X2_behind_b39_eq]
  have lo_a3 := ti_lo a3
  have hi_a3 := ti_hi a3
  have lo_k0 := ti_lo k0
  have hi_k0 := ti_hi k0
  have lo_k1 := ti_lo k1
  have hi_k1 := ti_hi k1
  refine ok_bv (fun v6 ev6 => ?_)
  first | have tv6 : v6.toInt = (k1.toInt + k0.toInt) := (congrArg Int32.toInt ev6).trans (TI.e (n := (k1.toInt + k0.toInt)) (TI.add TI.rf TI.rf (by omega) (by omega))) | skip
  refine ok_bv (fun v7 ev7 => ?_)
  first | have tv7 : v7.toInt = (a3.toInt + 1) := (congrArg Int32.toInt ev7).trans (TI.e (n := (a3.toInt + 1)) (TI.add TI.rf (TI.lit (by decide)) (by omega) (by omega))) | have tv7 : v7.toInt ≤ a3.toInt + 1 := by rw [ev7]; exact ti_inc _ | skip
  exact ok_mono (hK8 a0 q0 v6 v7 μ hI_μ (by omega)) (fun q h => h)
set_option maxHeartbeats 4000000 in
set_option maxRecDepth 100000 in
theorem k_X2_behind_b8 : ∀ (n : Nat) (a0 : Nat) (q0 : sh 0 a0 = (0, 1)) (a2 : Int32) (a3 : Int32) (μ : Mem), IX μ → (0 ≤ (a3).toInt ∧ 2147483648 - (a3).toInt < n) → ok (p_X2_behind_b8 n a0 a2 a3 μ) (fun q => μ = q.2 ∧ (0 ≤ (q.1).toInt)) := by
  have lim1 : (-1 : Int32).toInt = -1 := by decide
  have li0 : (0 : Int32).toInt = 0 := by decide
  have li1 : (1 : Int32).toInt = 1 := by decide
  have li2 : (2 : Int32).toInt = 2 := by decide
  intro n
  induction n with
  | zero => intro a0 q0 a2 a3 μ hI_μ hc; exact absurd hc (by have lo_a2 := ti_lo a2; have hi_a2 := ti_hi a2; have lo_a3 := ti_lo a3; have hi_a3 := ti_hi a3; omega)
  | succ n ih =>
    intro a0 q0 a2 a3 μ hI_μ hc
    have hF_μ : Fr [] true μ μ := Fr.rf
    have hr_μ : μ.2.2 = μ.2.2 := rfl
    rw [p_X2_behind_b8_s]
    have lo_a2 := ti_lo a2
    have hi_a2 := ti_hi a2
    have lo_a3 := ti_lo a3
    have hi_a3 := ti_hi a3
    have g2 := rgp q0 hI_μ
    refine ok_ite ?_ ?_
    · intro c3
      rw [ti_le] at c3
      exact ok_some ⟨rfl, by (try dsimp only); omega⟩
    · intro c3
      rw [ti_le] at c3
      refine ok_ite ?_ ?_
      · intro c4
        rw [ti_le] at c4
        exact ok_some ⟨rfl, by (try dsimp only); omega⟩
      · intro c4
        rw [ti_le] at c4
        refine ok_gd (inb_iff.mpr (by omega)) ?_
        refine ok_ite ?_ ?_
        · intro c5
          rw [ti_eq] at c5
          exact ok_mono (k_X2_behind_b39 _ ih a0 q0 a3 (1 : Int32) a2 μ hI_μ (by omega)) (fun q h => h)
        · intro c5
          rw [ti_eq] at c5
          exact ok_mono (k_X2_behind_b39 _ ih a0 q0 a3 (-1 : Int32) a2 μ hI_μ (by omega)) (fun q h => h)
set_option maxHeartbeats 4000000 in
set_option maxRecDepth 100000 in
theorem k_X2_behind (a0 : Nat) (q0 : sh 0 a0 = (0, 1)) (a1 : Int32) (μ : Mem) (hI_μ : IX μ) : ok (p_X2_behind a0 a1 μ) (fun q => μ = q.2 ∧ (0 ≤ (q.1).toInt)) := by
  have li0 : (0 : Int32).toInt = 0 := by decide
  have li1 : (1 : Int32).toInt = 1 := by decide
  have hF_μ : Fr [] true μ μ := Fr.rf
  have hr_μ : μ.2.2 = μ.2.2 := rfl
  rw [p_X2_behind_eq]
  have lo_a1 := ti_lo a1
  have hi_a1 := ti_hi a1
  refine ok_bv (fun v1 ev1 => ?_)
  first | have tv1 : v1.toInt = (max 0 a1.toInt) := (congrArg Int32.toInt ev1).trans (TI.e (n := (max 0 a1.toInt)) (TI.max (TI.lit (by decide)) TI.rf)) | skip
  obtain ⟨fu, hfu0, hfu⟩ := fuel_ex
  rw [hfu0]
  exact ok_mono (k_X2_behind_b8  fu a0 q0 (1 : Int32) v1 μ hI_μ (by omega)) (fun q h => h)
