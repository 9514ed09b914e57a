set_option maxHeartbeats 4000000 in
set_option maxRecDepth 100000 in
theorem k_X1_beginCall (a0 : Nat) (q0 : sh 0 a0 = (0, 0)) (μ : Mem) (hI_μ : IX μ) : ok (p_X1_beginCall a0 μ) (fun q => IX q.2 ∧ Fr [(2, 0, 0), (2, 0, 1), (2, 0, 2), (2, 0, 3)] true μ q.2 ∧ ((q.1).toInt = 0 ∨ (q.1).toInt = 1)) := by
  have li0 : (0 : Int32).toInt = 0 := by decide
  have li1 : (1 : Int32).toInt = 1 := by decide
  have li3 : (3 : Int32).toInt = 3 := by decide
  have li30 : (30 : Int32).toInt = 30 := by decide
  have li100 : (100 : Int32).toInt = 100 := by decide
  have hF_μ : Fr [(2, 0, 0), (2, 0, 1), (2, 0, 2), (2, 0, 3)] true μ μ := Fr.rf
  have hr_μ : μ.2.2 = μ.2.2 := rfl
  rw [p_X1_beginCall_eq]
  have g1 := ti_lo (μ.1 a0 1)
  have g1h := ti_hi (μ.1 a0 1)
  refine ok_ite ?_ ?_
  · intro c2
    rw [ti_lt] at c2
    have g3 := ti_lo (μ.1 a0 2)
    have g3h := ti_hi (μ.1 a0 2)
    refine ok_ite ?_ ?_
    · intro c4
      rw [ti_lt] at c4
      refine ok_bv (fun μ5 e_μ5 => ?_)
      have hI_μ5 : IX μ5 := by rw [e_μ5]; exact IX_F hI_μ (rtc_0_1 q0 _)
      have hF_μ5 : Fr [(2, 0, 0), (2, 0, 1), (2, 0, 2), (2, 0, 3)] true μ μ5 := by rw [e_μ5]; exact Fr.putc (ci := 0) hF_μ (by decide +kernel) q0
      have hr_μ5 : μ5.2.2 = μ.2.2 := (by rw [e_μ5]; rfl : μ5.2.2 = μ.2.2).trans hr_μ
      have g6 := ti_lo (μ5.1 a0 2)
      have g6h := ti_hi (μ5.1 a0 2)
      have f7 : (μ5.1 a0 2).toInt = (μ.1 a0 2).toInt := congrArg Int32.toInt ((by rw [e_μ5]; exact sF_k (by decide) : μ5.1 a0 2 = μ.1 a0 2))
      refine ok_bv (fun μ8 e_μ8 => ?_)
      have hI_μ8 : IX μ8 := by rw [e_μ8]; exact IX_F hI_μ5 (rtc_0_2 q0 _)
      have hF_μ8 : Fr [(2, 0, 0), (2, 0, 1), (2, 0, 2), (2, 0, 3)] true μ μ8 := by rw [e_μ8]; exact Fr.putc (ci := 0) hF_μ5 (by decide +kernel) q0
      have hr_μ8 : μ8.2.2 = μ.2.2 := (by rw [e_μ8]; rfl : μ8.2.2 = μ5.2.2).trans hr_μ5
      have g9 := ti_lo (μ8.1 a0 3)
      have g9h := ti_hi (μ8.1 a0 3)
      have g10 := ti_lo (μ8.1 a0 2)
      have g10h := ti_hi (μ8.1 a0 2)
      refine ok_bv (fun μ11 e_μ11 => ?_)
      have hI_μ11 : IX μ11 := by rw [e_μ11]; exact IX_F hI_μ8 (rtc_0_3 q0 _)
      have hF_μ11 : Fr [(2, 0, 0), (2, 0, 1), (2, 0, 2), (2, 0, 3)] true μ μ11 := by rw [e_μ11]; exact Fr.putc (ci := 0) hF_μ8 (by decide +kernel) q0
      have hr_μ11 : μ11.2.2 = μ.2.2 := (by rw [e_μ11]; rfl : μ11.2.2 = μ8.2.2).trans hr_μ8
      refine ok_bd (k_X1_isRunning a0 q0 μ11 hI_μ11) ?_
      rintro r13 μ12 ⟨hq9, p_r13⟩
      obtain rfl : μ11 = μ12 := hq9
      dsimp only at p_r13
      have lo_r13 := ti_lo r13
      have hi_r13 := ti_hi r13
      refine ok_gd (isB_of (by omega)) ?_
      exact ok_some ⟨hI_μ11, hF_μ11, by (try dsimp only); (try rw [hr_μ11]); omega⟩
    · intro c4
      rw [ti_lt] at c4
      refine ok_bv (fun μ15 e_μ15 => ?_)
      have hI_μ15 : IX μ15 := by rw [e_μ15]; exact IX_F hI_μ (rtc_0_0 q0 _)
      have hF_μ15 : Fr [(2, 0, 0), (2, 0, 1), (2, 0, 2), (2, 0, 3)] true μ μ15 := by rw [e_μ15]; exact Fr.putc (ci := 0) hF_μ (by decide +kernel) q0
      have v_μ15 : (μ15.1 a0 0).toInt = 3 := by rw [e_μ15, sF_v]; exact TI.e (n := 3) (TI.lit (by decide))
      have hr_μ15 : μ15.2.2 = μ.2.2 := (by rw [e_μ15]; rfl : μ15.2.2 = μ.2.2).trans hr_μ
      refine ok_bd (k_X1_isRunning a0 q0 μ15 hI_μ15) ?_
      rintro r17 μ16 ⟨hq9, p_r17⟩
      obtain rfl : μ15 = μ16 := hq9
      dsimp only at p_r17
      have lo_r17 := ti_lo r17
      have hi_r17 := ti_hi r17
      refine ok_gd (isB_of (by omega)) ?_
      exact ok_some ⟨hI_μ15, hF_μ15, by (try dsimp only); (try rw [hr_μ15]); omega⟩
  · intro c2
    rw [ti_lt] at c2
    refine ok_bv (fun μ19 e_μ19 => ?_)
    have hI_μ19 : IX μ19 := by rw [e_μ19]; exact IX_F hI_μ (rtc_0_0 q0 _)
    have hF_μ19 : Fr [(2, 0, 0), (2, 0, 1), (2, 0, 2), (2, 0, 3)] true μ μ19 := by rw [e_μ19]; exact Fr.putc (ci := 0) hF_μ (by decide +kernel) q0
    have v_μ19 : (μ19.1 a0 0).toInt = 1 := by rw [e_μ19, sF_v]; exact TI.e (n := 1) (TI.lit (by decide))
    have hr_μ19 : μ19.2.2 = μ.2.2 := (by rw [e_μ19]; rfl : μ19.2.2 = μ.2.2).trans hr_μ
    refine ok_bd (k_X1_isRunning a0 q0 μ19 hI_μ19) ?_
    rintro r21 μ20 ⟨hq9, p_r21⟩
    obtain rfl : μ19 = μ20 := hq9
    dsimp only at p_r21
    have lo_r21 := ti_lo r21
    have hi_r21 := ti_hi r21
    refine ok_gd (isB_of (by omega)) ?_
    exact ok_some ⟨hI_μ19, hF_μ19, by (try dsimp only); (try rw [hr_μ19]); omega⟩

set_option maxHeartbeats 4000000 in
set_option maxRecDepth 100000 in
theorem k_X7_call (a1 : Int32) (a2 : Int32) (μ : Mem) (hI_μ : IX μ) (hc : 0 ≤ (a2).toInt ∧ (a2).toInt ≤ 5) : ok (p_X7_call a1 a2 μ) (fun q => IX q ∧ Fr [(0, 30, 7), (0, 30, 10), (0, 148, 5), (1, 38, 0), (2, 0, 0), (2, 0, 1), (2, 0, 2), (2, 0, 3)] true μ q) := by
  have lim1 : (-1 : Int32).toInt = -1 := by decide
  have li0 : (0 : Int32).toInt = 0 := by decide
  have li1 : (1 : Int32).toInt = 1 := by decide
  have li4 : (4 : Int32).toInt = 4 := by decide
  have hF_μ : Fr [(0, 30, 7), (0, 30, 10), (0, 148, 5), (1, 38, 0), (2, 0, 0), (2, 0, 1), (2, 0, 2), (2, 0, 3)] true μ μ := Fr.rf
  have hr_μ : μ.2.2 = μ.2.2 := rfl
  rw [p_X7_call_eq]
  have lo_a1 := ti_lo a1
  have hi_a1 := ti_hi a1
  have lo_a2 := ti_lo a2
  have hi_a2 := ti_hi a2
  refine ok_bd (k_X3_startOf (sel 2 (μ.2.2 148 3)) (sel_2 _) a1 μ hI_μ) ?_
  rintro r2 μ1 hq9
  obtain rfl : μ = μ1 := hq9
  have lo_r2 := ti_lo r2
  have hi_r2 := ti_hi r2
  refine ok_ite ?_ ?_
  · intro c3
    rw [ti_eq] at c3
    refine ok_bv (fun μ4 e_μ4 => ?_)
    have hI_μ4 : IX μ4 := by rw [e_μ4]; exact IX_F hI_μ (rtc_0_0 (sel_0 (μ.2.2 148 4)) _)
    have hF_μ4 : Fr [(0, 30, 7), (0, 30, 10), (0, 148, 5), (1, 38, 0), (2, 0, 0), (2, 0, 1), (2, 0, 2), (2, 0, 3)] true μ μ4 := by rw [e_μ4]; exact Fr.putc (ci := 0) hF_μ (by decide +kernel) (sel_0 (μ.2.2 148 4))
    have v_μ4 : (μ4.1 (sel 0 (μ.2.2 148 4)) 0).toInt = 4 := by rw [e_μ4, sF_v]; exact TI.e (n := 4) (TI.lit (by decide))
    have hr_μ4 : μ4.2.2 = μ.2.2 := (by rw [e_μ4]; rfl : μ4.2.2 = μ.2.2).trans hr_μ
    try rw [hr_μ4]
    exact ok_some ⟨hI_μ4, hF_μ4⟩
  · intro c3
    rw [ti_eq] at c3
    refine ok_bd (k_X1_beginCall (sel 0 (μ.2.2 148 4)) (sel_0 _) μ hI_μ) ?_
    rintro r6 μ5 ⟨hI_μ5, hC_μ5, p_μ5⟩
    have hI_μ5 : IX μ5 := hI_μ5
    have hC_μ5 : Fr [(2, 0, 0), (2, 0, 1), (2, 0, 2), (2, 0, 3)] true μ μ5 := hC_μ5
    dsimp only at p_μ5
    have lo_r6 := ti_lo r6
    have hi_r6 := ti_hi r6
    have hF_μ5 : Fr [(0, 30, 7), (0, 30, 10), (0, 148, 5), (1, 38, 0), (2, 0, 0), (2, 0, 1), (2, 0, 2), (2, 0, 3)] true μ μ5 := hF_μ.trans (hC_μ5.mono (by decide +kernel) (by decide))
    have hr_μ5 : μ5.2.2 = μ.2.2 := (hC_μ5.2 rfl : μ5.2.2 = μ.2.2).trans hr_μ
    try rw [hr_μ5]
    refine ok_ite ?_ ?_
    · intro c7
      rw [ti_eq] at c7
      exact ok_some ⟨hI_μ5, hF_μ5⟩
    · intro c7
      rw [ti_eq] at c7
      have g8 := ti_lo (μ5.1 148 5)
      have g8h := ti_hi (μ5.1 148 5)
      refine ok_bw (k_X8_openFrame a2 (μ5.1 148 5) μ5 hI_μ5 (by (try rw [hr_μ5]); omega)) ?_
      rintro μ9 ⟨hI_μ9, hC_μ9⟩
      have hF_μ9 : Fr [(0, 30, 7), (0, 30, 10), (0, 148, 5), (1, 38, 0), (2, 0, 0), (2, 0, 1), (2, 0, 2), (2, 0, 3)] true μ μ9 := hF_μ5.trans (hC_μ9.mono (by decide +kernel) (by decide))
      have hr_μ9 : μ9.2.2 = μ.2.2 := (hC_μ9.2 rfl : μ9.2.2 = μ5.2.2).trans hr_μ5
      try rw [hr_μ9]
      refine ok_bv (fun μ11 e_μ11 => ?_)
      have hI_μ11 : IX μ11 := by rw [e_μ11]; exact IX_F hI_μ9 (rt_148_5 _)
      have hF_μ11 : Fr [(0, 30, 7), (0, 30, 10), (0, 148, 5), (1, 38, 0), (2, 0, 0), (2, 0, 1), (2, 0, 2), (2, 0, 3)] true μ μ11 := by rw [e_μ11]; exact Fr.put hF_μ9 (by decide +kernel)
      have v_μ11 : (μ11.1 148 5).toInt = r2.toInt := by rw [e_μ11, sF_v]
      have hr_μ11 : μ11.2.2 = μ.2.2 := (by rw [e_μ11]; rfl : μ11.2.2 = μ9.2.2).trans hr_μ9
      try rw [hr_μ11]
      exact ok_some ⟨hI_μ11, hF_μ11⟩

set_option maxHeartbeats 4000000 in
set_option maxRecDepth 100000 in
theorem k_X7_makePair  (μ : Mem) (hI_μ : IX μ) : ok (p_X7_makePair  μ) (fun q => IX q ∧ Fr [(0, 30, 5), (0, 30, 7), (1, 33, 0), (1, 34, 0), (2, 0, 0)] true μ q) := by
  have li0 : (0 : Int32).toInt = 0 := by decide
  have li1 : (1 : Int32).toInt = 1 := by decide
  have li2 : (2 : Int32).toInt = 2 := by decide
  have hF_μ : Fr [(0, 30, 5), (0, 30, 7), (1, 33, 0), (1, 34, 0), (2, 0, 0)] true μ μ := Fr.rf
  have hr_μ : μ.2.2 = μ.2.2 := rfl
  rw [p_X7_makePair_eq]
  refine ok_bd (k_X8_pop  μ hI_μ) ?_
  rintro r2 μ1 ⟨hI_μ1, hC_μ1⟩
  have hI_μ1 : IX μ1 := hI_μ1
  have hC_μ1 : Fr [(0, 30, 7)] true μ μ1 := hC_μ1
  have hF_μ1 : Fr [(0, 30, 5), (0, 30, 7), (1, 33, 0), (1, 34, 0), (2, 0, 0)] true μ μ1 := hF_μ.trans (hC_μ1.mono (by decide +kernel) (by decide))
  have hr_μ1 : μ1.2.2 = μ.2.2 := (hC_μ1.2 rfl : μ1.2.2 = μ.2.2).trans hr_μ
  try rw [hr_μ1]
  refine ok_bd (k_X8_pop  μ1 hI_μ1) ?_
  rintro r4 μ3 ⟨hI_μ3, hC_μ3⟩
  have hI_μ3 : IX μ3 := hI_μ3
  have hC_μ3 : Fr [(0, 30, 7)] true μ1 μ3 := hC_μ3
  have hF_μ3 : Fr [(0, 30, 5), (0, 30, 7), (1, 33, 0), (1, 34, 0), (2, 0, 0)] true μ μ3 := hF_μ1.trans (hC_μ3.mono (by decide +kernel) (by decide))
  have hr_μ3 : μ3.2.2 = μ.2.2 := (hC_μ3.2 rfl : μ3.2.2 = μ1.2.2).trans hr_μ1
  try rw [hr_μ3]
  refine ok_bd (k_X8_isTooHeavy r4 r2 μ3 hI_μ3) ?_
  rintro r6 μ5 ⟨hq9, p_r6⟩
  obtain rfl : μ3 = μ5 := hq9
  dsimp only at p_r6
  have lo_r6 := ti_lo r6
  have hi_r6 := ti_hi r6
  try rw [hr_μ3]
  refine ok_ite ?_ ?_
  · intro c7
    rw [ti_eq] at c7
    refine ok_bd (k_X8_pair r4 r2 μ3 hI_μ3) ?_
    rintro r9 μ8 ⟨hI_μ8, hC_μ8⟩
    have hI_μ8 : IX μ8 := hI_μ8
    have hC_μ8 : Fr [(0, 30, 5), (1, 33, 0), (1, 34, 0)] true μ3 μ8 := hC_μ8
    have hF_μ8 : Fr [(0, 30, 5), (0, 30, 7), (1, 33, 0), (1, 34, 0), (2, 0, 0)] true μ μ8 := hF_μ3.trans (hC_μ8.mono (by decide +kernel) (by decide))
    have hr_μ8 : μ8.2.2 = μ.2.2 := (hC_μ8.2 rfl : μ8.2.2 = μ3.2.2).trans hr_μ3
    try rw [hr_μ8]
    refine ok_bw (k_X8_push r9 μ8 hI_μ8) ?_
    rintro μ10 ⟨hI_μ10, hC_μ10⟩
    have hF_μ10 : Fr [(0, 30, 5), (0, 30, 7), (1, 33, 0), (1, 34, 0), (2, 0, 0)] true μ μ10 := hF_μ8.trans (hC_μ10.mono (by decide +kernel) (by decide))
    have hr_μ10 : μ10.2.2 = μ.2.2 := (hC_μ10.2 rfl : μ10.2.2 = μ8.2.2).trans hr_μ8
    try rw [hr_μ10]
    exact ok_some ⟨hI_μ10, hF_μ10⟩
  · intro c7
    rw [ti_eq] at c7
    refine ok_bv (fun μ12 e_μ12 => ?_)
    have hI_μ12 : IX μ12 := by rw [e_μ12]; exact IX_F hI_μ3 (rtc_0_0 (sel_0 (μ.2.2 148 4)) _)
    have hF_μ12 : Fr [(0, 30, 5), (0, 30, 7), (1, 33, 0), (1, 34, 0), (2, 0, 0)] true μ μ12 := by rw [e_μ12]; exact Fr.putc (ci := 0) hF_μ3 (by decide +kernel) (sel_0 (μ.2.2 148 4))
    have v_μ12 : (μ12.1 (sel 0 (μ.2.2 148 4)) 0).toInt = 2 := by rw [e_μ12, sF_v]; exact TI.e (n := 2) (TI.lit (by decide))
    have hr_μ12 : μ12.2.2 = μ.2.2 := (by rw [e_μ12]; rfl : μ12.2.2 = μ3.2.2).trans hr_μ3
    try rw [hr_μ12]
    exact ok_some ⟨hI_μ12, hF_μ12⟩

set_option maxHeartbeats 4000000 in
set_option maxRecDepth 100000 in
theorem k_X1_writeOut (a0 : Nat) (q0 : sh 0 a0 = (0, 0)) (a1 : Int64) (μ : Mem) (hI_μ : IX μ) (hc : (μ.1 a0 4).toInt < 1000000) : ok (p_X1_writeOut a0 a1 μ) (fun q => IX q ∧ Fr [(2, 0, 4)] true μ q ∧ ((q.1 a0 4).toInt ≤ (μ.1 a0 4).toInt + 1)) := by
  have li0 : (0 : Int32).toInt = 0 := by decide
  have li1 : (1 : Int32).toInt = 1 := by decide
  have li60 : (60 : Int32).toInt = 60 := by decide
  have hF_μ : Fr [(2, 0, 4)] true μ μ := Fr.rf
  have hr_μ : μ.2.2 = μ.2.2 := rfl
  rw [p_X1_writeOut_eq]
  have g1 := rgc_0_4 q0 hI_μ
  refine ok_ite ?_ ?_
  · intro c2
    rw [ti_le] at c2
    refine ok_bv (fun μ3 e_μ3 => ?_)
    have hI_μ3 : IX μ3 := by rw [e_μ3]; exact IX_F hI_μ (rpc_0_4 q0 (by (try rw [TI.e (e := ((μ.1 a0 4) + (1 : Int32))) (n := ((μ.1 a0 4).toInt + 1)) (TI.add TI.rf (TI.lit (by decide)) (by omega) (by omega))]); omega))
    have hF_μ3 : Fr [(2, 0, 4)] true μ μ3 := by rw [e_μ3]; exact Fr.putc (ci := 0) hF_μ (by decide +kernel) q0
    have v_μ3 : (μ3.1 a0 4).toInt = ((μ.1 a0 4).toInt + 1) := by rw [e_μ3, sF_v]; exact TI.e (n := ((μ.1 a0 4).toInt + 1)) (TI.add TI.rf (TI.lit (by decide)) (by omega) (by omega))
    have hr_μ3 : μ3.2.2 = μ.2.2 := (by rw [e_μ3]; rfl : μ3.2.2 = μ.2.2).trans hr_μ
    have g4 := rgc_0_4 q0 hI_μ3
    exact ok_some ⟨hI_μ3, hF_μ3, by (try dsimp only); (try rw [hr_μ3]); omega⟩
  · intro c2
    rw [ti_le] at c2
    refine ok_gd (inb_iff.mpr (by omega)) ?_
    refine ok_bv (fun μ5 e_μ5 => ?_)
    have hI_μ5 : IX μ5 := by rw [e_μ5]; exact IX_L hI_μ
    have hF_μ5 : Fr [(2, 0, 4)] true μ μ5 := by rw [e_μ5]; exact hF_μ
    have hr_μ5 : μ5.2.2 = μ.2.2 := (by rw [e_μ5]; rfl : μ5.2.2 = μ.2.2).trans hr_μ
    have g6 := rgc_0_4 q0 hI_μ5
    have f7 : (μ5.1 a0 4).toInt = (μ.1 a0 4).toInt := congrArg Int32.toInt ((by rw [e_μ5]; rfl : μ5.1 a0 4 = μ.1 a0 4))
    refine ok_bv (fun μ8 e_μ8 => ?_)
    have hI_μ8 : IX μ8 := by rw [e_μ8]; exact IX_F hI_μ5 (rpc_0_4 q0 (by (try rw [TI.e (e := ((μ5.1 a0 4) + (1 : Int32))) (n := ((μ5.1 a0 4).toInt + 1)) (TI.add TI.rf (TI.lit (by decide)) (by omega) (by omega))]); omega))
    have hF_μ8 : Fr [(2, 0, 4)] true μ μ8 := by rw [e_μ8]; exact Fr.putc (ci := 0) hF_μ5 (by decide +kernel) q0
    have v_μ8 : (μ8.1 a0 4).toInt = ((μ5.1 a0 4).toInt + 1) := by rw [e_μ8, sF_v]; exact TI.e (n := ((μ5.1 a0 4).toInt + 1)) (TI.add TI.rf (TI.lit (by decide)) (by omega) (by omega))
    have hr_μ8 : μ8.2.2 = μ.2.2 := (by rw [e_μ8]; rfl : μ8.2.2 = μ5.2.2).trans hr_μ5
    have g9 := rgc_0_4 q0 hI_μ8
    exact ok_some ⟨hI_μ8, hF_μ8, by (try dsimp only); (try rw [hr_μ8]); omega⟩

set_option maxHeartbeats 4000000 in
set_option maxRecDepth 100000 in
theorem k_X1_put (a0 : Nat) (q0 : sh 0 a0 = (0, 0)) (a1 : Int32) (a2 : Int64) (μ : Mem) (hI_μ : IX μ) : ok (p_X1_put a0 a1 a2 μ) (fun q => IX q.2 ∧ Fr [(3, 0, 2)] true μ q.2) := by
  have li0 : (0 : Int32).toInt = 0 := by decide
  have li1 : (1 : Int32).toInt = 1 := by decide
  have li8 : (8 : Int32).toInt = 8 := by decide
  have hF_μ : Fr [(3, 0, 2)] true μ μ := Fr.rf
  have hr_μ : μ.2.2 = μ.2.2 := rfl
  rw [p_X1_put_eq]
  have lo_a1 := ti_lo a1
  have hi_a1 := ti_hi a1
  refine ok_ite ?_ ?_
  · intro c1
    rw [ti_lt] at c1
    exact ok_some ⟨hI_μ, hF_μ⟩
  · intro c1
    rw [ti_lt] at c1
    refine ok_ite ?_ ?_
    · intro c2
      rw [ti_le] at c2
      exact ok_some ⟨hI_μ, hF_μ⟩
    · intro c2
      rw [ti_le] at c2
      refine ok_gd (inb_iff.mpr (by omega)) ?_
      refine ok_bv (fun μ3 e_μ3 => ?_)
      have hI_μ3 : IX μ3 := by rw [e_μ3]; exact IX_F hI_μ (rtr_0_2 q0 _ _)
      have hF_μ3 : Fr [(3, 0, 2)] true μ μ3 := by rw [e_μ3]; exact Fr.putr (ci := 0) (off := 2) hF_μ (by decide +kernel) q0
      have hr_μ3 : μ3.2.2 = μ.2.2 := (by rw [e_μ3]; rfl : μ3.2.2 = μ.2.2).trans hr_μ
      exact ok_some ⟨hI_μ3, hF_μ3⟩

set_option maxHeartbeats 4000000 in
set_option maxRecDepth 100000 in
theorem k_X1_placeBits (a0 : Nat) (q0 : sh 0 a0 = (0, 0)) (a1 : Int32) (μ : Mem) (hI_μ : IX μ) : ok (p_X1_placeBits a0 a1 μ) (fun q => μ = q.2) := by
  have li0 : (0 : Int32).toInt = 0 := by decide
  have li1 : (1 : Int32).toInt = 1 := by decide
  have li8 : (8 : Int32).toInt = 8 := by decide
  have hF_μ : Fr [] true μ μ := Fr.rf
  have hr_μ : μ.2.2 = μ.2.2 := rfl
  rw [p_X1_placeBits_eq]
  have lo_a1 := ti_lo a1
  have hi_a1 := ti_hi a1
  refine ok_ite ?_ ?_
  · intro c1
    rw [ti_lt] at c1
    exact ok_some rfl
  · intro c1
    rw [ti_lt] at c1
    refine ok_ite ?_ ?_
    · intro c2
      rw [ti_le] at c2
      exact ok_some rfl
    · intro c2
      rw [ti_le] at c2
      refine ok_gd (inb_iff.mpr (by omega)) ?_
      exact ok_some rfl

set_option maxHeartbeats 4000000 in
set_option maxRecDepth 100000 in
theorem k_X1_get (a0 : Nat) (q0 : sh 0 a0 = (0, 0)) (a1 : Int32) (μ : Mem) (hI_μ : IX μ) : ok (p_X1_get a0 a1 μ) (fun q => μ = q.2) := by
  have li0 : (0 : Int32).toInt = 0 := by decide
  have li1 : (1 : Int32).toInt = 1 := by decide
  have li4 : (4 : Int32).toInt = 4 := by decide
  have hF_μ : Fr [] true μ μ := Fr.rf
  have hr_μ : μ.2.2 = μ.2.2 := rfl
  rw [p_X1_get_eq]
  have lo_a1 := ti_lo a1
  have hi_a1 := ti_hi a1
  refine ok_ite ?_ ?_
  · intro c1
    rw [ti_le] at c1
    refine ok_bd (k_X1_placeBits a0 q0 a1 μ hI_μ) ?_
    rintro r3 μ2 hq9
    obtain rfl : μ = μ2 := hq9
    have lo_r3 := ti_lo r3
    have hi_r3 := ti_hi r3
    exact ok_some rfl
  · intro c1
    rw [ti_le] at c1
    refine ok_bd (k_X1_placeBits a0 q0 a1 μ hI_μ) ?_
    rintro r5 μ4 hq9
    obtain rfl : μ = μ4 := hq9
    have lo_r5 := ti_lo r5
    have hi_r5 := ti_hi r5
    exact ok_some rfl

set_option maxHeartbeats 4000000 in
set_option maxRecDepth 100000 in
theorem k_X1_endCall (a0 : Nat) (q0 : sh 0 a0 = (0, 0)) (μ : Mem) (hI_μ : IX μ) : ok (p_X1_endCall a0 μ) (fun q => IX q ∧ Fr [(2, 0, 2)] true μ q) := by
  have li0 : (0 : Int32).toInt = 0 := by decide
  have li1 : (1 : Int32).toInt = 1 := by decide
  have hF_μ : Fr [(2, 0, 2)] true μ μ := Fr.rf
  have hr_μ : μ.2.2 = μ.2.2 := rfl
  rw [p_X1_endCall_eq]
  have g1 := ti_lo (μ.1 a0 2)
  have g1h := ti_hi (μ.1 a0 2)
  refine ok_bv (fun μ2 e_μ2 => ?_)
  have hI_μ2 : IX μ2 := by rw [e_μ2]; exact IX_F hI_μ (rtc_0_2 q0 _)
  have hF_μ2 : Fr [(2, 0, 2)] true μ μ2 := by rw [e_μ2]; exact Fr.putc (ci := 0) hF_μ (by decide +kernel) q0
  have hr_μ2 : μ2.2.2 = μ.2.2 := (by rw [e_μ2]; rfl : μ2.2.2 = μ.2.2).trans hr_μ
  exact ok_some ⟨hI_μ2, hF_μ2⟩

set_option maxHeartbeats 4000000 in
set_option maxRecDepth 100000 in
theorem k_X1_endWith (a0 : Nat) (q0 : sh 0 a0 = (0, 0)) (a2 : Int64) (μ : Mem) (hI_μ : IX μ) : ok (p_X1_endWith a0 a2 μ) (fun q => IX q ∧ Fr [(2, 0, 0), (2, 0, 5), (2, 0, 6), (2, 1, 2)] true μ q) := by
  have li0 : (0 : Int32).toInt = 0 := by decide
  have li1 : (1 : Int32).toInt = 1 := by decide
  have hF_μ : Fr [(2, 0, 0), (2, 0, 5), (2, 0, 6), (2, 1, 2)] true μ μ := Fr.rf
  have hr_μ : μ.2.2 = μ.2.2 := rfl
  rw [p_X1_endWith_eq]
  refine ok_bv (fun μ1 e_μ1 => ?_)
  have hI_μ1 : IX μ1 := by rw [e_μ1]; exact IX_F hI_μ (rtc_0_0 q0 _)
  have hF_μ1 : Fr [(2, 0, 0), (2, 0, 5), (2, 0, 6), (2, 1, 2)] true μ μ1 := by rw [e_μ1]; exact Fr.putc (ci := 0) hF_μ (by decide +kernel) q0
  have v_μ1 : (μ1.1 a0 0).toInt = 0 := by rw [e_μ1, sF_v]; exact TI.e (n := 0) (TI.lit (by decide))
  have hr_μ1 : μ1.2.2 = μ.2.2 := (by rw [e_μ1]; rfl : μ1.2.2 = μ.2.2).trans hr_μ
  refine ok_bd (k_X8_weightOf a2 μ1 hI_μ1) ?_
  rintro r3 μ2 hq9
  obtain rfl : μ1 = μ2 := hq9
  have lo_r3 := ti_lo r3
  have hi_r3 := ti_hi r3
  refine ok_bv (fun μ4 e_μ4 => ?_)
  have hI_μ4 : IX μ4 := by rw [e_μ4]; exact IX_F hI_μ1 (rtc_0_5 q0 _)
  have hF_μ4 : Fr [(2, 0, 0), (2, 0, 5), (2, 0, 6), (2, 1, 2)] true μ μ4 := by rw [e_μ4]; exact Fr.putc (ci := 0) hF_μ1 (by decide +kernel) q0
  have v_μ4 : (μ4.1 a0 5).toInt = r3.toInt := by rw [e_μ4, sF_v]
  have hr_μ4 : μ4.2.2 = μ.2.2 := (by rw [e_μ4]; rfl : μ4.2.2 = μ1.2.2).trans hr_μ1
  refine ok_bd (k_X8_deepOf a2 μ4 hI_μ4) ?_
  rintro r6 μ5 hq9
  obtain rfl : μ4 = μ5 := hq9
  have lo_r6 := ti_lo r6
  have hi_r6 := ti_hi r6
  refine ok_bv (fun μ7 e_μ7 => ?_)
  have hI_μ7 : IX μ7 := by rw [e_μ7]; exact IX_F hI_μ4 (rtc_0_6 q0 _)
  have hF_μ7 : Fr [(2, 0, 0), (2, 0, 5), (2, 0, 6), (2, 1, 2)] true μ μ7 := by rw [e_μ7]; exact Fr.putc (ci := 0) hF_μ4 (by decide +kernel) q0
  have v_μ7 : (μ7.1 a0 6).toInt = r6.toInt := by rw [e_μ7, sF_v]
  have hr_μ7 : μ7.2.2 = μ.2.2 := (by rw [e_μ7]; rfl : μ7.2.2 = μ4.2.2).trans hr_μ4
  refine ok_bw (k_X8_flatten a2 (a0 + 3) (rl_X1_9 q0) μ7 hI_μ7) ?_
  rintro μ8 ⟨hI_μ8, hC_μ8⟩
  have hF_μ8 : Fr [(2, 0, 0), (2, 0, 5), (2, 0, 6), (2, 1, 2)] true μ μ8 := hF_μ7.trans (hC_μ8.mono (by decide +kernel) (by decide))
  have hr_μ8 : μ8.2.2 = μ.2.2 := (hC_μ8.2 rfl : μ8.2.2 = μ7.2.2).trans hr_μ7
  exact ok_some ⟨hI_μ8, hF_μ8⟩

set_option maxHeartbeats 4000000 in
set_option maxRecDepth 100000 in
theorem k_X7_goBack  (μ : Mem) (hI_μ : IX μ) : ok (p_X7_goBack  μ) (fun q => IX q ∧ Fr [(0, 30, 7), (0, 30, 10), (0, 148, 5), (2, 0, 0), (2, 0, 2), (2, 0, 5), (2, 0, 6), (2, 1, 2)] true μ q) := by
  have li0 : (0 : Int32).toInt = 0 := by decide
  have li1 : (1 : Int32).toInt = 1 := by decide
  have hF_μ : Fr [(0, 30, 7), (0, 30, 10), (0, 148, 5), (2, 0, 0), (2, 0, 2), (2, 0, 5), (2, 0, 6), (2, 1, 2)] true μ μ := Fr.rf
  have hr_μ : μ.2.2 = μ.2.2 := rfl
  rw [p_X7_goBack_eq]
  refine ok_bw (k_X1_endCall (sel 0 (μ.2.2 148 4)) (sel_0 _) μ hI_μ) ?_
  rintro μ1 ⟨hI_μ1, hC_μ1⟩
  have hF_μ1 : Fr [(0, 30, 7), (0, 30, 10), (0, 148, 5), (2, 0, 0), (2, 0, 2), (2, 0, 5), (2, 0, 6), (2, 1, 2)] true μ μ1 := hF_μ.trans (hC_μ1.mono (by decide +kernel) (by decide))
  have hr_μ1 : μ1.2.2 = μ.2.2 := (hC_μ1.2 rfl : μ1.2.2 = μ.2.2).trans hr_μ
  try rw [hr_μ1]
  refine ok_bd (k_X8_closeFrame  μ1 hI_μ1) ?_
  rintro r4 μ3 ⟨hI_μ3, hC_μ3⟩
  have hI_μ3 : IX μ3 := hI_μ3
  have hC_μ3 : Fr [(0, 30, 10)] true μ1 μ3 := hC_μ3
  have lo_r4 := ti_lo r4
  have hi_r4 := ti_hi r4
  have hF_μ3 : Fr [(0, 30, 7), (0, 30, 10), (0, 148, 5), (2, 0, 0), (2, 0, 2), (2, 0, 5), (2, 0, 6), (2, 1, 2)] true μ μ3 := hF_μ1.trans (hC_μ3.mono (by decide +kernel) (by decide))
  have hr_μ3 : μ3.2.2 = μ.2.2 := (hC_μ3.2 rfl : μ3.2.2 = μ1.2.2).trans hr_μ1
  try rw [hr_μ3]
  refine ok_bv (fun μ5 e_μ5 => ?_)
  have hI_μ5 : IX μ5 := by rw [e_μ5]; exact IX_F hI_μ3 (rt_148_5 _)
  have hF_μ5 : Fr [(0, 30, 7), (0, 30, 10), (0, 148, 5), (2, 0, 0), (2, 0, 2), (2, 0, 5), (2, 0, 6), (2, 1, 2)] true μ μ5 := by rw [e_μ5]; exact Fr.put hF_μ3 (by decide +kernel)
  have v_μ5 : (μ5.1 148 5).toInt = r4.toInt := by rw [e_μ5, sF_v]
  have hr_μ5 : μ5.2.2 = μ.2.2 := (by rw [e_μ5]; rfl : μ5.2.2 = μ3.2.2).trans hr_μ3
  try rw [hr_μ5]
  have g6 := rg_30_10 hI_μ5
  refine ok_ite ?_ ?_
  · intro c7
    rw [ti_le] at c7
    exact ok_some ⟨hI_μ5, hF_μ5⟩
  · intro c7
    rw [ti_le] at c7
    refine ok_bd (k_X8_pop  μ5 hI_μ5) ?_
    rintro r9 μ8 ⟨hI_μ8, hC_μ8⟩
    have hI_μ8 : IX μ8 := hI_μ8
    have hC_μ8 : Fr [(0, 30, 7)] true μ5 μ8 := hC_μ8
    have hF_μ8 : Fr [(0, 30, 7), (0, 30, 10), (0, 148, 5), (2, 0, 0), (2, 0, 2), (2, 0, 5), (2, 0, 6), (2, 1, 2)] true μ μ8 := hF_μ5.trans (hC_μ8.mono (by decide +kernel) (by decide))
    have hr_μ8 : μ8.2.2 = μ.2.2 := (hC_μ8.2 rfl : μ8.2.2 = μ5.2.2).trans hr_μ5
    try rw [hr_μ8]
    refine ok_bw (k_X1_endWith (sel 0 (μ.2.2 148 4)) (sel_0 _) r9 μ8 hI_μ8) ?_
    rintro μ10 ⟨hI_μ10, hC_μ10⟩
    have hF_μ10 : Fr [(0, 30, 7), (0, 30, 10), (0, 148, 5), (2, 0, 0), (2, 0, 2), (2, 0, 5), (2, 0, 6), (2, 1, 2)] true μ μ10 := hF_μ8.trans (hC_μ10.mono (by decide +kernel) (by decide))
    have hr_μ10 : μ10.2.2 = μ.2.2 := (hC_μ10.2 rfl : μ10.2.2 = μ8.2.2).trans hr_μ8
    try rw [hr_μ10]
    exact ok_some ⟨hI_μ10, hF_μ10⟩
