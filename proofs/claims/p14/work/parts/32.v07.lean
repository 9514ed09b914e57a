set_option maxHeartbeats 4000000 in
set_option maxRecDepth 100000 in
theorem k_X10_begin (a1 : Nat) (q1 : sh 0 a1 = (0, 2)) (a2 : Nat) (q2 : sh 0 a2 = (0, 1)) (μ : Mem) (hI_μ : IX μ) : ok (p_X10_begin a1 a2 μ) (fun q => IX q ∧ Fr [(0, 30, 5), (0, 30, 7), (0, 30, 10), (0, 39, 0), (0, 39, 1), (0, 39, 2), (0, 39, 3), (0, 39, 4), (0, 39, 5), (0, 39, 6), (0, 137, 6), (0, 137, 7), (0, 137, 8), (0, 137, 9), (0, 137, 12), (0, 137, 13), (1, 33, 0), (1, 34, 0), (1, 42, 0), (1, 43, 0), (1, 45, 0), (2, 1, 2), (2, 1, 3)] false μ q) := by
  have lim6 : (-6 : Int32).toInt = -6 := by decide
  have lim1 : (-1 : Int32).toInt = -1 := by decide
  have li0 : (0 : Int32).toInt = 0 := by decide
  have li1 : (1 : Int32).toInt = 1 := by decide
  have hF_μ : Fr [(0, 30, 5), (0, 30, 7), (0, 30, 10), (0, 39, 0), (0, 39, 1), (0, 39, 2), (0, 39, 3), (0, 39, 4), (0, 39, 5), (0, 39, 6), (0, 137, 6), (0, 137, 7), (0, 137, 8), (0, 137, 9), (0, 137, 12), (0, 137, 13), (1, 33, 0), (1, 34, 0), (1, 42, 0), (1, 43, 0), (1, 45, 0), (2, 1, 2), (2, 1, 3)] false μ μ := Fr.rf
  have hr_μ : μ.2.2 = μ.2.2 := rfl
  rw [p_X10_begin_eq]
  refine ok_bv (fun μ1 e_μ1 => ?_)
  have hI_μ1 : IX μ1 := by rw [e_μ1]; exact IX_R hI_μ
  have hF_μ1 : Fr [(0, 30, 5), (0, 30, 7), (0, 30, 10), (0, 39, 0), (0, 39, 1), (0, 39, 2), (0, 39, 3), (0, 39, 4), (0, 39, 5), (0, 39, 6), (0, 137, 6), (0, 137, 7), (0, 137, 8), (0, 137, 9), (0, 137, 12), (0, 137, 13), (1, 33, 0), (1, 34, 0), (1, 42, 0), (1, 43, 0), (1, 45, 0), (2, 1, 2), (2, 1, 3)] false μ μ1 := by rw [e_μ1]; exact ⟨hF_μ.1, fun h9 => absurd h9 (by decide)⟩
  have hr_μ1 : μ1.2.2 = μ1.2.2 := rfl
  refine ok_bw (k_X5_clear  μ1 hI_μ1) ?_
  rintro μ2 ⟨hI_μ2, hC_μ2⟩
  have hF_μ2 : Fr [(0, 30, 5), (0, 30, 7), (0, 30, 10), (0, 39, 0), (0, 39, 1), (0, 39, 2), (0, 39, 3), (0, 39, 4), (0, 39, 5), (0, 39, 6), (0, 137, 6), (0, 137, 7), (0, 137, 8), (0, 137, 9), (0, 137, 12), (0, 137, 13), (1, 33, 0), (1, 34, 0), (1, 42, 0), (1, 43, 0), (1, 45, 0), (2, 1, 2), (2, 1, 3)] false μ μ2 := hF_μ1.trans (hC_μ2.mono (by decide +kernel) (by decide))
  have hr_μ2 : μ2.2.2 = μ1.2.2 := (hC_μ2.2 rfl : μ2.2.2 = μ1.2.2).trans hr_μ1
  try rw [hr_μ2]
  refine ok_bv (fun μ4 e_μ4 => ?_)
  have hI_μ4 : IX μ4 := by rw [e_μ4]; exact IX_F hI_μ2 (rt_137_6 _)
  have hF_μ4 : Fr [(0, 30, 5), (0, 30, 7), (0, 30, 10), (0, 39, 0), (0, 39, 1), (0, 39, 2), (0, 39, 3), (0, 39, 4), (0, 39, 5), (0, 39, 6), (0, 137, 6), (0, 137, 7), (0, 137, 8), (0, 137, 9), (0, 137, 12), (0, 137, 13), (1, 33, 0), (1, 34, 0), (1, 42, 0), (1, 43, 0), (1, 45, 0), (2, 1, 2), (2, 1, 3)] false μ μ4 := by rw [e_μ4]; exact Fr.put hF_μ2 (by decide +kernel)
  have v_μ4 : (μ4.1 137 6).toInt = 0 := by rw [e_μ4, sF_v]; exact TI.e (n := 0) (TI.lit (by decide))
  have hr_μ4 : μ4.2.2 = μ1.2.2 := (by rw [e_μ4]; rfl : μ4.2.2 = μ2.2.2).trans hr_μ2
  try rw [hr_μ4]
  refine ok_bv (fun μ5 e_μ5 => ?_)
  have hI_μ5 : IX μ5 := by rw [e_μ5]; exact IX_F hI_μ4 (rt_137_9 _)
  have hF_μ5 : Fr [(0, 30, 5), (0, 30, 7), (0, 30, 10), (0, 39, 0), (0, 39, 1), (0, 39, 2), (0, 39, 3), (0, 39, 4), (0, 39, 5), (0, 39, 6), (0, 137, 6), (0, 137, 7), (0, 137, 8), (0, 137, 9), (0, 137, 12), (0, 137, 13), (1, 33, 0), (1, 34, 0), (1, 42, 0), (1, 43, 0), (1, 45, 0), (2, 1, 2), (2, 1, 3)] false μ μ5 := by rw [e_μ5]; exact Fr.put hF_μ4 (by decide +kernel)
  have v_μ5 : (μ5.1 137 9).toInt = (-1) := by rw [e_μ5, sF_v]; exact TI.e (n := (-1)) (TI.lit (by decide))
  have hr_μ5 : μ5.2.2 = μ1.2.2 := (by rw [e_μ5]; rfl : μ5.2.2 = μ4.2.2).trans hr_μ4
  try rw [hr_μ5]
  have g6 := ti_lo (μ5.1 a2 3)
  have g6h := ti_hi (μ5.1 a2 3)
  refine ok_bd (k_X3_startOf (sel 2 (μ1.2.2 137 5)) (sel_2 _) (μ5.1 a2 3) μ5 hI_μ5) ?_
  rintro r8 μ7 hq9
  obtain rfl : μ5 = μ7 := hq9
  have lo_r8 := ti_lo r8
  have hi_r8 := ti_hi r8
  try rw [hr_μ5]
  refine ok_ite ?_ ?_
  · intro c9
    rw [ti_eq] at c9
    refine ok_bv (fun μ10 e_μ10 => ?_)
    have hI_μ10 : IX μ10 := by rw [e_μ10]; exact IX_F hI_μ5 (rt_137_6 _)
    have hF_μ10 : Fr [(0, 30, 5), (0, 30, 7), (0, 30, 10), (0, 39, 0), (0, 39, 1), (0, 39, 2), (0, 39, 3), (0, 39, 4), (0, 39, 5), (0, 39, 6), (0, 137, 6), (0, 137, 7), (0, 137, 8), (0, 137, 9), (0, 137, 12), (0, 137, 13), (1, 33, 0), (1, 34, 0), (1, 42, 0), (1, 43, 0), (1, 45, 0), (2, 1, 2), (2, 1, 3)] false μ μ10 := by rw [e_μ10]; exact Fr.put hF_μ5 (by decide +kernel)
    have v_μ10 : (μ10.1 137 6).toInt = (-6) := by rw [e_μ10, sF_v]; exact TI.e (n := (-6)) (TI.lit (by decide))
    have hr_μ10 : μ10.2.2 = μ1.2.2 := (by rw [e_μ10]; rfl : μ10.2.2 = μ5.2.2).trans hr_μ5
    try rw [hr_μ10]
    exact ok_some ⟨hI_μ10, hF_μ10⟩
  · intro c9
    rw [ti_eq] at c9
    refine ok_bd (k_X5_addVariant a2 q2 (-1 : Int32) μ5 hI_μ5) ?_
    rintro r12 μ11 ⟨hI_μ11, hC_μ11⟩
    have hI_μ11 : IX μ11 := hI_μ11
    have hC_μ11 : Fr [(0, 39, 2), (1, 45, 0), (2, 1, 2), (2, 1, 3)] true μ5 μ11 := hC_μ11
    have lo_r12 := ti_lo r12
    have hi_r12 := ti_hi r12
    have hF_μ11 : Fr [(0, 30, 5), (0, 30, 7), (0, 30, 10), (0, 39, 0), (0, 39, 1), (0, 39, 2), (0, 39, 3), (0, 39, 4), (0, 39, 5), (0, 39, 6), (0, 137, 6), (0, 137, 7), (0, 137, 8), (0, 137, 9), (0, 137, 12), (0, 137, 13), (1, 33, 0), (1, 34, 0), (1, 42, 0), (1, 43, 0), (1, 45, 0), (2, 1, 2), (2, 1, 3)] false μ μ11 := hF_μ5.trans (hC_μ11.mono (by decide +kernel) (by decide))
    have hr_μ11 : μ11.2.2 = μ1.2.2 := (hC_μ11.2 rfl : μ11.2.2 = μ5.2.2).trans hr_μ5
    try rw [hr_μ11]
    refine ok_bw (k_X10_beginVariant (0 : Int32) μ11 hI_μ11) ?_
    rintro μ13 ⟨hI_μ13, hC_μ13⟩
    have hF_μ13 : Fr [(0, 30, 5), (0, 30, 7), (0, 30, 10), (0, 39, 0), (0, 39, 1), (0, 39, 2), (0, 39, 3), (0, 39, 4), (0, 39, 5), (0, 39, 6), (0, 137, 6), (0, 137, 7), (0, 137, 8), (0, 137, 9), (0, 137, 12), (0, 137, 13), (1, 33, 0), (1, 34, 0), (1, 42, 0), (1, 43, 0), (1, 45, 0), (2, 1, 2), (2, 1, 3)] false μ μ13 := hF_μ11.trans (hC_μ13.mono (by decide +kernel) (by decide))
    have hr_μ13 : μ13.2.2 = μ1.2.2 := (hC_μ13.2 rfl : μ13.2.2 = μ11.2.2).trans hr_μ11
    try rw [hr_μ13]
    exact ok_some ⟨hI_μ13, hF_μ13⟩

set_option maxHeartbeats 4000000 in
set_option maxRecDepth 100000 in
theorem k_X10_isWorking  (μ : Mem) (hI_μ : IX μ) : ok (p_X10_isWorking  μ) (fun q => μ = q.2 ∧ ((q.1).toInt = 0 ∨ (q.1).toInt = 1)) := by
  have li0 : (0 : Int32).toInt = 0 := by decide
  have li1 : (1 : Int32).toInt = 1 := by decide
  have hF_μ : Fr [] true μ μ := Fr.rf
  have hr_μ : μ.2.2 = μ.2.2 := rfl
  rw [p_X10_isWorking_eq]
  have g1 := ti_lo (μ.1 137 6)
  have g1h := ti_hi (μ.1 137 6)
  refine ok_ite ?_ ?_
  · intro c2
    rw [ti_eq] at c2
    have g3 := ti_lo (μ.1 137 7)
    have g3h := ti_hi (μ.1 137 7)
    have g4 := rg_39_2 hI_μ
    refine ok_ite ?_ ?_
    · intro c5
      rw [ti_le] at c5
      exact ok_some ⟨rfl, by (try dsimp only); omega⟩
    · intro c5
      rw [ti_le] at c5
      exact ok_some ⟨rfl, by (try dsimp only); omega⟩
  · intro c2
    rw [ti_eq] at c2
    exact ok_some ⟨rfl, by (try dsimp only); omega⟩

set_option maxHeartbeats 4000000 in
set_option maxRecDepth 100000 in
theorem k_X3_stepAt (a0 : Nat) (q0 : sh 0 a0 = (0, 2)) (a1 : Int32) (μ : Mem) (hI_μ : IX μ) : ok (p_X3_stepAt a0 a1 μ) (fun q => μ = q.2 ∧ (((q.1).toInt ≠ 13 ∨ (0 ≤ (μ.1 (a0 + 6) (a1).toNatClampNeg).toInt ∧ (μ.1 (a0 + 6) (a1).toNatClampNeg).toInt ≤ 5)))) := by
  have li0 : (0 : Int32).toInt = 0 := by decide
  have li1 : (1 : Int32).toInt = 1 := by decide
  have li14 : (14 : Int32).toInt = 14 := by decide
  have hF_μ : Fr [] true μ μ := Fr.rf
  have hr_μ : μ.2.2 = μ.2.2 := rfl
  rw [p_X3_stepAt_eq]
  have lo_a1 := ti_lo a1
  have hi_a1 := ti_hi a1
  refine ok_ite ?_ ?_
  · intro c1
    rw [ti_lt] at c1
    have px := hI_μ.2 a0 q0 (a1).toNatClampNeg
    exact ok_some ⟨rfl, by (try dsimp only); omega⟩
  · intro c1
    rw [ti_lt] at c1
    have g2 := rgc_2_2 q0 hI_μ
    refine ok_ite ?_ ?_
    · intro c3
      rw [ti_le] at c3
      have px := hI_μ.2 a0 q0 (a1).toNatClampNeg
      exact ok_some ⟨rfl, by (try dsimp only); omega⟩
    · intro c3
      rw [ti_le] at c3
      refine ok_gd (inb_iff.mpr (by omega)) ?_
      have px := hI_μ.2 a0 q0 (a1).toNatClampNeg
      exact ok_some ⟨rfl, by (try dsimp only); omega⟩

set_option maxHeartbeats 4000000 in
set_option maxRecDepth 100000 in
theorem k_X3_markAt (a0 : Nat) (q0 : sh 0 a0 = (0, 2)) (a1 : Int32) (μ : Mem) (hI_μ : IX μ) : ok (p_X3_markAt a0 a1 μ) (fun q => μ = q.2) := by
  have li0 : (0 : Int32).toInt = 0 := by decide
  have li1 : (1 : Int32).toInt = 1 := by decide
  have hF_μ : Fr [] true μ μ := Fr.rf
  have hr_μ : μ.2.2 = μ.2.2 := rfl
  rw [p_X3_markAt_eq]
  have lo_a1 := ti_lo a1
  have hi_a1 := ti_hi a1
  refine ok_ite ?_ ?_
  · intro c1
    rw [ti_lt] at c1
    exact ok_some rfl
  · intro c1
    rw [ti_lt] at c1
    have g2 := rgc_2_2 q0 hI_μ
    refine ok_ite ?_ ?_
    · intro c3
      rw [ti_le] at c3
      exact ok_some rfl
    · intro c3
      rw [ti_le] at c3
      refine ok_gd (inb_iff.mpr (by omega)) ?_
      exact ok_some rfl

set_option maxHeartbeats 4000000 in
set_option maxRecDepth 100000 in
theorem k_X3_bitsAt (a0 : Nat) (q0 : sh 0 a0 = (0, 2)) (a1 : Int32) (μ : Mem) (hI_μ : IX μ) : ok (p_X3_bitsAt a0 a1 μ) (fun q => μ = q.2 ∧ (((q.1).toInt = (μ.1 (a0 + 6) (a1).toNatClampNeg).toInt ∨ (q.1).toInt = 0))) := by
  have li0 : (0 : Int32).toInt = 0 := by decide
  have li1 : (1 : Int32).toInt = 1 := by decide
  have hF_μ : Fr [] true μ μ := Fr.rf
  have hr_μ : μ.2.2 = μ.2.2 := rfl
  rw [p_X3_bitsAt_eq]
  have lo_a1 := ti_lo a1
  have hi_a1 := ti_hi a1
  refine ok_ite ?_ ?_
  · intro c1
    rw [ti_lt] at c1
    exact ok_some ⟨rfl, by (try dsimp only); omega⟩
  · intro c1
    rw [ti_lt] at c1
    have g2 := rgc_2_2 q0 hI_μ
    refine ok_ite ?_ ?_
    · intro c3
      rw [ti_le] at c3
      exact ok_some ⟨rfl, by (try dsimp only); omega⟩
    · intro c3
      rw [ti_le] at c3
      refine ok_gd (inb_iff.mpr (by omega)) ?_
      exact ok_some ⟨rfl, by (try dsimp only); omega⟩

set_option maxHeartbeats 4000000 in
set_option maxRecDepth 100000 in
theorem k_X8_push (a1 : Int64) (μ : Mem) (hI_μ : IX μ) : ok (p_X8_push a1 μ) (fun q => IX q ∧ Fr [(0, 30, 7)] true μ q) := by
  have li0 : (0 : Int32).toInt = 0 := by decide
  have li1 : (1 : Int32).toInt = 1 := by decide
  have li2480 : (2480 : Int32).toInt = 2480 := by decide
  have hF_μ : Fr [(0, 30, 7)] true μ μ := Fr.rf
  have hr_μ : μ.2.2 = μ.2.2 := rfl
  rw [p_X8_push_eq]
  have g1 := rg_30_7 hI_μ
  refine ok_ite ?_ ?_
  · intro c2
    rw [ti_le] at c2
    exact ok_some ⟨hI_μ, hF_μ⟩
  · intro c2
    rw [ti_le] at c2
    refine ok_gd (inb_iff.mpr (by omega)) ?_
    refine ok_bv (fun μ3 e_μ3 => ?_)
    have hI_μ3 : IX μ3 := by rw [e_μ3]; exact IX_L hI_μ
    have hF_μ3 : Fr [(0, 30, 7)] true μ μ3 := by rw [e_μ3]; exact hF_μ
    have hr_μ3 : μ3.2.2 = μ.2.2 := (by rw [e_μ3]; rfl : μ3.2.2 = μ.2.2).trans hr_μ
    have g4 := rg_30_7 hI_μ3
    have f5 : (μ3.1 30 7).toInt = (μ.1 30 7).toInt := congrArg Int32.toInt ((by rw [e_μ3]; rfl : μ3.1 30 7 = μ.1 30 7))
    refine ok_bv (fun μ6 e_μ6 => ?_)
    have hI_μ6 : IX μ6 := by rw [e_μ6]; exact IX_F hI_μ3 (rp_30_7 (by (try rw [TI.e (e := ((μ3.1 30 7) + (1 : Int32))) (n := ((μ3.1 30 7).toInt + 1)) (TI.add TI.rf (TI.lit (by decide)) (by omega) (by omega))]); omega))
    have hF_μ6 : Fr [(0, 30, 7)] true μ μ6 := by rw [e_μ6]; exact Fr.put hF_μ3 (by decide +kernel)
    have v_μ6 : (μ6.1 30 7).toInt = ((μ3.1 30 7).toInt + 1) := by rw [e_μ6, sF_v]; exact TI.e (n := ((μ3.1 30 7).toInt + 1)) (TI.add TI.rf (TI.lit (by decide)) (by omega) (by omega))
    have hr_μ6 : μ6.2.2 = μ.2.2 := (by rw [e_μ6]; rfl : μ6.2.2 = μ3.2.2).trans hr_μ3
    exact ok_some ⟨hI_μ6, hF_μ6⟩

set_option maxHeartbeats 4000000 in
set_option maxRecDepth 100000 in
theorem k_X8_varAt (a1 : Int32) (μ : Mem) (hI_μ : IX μ) : ok (p_X8_varAt a1 μ) (fun q => μ = q.2) := by
  have li0 : (0 : Int32).toInt = 0 := by decide
  have li1 : (1 : Int32).toInt = 1 := by decide
  have li32 : (32 : Int32).toInt = 32 := by decide
  have li992 : (992 : Int32).toInt = 992 := by decide
  have hF_μ : Fr [] true μ μ := Fr.rf
  have hr_μ : μ.2.2 = μ.2.2 := rfl
  rw [p_X8_varAt_eq]
  have lo_a1 := ti_lo a1
  have hi_a1 := ti_hi a1
  have g1 := rg_30_10 hI_μ
  refine ok_bv (fun v2 ev2 => ?_)
  first | have tv2 : v2.toInt = (((μ.1 30 10).toInt * 32) + a1.toInt) := (congrArg Int32.toInt ev2).trans (TI.e (n := (((μ.1 30 10).toInt * 32) + a1.toInt)) (TI.add (TI.mul TI.rf (TI.lit (by decide)) (by omega) (by omega)) TI.rf (by omega) (by omega))) | skip
  refine ok_ite ?_ ?_
  · intro c3
    rw [ti_lt] at c3
    exact ok_some rfl
  · intro c3
    rw [ti_lt] at c3
    refine ok_ite ?_ ?_
    · intro c4
      rw [ti_le] at c4
      exact ok_some rfl
    · intro c4
      rw [ti_le] at c4
      refine ok_gd (inb_iff.mpr (by omega)) ?_
      exact ok_some rfl

set_option maxHeartbeats 4000000 in
set_option maxRecDepth 100000 in
theorem k_X8_pop  (μ : Mem) (hI_μ : IX μ) : ok (p_X8_pop  μ) (fun q => IX q.2 ∧ Fr [(0, 30, 7)] true μ q.2) := by
  have li0 : (0 : Int32).toInt = 0 := by decide
  have li1 : (1 : Int32).toInt = 1 := by decide
  have hF_μ : Fr [(0, 30, 7)] true μ μ := Fr.rf
  have hr_μ : μ.2.2 = μ.2.2 := rfl
  rw [p_X8_pop_eq]
  have g1 := rg_30_7 hI_μ
  refine ok_ite ?_ ?_
  · intro c2
    rw [ti_le] at c2
    refine ok_bv (fun μ3 e_μ3 => ?_)
    have hI_μ3 : IX μ3 := by rw [e_μ3]; exact IX_F hI_μ (rp_30_7 (by (try rw [TI.e (e := ((μ.1 30 7) - (1 : Int32))) (n := ((μ.1 30 7).toInt - 1)) (TI.sub TI.rf (TI.lit (by decide)) (by omega) (by omega))]); omega))
    have hF_μ3 : Fr [(0, 30, 7)] true μ μ3 := by rw [e_μ3]; exact Fr.put hF_μ (by decide +kernel)
    have v_μ3 : (μ3.1 30 7).toInt = ((μ.1 30 7).toInt - 1) := by rw [e_μ3, sF_v]; exact TI.e (n := ((μ.1 30 7).toInt - 1)) (TI.sub TI.rf (TI.lit (by decide)) (by omega) (by omega))
    have hr_μ3 : μ3.2.2 = μ.2.2 := (by rw [e_μ3]; rfl : μ3.2.2 = μ.2.2).trans hr_μ
    have g4 := rg_30_7 hI_μ3
    refine ok_gd (inb_iff.mpr (by omega)) ?_
    exact ok_some ⟨hI_μ3, hF_μ3⟩
  · intro c2
    rw [ti_le] at c2
    exact ok_some ⟨hI_μ, hF_μ⟩

set_option maxHeartbeats 4000000 in
set_option maxRecDepth 100000 in
theorem k_X8_firstOf (a1 : Int64) (μ : Mem) (hI_μ : IX μ) : ok (p_X8_firstOf a1 μ) (fun q => μ = q.2) := by
  have li0 : (0 : Int32).toInt = 0 := by decide
  have li1 : (1 : Int32).toInt = 1 := by decide
  have hF_μ : Fr [] true μ μ := Fr.rf
  have hr_μ : μ.2.2 = μ.2.2 := rfl
  rw [p_X8_firstOf_eq]
  have g3 := rg_30_5 hI_μ
  refine ok_bd (k_X8_isPair a1 μ hI_μ) ?_
  rintro r2 μ1 ⟨hq9, p_r2⟩
  obtain rfl : μ = μ1 := hq9
  dsimp only at p_r2
  have lo_r2 := ti_lo r2
  have hi_r2 := ti_hi r2
  refine ok_ite ?_ ?_
  · intro c4
    rw [ti_eq] at c4
    exact ok_some rfl
  · intro c4
    rw [ti_eq] at c4
    refine ok_gd (inb_iff.mpr (by (try rw [TI.e (e := (s_X0_bits a1)) (n := (a1.toInt32).toInt) (TI.bits a1)]); omega)) ?_
    exact ok_some rfl

set_option maxHeartbeats 4000000 in
set_option maxRecDepth 100000 in
theorem k_X8_num_b5 : ∀ (n : Nat) (a3 : Int64) (a5 : Int32) (μ : Mem), IX μ → (0 ≤ (a5).toInt ∧ (a5).toInt ≤ 64 ∧ 64 - (a5).toInt < n) → ok (p_X8_num_b5 n a3 a5 μ) (fun q => μ = q.2) := by
  have li0 : (0 : Int32).toInt = 0 := by decide
  have li1 : (1 : Int32).toInt = 1 := by decide
  have li64 : (64 : Int32).toInt = 64 := by decide
  intro n
  induction n with
  | zero => intro a3 a5 μ hI_μ hc; exact absurd hc (by have lo_a5 := ti_lo a5; have hi_a5 := ti_hi a5; omega)
  | succ n ih =>
    intro a3 a5 μ hI_μ hc
    have hF_μ : Fr [] true μ μ := Fr.rf
    have hr_μ : μ.2.2 = μ.2.2 := rfl
    rw [p_X8_num_b5_s]
    have lo_a5 := ti_lo a5
    have hi_a5 := ti_hi a5
    refine ok_ite ?_ ?_
    · intro c1
      rw [ti_le] at c1
      exact ok_some rfl
    · intro c1
      rw [ti_le] at c1
      have g4 := rg_30_5 hI_μ
      refine ok_bd (k_X8_isPair a3 μ hI_μ) ?_
      rintro r3 μ2 ⟨hq9, p_r3⟩
      obtain rfl : μ = μ2 := hq9
      dsimp only at p_r3
      have lo_r3 := ti_lo r3
      have hi_r3 := ti_hi r3
      refine ok_ite ?_ ?_
      · intro c5
        rw [ti_eq] at c5
        exact ok_some rfl
      · intro c5
        rw [ti_eq] at c5
        refine ok_bd (k_X8_firstOf a3 μ hI_μ) ?_
        rintro r7 μ6 hq9
        obtain rfl : μ = μ6 := hq9
        refine ok_bv (fun v8 ev8 => ?_)
        first | have tv8 : v8.toInt = (a5.toInt + 1) := (congrArg Int32.toInt ev8).trans (TI.e (n := (a5.toInt + 1)) (TI.add TI.rf (TI.lit (by decide)) (by omega) (by omega))) | have tv8 : v8.toInt ≤ a5.toInt + 1 := by rw [ev8]; exact ti_inc _ | skip
        exact ok_mono (ih r7 v8 μ hI_μ (by omega)) (fun q h => h)
set_option maxHeartbeats 4000000 in
set_option maxRecDepth 100000 in
theorem k_X8_num (a1 : Int64) (μ : Mem) (hI_μ : IX μ) : ok (p_X8_num a1 μ) (fun q => μ = q.2) := by
  have li0 : (0 : Int32).toInt = 0 := by decide
  have li1 : (1 : Int32).toInt = 1 := by decide
  have hF_μ : Fr [] true μ μ := Fr.rf
  have hr_μ : μ.2.2 = μ.2.2 := rfl
  rw [p_X8_num_eq]
  obtain ⟨fu, hfu0, hfu⟩ := fuel_ex
  rw [hfu0]
  exact ok_mono (k_X8_num_b5  fu a1 (0 : Int32) μ hI_μ (by omega)) (fun q h => h)

set_option maxHeartbeats 4000000 in
set_option maxRecDepth 100000 in
theorem k_X8_popNum  (μ : Mem) (hI_μ : IX μ) : ok (p_X8_popNum  μ) (fun q => IX q.2 ∧ Fr [(0, 30, 7)] true μ q.2) := by
  have li0 : (0 : Int32).toInt = 0 := by decide
  have li1 : (1 : Int32).toInt = 1 := by decide
  have hF_μ : Fr [(0, 30, 7)] true μ μ := Fr.rf
  have hr_μ : μ.2.2 = μ.2.2 := rfl
  rw [p_X8_popNum_eq]
  refine ok_bd (k_X8_pop  μ hI_μ) ?_
  rintro r2 μ1 ⟨hI_μ1, hC_μ1⟩
  have hI_μ1 : IX μ1 := hI_μ1
  have hC_μ1 : Fr [(0, 30, 7)] true μ μ1 := hC_μ1
  have hF_μ1 : Fr [(0, 30, 7)] true μ μ1 := hF_μ.trans (hC_μ1.mono (by decide +kernel) (by decide))
  have hr_μ1 : μ1.2.2 = μ.2.2 := (hC_μ1.2 rfl : μ1.2.2 = μ.2.2).trans hr_μ
  refine ok_bd (k_X8_num r2 μ1 hI_μ1) ?_
  rintro r4 μ3 hq9
  obtain rfl : μ1 = μ3 := hq9
  exact ok_some ⟨hI_μ1, hF_μ1⟩

set_option maxHeartbeats 4000000 in
set_option maxRecDepth 100000 in
theorem k_X5_addInstruction_b182 (a4 : Int32) (a6 : Int32) (μ : Mem) (hI_μ : IX μ) (hc : 0 ≤ (a4).toInt ∧ (a4).toInt < 672 ∧ 0 ≤ (a6).toInt ∧ (a6).toInt < 300) : ok (p_X5_addInstruction_b182 a4 a6 μ) (fun q => IX q.2 ∧ Fr [(0, 39, 1), (1, 40, 0), (1, 42, 0), (1, 43, 0), (1, 45, 0)] true μ q.2) := by
  have lim1 : (-1 : Int32).toInt = -1 := by decide
  have li0 : (0 : Int32).toInt = 0 := by decide
  have li1 : (1 : Int32).toInt = 1 := by decide
  have li5 : (5 : Int32).toInt = 5 := by decide
  have li8 : (8 : Int32).toInt = 8 := by decide
  have hF_μ : Fr [(0, 39, 1), (1, 40, 0), (1, 42, 0), (1, 43, 0), (1, 45, 0)] true μ μ := Fr.rf
  have hr_μ : μ.2.2 = μ.2.2 := rfl
  rw [p_X5_addInstruction_b182_eq]
  have lo_a4 := ti_lo a4
  have hi_a4 := ti_hi a4
  have lo_a6 := ti_lo a6
  have hi_a6 := ti_hi a6
  refine ok_gd (inb_iff.mpr (by omega)) ?_
  have g16 := rg_43 hI_μ a4.toNatClampNeg
  refine ok_bv (fun v17 ev17 => ?_)
  have tv17 : v17.toInt = (μ.1 43 a4.toNatClampNeg).toInt := congrArg Int32.toInt ev17
  refine ok_ite ?_ ?_
  · intro c18
    rw [ti_eq] at c18
    refine ok_gd (inb_iff.mpr (by omega)) ?_
    refine ok_bv (fun μ19 e_μ19 => ?_)
    have hI_μ19 : IX μ19 := by rw [e_μ19]; exact IX_F hI_μ (rta_42 _ _)
    have hF_μ19 : Fr [(0, 39, 1), (1, 40, 0), (1, 42, 0), (1, 43, 0), (1, 45, 0)] true μ μ19 := by rw [e_μ19]; exact Fr.puta hF_μ (by decide +kernel)
    have hr_μ19 : μ19.2.2 = μ.2.2 := (by rw [e_μ19]; rfl : μ19.2.2 = μ.2.2).trans hr_μ
    refine ok_gd (inb_iff.mpr (by omega)) ?_
    refine ok_bv (fun μ20 e_μ20 => ?_)
    have hI_μ20 : IX μ20 := by rw [e_μ20]; exact IX_F hI_μ19 (rp_43 (by omega))
    have hF_μ20 : Fr [(0, 39, 1), (1, 40, 0), (1, 42, 0), (1, 43, 0), (1, 45, 0)] true μ μ20 := by rw [e_μ20]; exact Fr.puta hF_μ19 (by decide +kernel)
    have hr_μ20 : μ20.2.2 = μ.2.2 := (by rw [e_μ20]; rfl : μ20.2.2 = μ19.2.2).trans hr_μ19
    exact ok_some ⟨hI_μ20, hF_μ20⟩
  · intro c18
    rw [ti_eq] at c18
    refine ok_gd (inb_iff.mpr (by (try rw [TI.e (e := ((v17 * (8 : Int32)) + (5 : Int32))) (n := ((v17.toInt * 8) + 5)) (TI.add (TI.mul TI.rf (TI.lit (by decide)) (by omega) (by omega)) (TI.lit (by decide)) (by omega) (by omega))]); omega)) ?_
    refine ok_bv (fun μ21 e_μ21 => ?_)
    have hI_μ21 : IX μ21 := by rw [e_μ21]; exact IX_F hI_μ (rta_40 _ _)
    have hF_μ21 : Fr [(0, 39, 1), (1, 40, 0), (1, 42, 0), (1, 43, 0), (1, 45, 0)] true μ μ21 := by rw [e_μ21]; exact Fr.puta hF_μ (by decide +kernel)
    have hr_μ21 : μ21.2.2 = μ.2.2 := (by rw [e_μ21]; rfl : μ21.2.2 = μ.2.2).trans hr_μ
    refine ok_gd (inb_iff.mpr (by omega)) ?_
    refine ok_bv (fun μ22 e_μ22 => ?_)
    have hI_μ22 : IX μ22 := by rw [e_μ22]; exact IX_F hI_μ21 (rp_43 (by omega))
    have hF_μ22 : Fr [(0, 39, 1), (1, 40, 0), (1, 42, 0), (1, 43, 0), (1, 45, 0)] true μ μ22 := by rw [e_μ22]; exact Fr.puta hF_μ21 (by decide +kernel)
    have hr_μ22 : μ22.2.2 = μ.2.2 := (by rw [e_μ22]; rfl : μ22.2.2 = μ21.2.2).trans hr_μ21
    exact ok_some ⟨hI_μ22, hF_μ22⟩
set_option maxHeartbeats 4000000 in
set_option maxRecDepth 100000 in
theorem k_X5_addInstruction_b76 : ∀ (n : Nat) (a1 : Int32) (a2 : Int32) (a3 : Int32) (a4 : Int32) (a6 : Int32) (a7 : Int32) (a8 : Int32) (μ : Mem), IX μ → (0 ≤ (a8).toInt ∧ (a8).toInt ≤ 8 ∧ 0 ≤ (a6).toInt ∧ (a6).toInt < 300 ∧ (a7).toInt = (a6).toInt * 8 ∧ 0 ≤ (a4).toInt ∧ (a4).toInt < 672 ∧ 0 ≤ (a3).toInt ∧ (a3).toInt < 24 ∧ 8 - (a8).toInt < n) → ok (p_X5_addInstruction_b76 n a1 a2 a3 a4 a6 a7 a8 μ) (fun q => IX q.2 ∧ Fr [(0, 39, 1), (1, 40, 0), (1, 42, 0), (1, 43, 0), (1, 45, 0)] true μ q.2) := by
  have lim1 : (-1 : Int32).toInt = -1 := by decide
  have li0 : (0 : Int32).toInt = 0 := by decide
  have li1 : (1 : Int32).toInt = 1 := by decide
  have li2 : (2 : Int32).toInt = 2 := by decide
  have li4 : (4 : Int32).toInt = 4 := by decide
  have li6 : (6 : Int32).toInt = 6 := by decide
  have li7 : (7 : Int32).toInt = 7 := by decide
  have li8 : (8 : Int32).toInt = 8 := by decide
  intro n
  induction n with
  | zero => intro a1 a2 a3 a4 a6 a7 a8 μ hI_μ hc; exact absurd hc (by have lo_a1 := ti_lo a1; have hi_a1 := ti_hi a1; have lo_a2 := ti_lo a2; have hi_a2 := ti_hi a2; have lo_a3 := ti_lo a3; have hi_a3 := ti_hi a3; have lo_a4 := ti_lo a4; have hi_a4 := ti_hi a4; have lo_a6 := ti_lo a6; have hi_a6 := ti_hi a6; have lo_a7 := ti_lo a7; have hi_a7 := ti_hi a7; have lo_a8 := ti_lo a8; have hi_a8 := ti_hi a8; omega)
  | succ n ih =>
    intro a1 a2 a3 a4 a6 a7 a8 μ hI_μ hc
    have hF_μ : Fr [(0, 39, 1), (1, 40, 0), (1, 42, 0), (1, 43, 0), (1, 45, 0)] true μ μ := Fr.rf
    have hr_μ : μ.2.2 = μ.2.2 := rfl
    rw [p_X5_addInstruction_b76_s]
    have lo_a1 := ti_lo a1
    have hi_a1 := ti_hi a1
    have lo_a2 := ti_lo a2
    have hi_a2 := ti_hi a2
    have lo_a3 := ti_lo a3
    have hi_a3 := ti_hi a3
    have lo_a4 := ti_lo a4
    have hi_a4 := ti_hi a4
    have lo_a6 := ti_lo a6
    have hi_a6 := ti_hi a6
    have lo_a7 := ti_lo a7
    have hi_a7 := ti_hi a7
    have lo_a8 := ti_lo a8
    have hi_a8 := ti_hi a8
    refine ok_ite ?_ ?_
    · intro c10
      rw [ti_le] at c10
      refine ok_gd (inb_iff.mpr (by (try rw [TI.e (e := (a7 + (0 : Int32))) (n := (a7.toInt + 0)) (TI.add TI.rf (TI.lit (by decide)) (by omega) (by omega))]); omega)) ?_
      refine ok_bv (fun μ11 e_μ11 => ?_)
      have hI_μ11 : IX μ11 := by rw [e_μ11]; exact IX_F hI_μ (rta_40 _ _)
      have hF_μ11 : Fr [(0, 39, 1), (1, 40, 0), (1, 42, 0), (1, 43, 0), (1, 45, 0)] true μ μ11 := by rw [e_μ11]; exact Fr.puta hF_μ (by decide +kernel)
      have hr_μ11 : μ11.2.2 = μ.2.2 := (by rw [e_μ11]; rfl : μ11.2.2 = μ.2.2).trans hr_μ
      refine ok_gd (inb_iff.mpr (by (try rw [TI.e (e := (a7 + (2 : Int32))) (n := (a7.toInt + 2)) (TI.add TI.rf (TI.lit (by decide)) (by omega) (by omega))]); omega)) ?_
      refine ok_bv (fun μ12 e_μ12 => ?_)
      have hI_μ12 : IX μ12 := by rw [e_μ12]; exact IX_F hI_μ11 (rta_40 _ _)
      have hF_μ12 : Fr [(0, 39, 1), (1, 40, 0), (1, 42, 0), (1, 43, 0), (1, 45, 0)] true μ μ12 := by rw [e_μ12]; exact Fr.puta hF_μ11 (by decide +kernel)
      have hr_μ12 : μ12.2.2 = μ.2.2 := (by rw [e_μ12]; rfl : μ12.2.2 = μ11.2.2).trans hr_μ11
      refine ok_gd (inb_iff.mpr (by (try rw [TI.e (e := (a7 + (6 : Int32))) (n := (a7.toInt + 6)) (TI.add TI.rf (TI.lit (by decide)) (by omega) (by omega))]); omega)) ?_
      refine ok_bv (fun μ13 e_μ13 => ?_)
      have hI_μ13 : IX μ13 := by rw [e_μ13]; exact IX_F hI_μ12 (rta_40 _ _)
      have hF_μ13 : Fr [(0, 39, 1), (1, 40, 0), (1, 42, 0), (1, 43, 0), (1, 45, 0)] true μ μ13 := by rw [e_μ13]; exact Fr.puta hF_μ12 (by decide +kernel)
      have hr_μ13 : μ13.2.2 = μ.2.2 := (by rw [e_μ13]; rfl : μ13.2.2 = μ12.2.2).trans hr_μ12
      refine ok_gd (inb_iff.mpr (by (try rw [TI.e (e := (a7 + (7 : Int32))) (n := (a7.toInt + 7)) (TI.add TI.rf (TI.lit (by decide)) (by omega) (by omega))]); omega)) ?_
      refine ok_bv (fun μ14 e_μ14 => ?_)
      have hI_μ14 : IX μ14 := by rw [e_μ14]; exact IX_F hI_μ13 (rta_40 _ _)
      have hF_μ14 : Fr [(0, 39, 1), (1, 40, 0), (1, 42, 0), (1, 43, 0), (1, 45, 0)] true μ μ14 := by rw [e_μ14]; exact Fr.puta hF_μ13 (by decide +kernel)
      have hr_μ14 : μ14.2.2 = μ.2.2 := (by rw [e_μ14]; rfl : μ14.2.2 = μ13.2.2).trans hr_μ13
      refine ok_ite ?_ ?_
      · intro c15
        rw [ti_eq] at c15
        exact ok_mono (k_X5_addInstruction_b182  a4 a6 μ14 hI_μ14 (by (try rw [hr_μ14]); omega)) (fun q h => ⟨h.1, hF_μ14.trans h.2⟩)
      · intro c15
        rw [ti_eq] at c15
        refine ok_bv (fun v23 ev23 => ?_)
        first | have tv23 : v23.toInt = ((a3.toInt * 4) + 2) := (congrArg Int32.toInt ev23).trans (TI.e (n := ((a3.toInt * 4) + 2)) (TI.add (TI.mul TI.rf (TI.lit (by decide)) (by omega) (by omega)) (TI.lit (by decide)) (by omega) (by omega))) | skip
        refine ok_gd (inb_iff.mpr (by omega)) ?_
        refine ok_gd (inb_iff.mpr (by (try rw [TI.e (e := (a7 + (1 : Int32))) (n := (a7.toInt + 1)) (TI.add TI.rf (TI.lit (by decide)) (by omega) (by omega))]); omega)) ?_
        refine ok_bv (fun μ24 e_μ24 => ?_)
        have hI_μ24 : IX μ24 := by rw [e_μ24]; exact IX_F hI_μ14 (rta_40 _ _)
        have hF_μ24 : Fr [(0, 39, 1), (1, 40, 0), (1, 42, 0), (1, 43, 0), (1, 45, 0)] true μ μ24 := by rw [e_μ24]; exact Fr.puta hF_μ14 (by decide +kernel)
        have hr_μ24 : μ24.2.2 = μ.2.2 := (by rw [e_μ24]; rfl : μ24.2.2 = μ14.2.2).trans hr_μ14
        refine ok_gd (inb_iff.mpr (by omega)) ?_
        have f25 : (μ24.1 45 v23.toNatClampNeg).toInt = (μ14.1 45 v23.toNatClampNeg).toInt := congrArg Int32.toInt ((by rw [e_μ24]; rfl : μ24.1 45 v23.toNatClampNeg = μ14.1 45 v23.toNatClampNeg))
        refine ok_gd (inb_iff.mpr (by omega)) ?_
        refine ok_bv (fun μ26 e_μ26 => ?_)
        have hI_μ26 : IX μ26 := by rw [e_μ26]; exact IX_F hI_μ24 (rta_45 _ _)
        have hF_μ26 : Fr [(0, 39, 1), (1, 40, 0), (1, 42, 0), (1, 43, 0), (1, 45, 0)] true μ μ26 := by rw [e_μ26]; exact Fr.puta hF_μ24 (by decide +kernel)
        have hr_μ26 : μ26.2.2 = μ.2.2 := (by rw [e_μ26]; rfl : μ26.2.2 = μ24.2.2).trans hr_μ24
        exact ok_mono (k_X5_addInstruction_b182  a4 a6 μ26 hI_μ26 (by (try rw [hr_μ26]); omega)) (fun q h => ⟨h.1, hF_μ26.trans h.2⟩)
    · intro c10
      rw [ti_le] at c10
      refine ok_gd (inb_iff.mpr (by (try rw [TI.e (e := (a7 + a8)) (n := (a7.toInt + a8.toInt)) (TI.add TI.rf TI.rf (by omega) (by omega))]); omega)) ?_
      refine ok_bv (fun μ27 e_μ27 => ?_)
      have hI_μ27 : IX μ27 := by rw [e_μ27]; exact IX_F hI_μ (rta_40 _ _)
      have hF_μ27 : Fr [(0, 39, 1), (1, 40, 0), (1, 42, 0), (1, 43, 0), (1, 45, 0)] true μ μ27 := by rw [e_μ27]; exact Fr.puta hF_μ (by decide +kernel)
      have hr_μ27 : μ27.2.2 = μ.2.2 := (by rw [e_μ27]; rfl : μ27.2.2 = μ.2.2).trans hr_μ
      refine ok_bv (fun v28 ev28 => ?_)
      first | have tv28 : v28.toInt = (a8.toInt + 1) := (congrArg Int32.toInt ev28).trans (TI.e (n := (a8.toInt + 1)) (TI.add TI.rf (TI.lit (by decide)) (by omega) (by omega))) | have tv28 : v28.toInt ≤ a8.toInt + 1 := by rw [ev28]; exact ti_inc _ | skip
      exact ok_mono (ih a1 a2 a3 a4 a6 a7 v28 μ27 hI_μ27 (by (try rw [hr_μ27]); omega)) (fun q h => ⟨h.1, hF_μ27.trans h.2⟩)
set_option maxHeartbeats 4000000 in
set_option maxRecDepth 100000 in
theorem k_X5_addInstruction_b31 (a1 : Int32) (a2 : Int32) (a3 : Int32) (a4 : Int32) (k0 : Int32) (μ : Mem) (hI_μ : IX μ) (hc : ((k0).toInt = 0 ∨ (0 ≤ (a4).toInt ∧ (a4).toInt < (μ.1 39 6).toInt ∧ 0 ≤ (a3).toInt ∧ (a3).toInt < (μ.1 39 2).toInt))) : ok (p_X5_addInstruction_b31 a1 a2 a3 a4 k0 μ) (fun q => IX q.2 ∧ Fr [(0, 39, 1), (1, 40, 0), (1, 42, 0), (1, 43, 0), (1, 45, 0)] true μ q.2) := by
  have lim1 : (-1 : Int32).toInt = -1 := by decide
  have li0 : (0 : Int32).toInt = 0 := by decide
  have li1 : (1 : Int32).toInt = 1 := by decide
  have li8 : (8 : Int32).toInt = 8 := by decide
  have li300 : (300 : Int32).toInt = 300 := by decide
  have hF_μ : Fr [(0, 39, 1), (1, 40, 0), (1, 42, 0), (1, 43, 0), (1, 45, 0)] true μ μ := Fr.rf
  have hr_μ : μ.2.2 = μ.2.2 := rfl
  rw [p_X5_addInstruction_b31_eq]
  have lo_a1 := ti_lo a1
  have hi_a1 := ti_hi a1
  have lo_a2 := ti_lo a2
  have hi_a2 := ti_hi a2
  have lo_a3 := ti_lo a3
  have hi_a3 := ti_hi a3
  have lo_a4 := ti_lo a4
  have hi_a4 := ti_hi a4
  have lo_k0 := ti_lo k0
  have hi_k0 := ti_hi k0
  have g2 := rg_39_6 hI_μ
  have g3 := rg_39_2 hI_μ
  have g4 := rg_39_1 hI_μ
  refine ok_ite ?_ ?_
  · intro c5
    rw [ti_le] at c5
    exact ok_some ⟨hI_μ, hF_μ⟩
  · intro c5
    rw [ti_le] at c5
    refine ok_ite ?_ ?_
    · intro c6
      rw [ti_eq] at c6
      exact ok_some ⟨hI_μ, hF_μ⟩
    · intro c6
      rw [ti_eq] at c6
      refine ok_bv (fun v7 ev7 => ?_)
      have tv7 : v7.toInt = (μ.1 39 1).toInt := congrArg Int32.toInt ev7
      refine ok_bv (fun v8 ev8 => ?_)
      first | have tv8 : v8.toInt = (v7.toInt * 8) := (congrArg Int32.toInt ev8).trans (TI.e (n := (v7.toInt * 8)) (TI.mul TI.rf (TI.lit (by decide)) (by omega) (by omega))) | skip
      refine ok_bv (fun μ9 e_μ9 => ?_)
      have hI_μ9 : IX μ9 := by rw [e_μ9]; exact IX_F hI_μ (rp_39_1 (by (try rw [TI.e (e := ((μ.1 39 1) + (1 : Int32))) (n := ((μ.1 39 1).toInt + 1)) (TI.add TI.rf (TI.lit (by decide)) (by omega) (by omega))]); omega))
      have hF_μ9 : Fr [(0, 39, 1), (1, 40, 0), (1, 42, 0), (1, 43, 0), (1, 45, 0)] true μ μ9 := by rw [e_μ9]; exact Fr.put hF_μ (by decide +kernel)
      have v_μ9 : (μ9.1 39 1).toInt = ((μ.1 39 1).toInt + 1) := by rw [e_μ9, sF_v]; exact TI.e (n := ((μ.1 39 1).toInt + 1)) (TI.add TI.rf (TI.lit (by decide)) (by omega) (by omega))
      have hr_μ9 : μ9.2.2 = μ.2.2 := (by rw [e_μ9]; rfl : μ9.2.2 = μ.2.2).trans hr_μ
      obtain ⟨fu, hfu0, hfu⟩ := fuel_ex
      rw [hfu0]
      exact ok_mono (k_X5_addInstruction_b76  fu a1 a2 a3 a4 v7 v8 (0 : Int32) μ9 hI_μ9 (by (try rw [hr_μ9]); omega)) (fun q h => ⟨h.1, hF_μ9.trans h.2⟩)
set_option maxHeartbeats 4000000 in
set_option maxRecDepth 100000 in
theorem k_X5_addInstruction_b30 (a1 : Int32) (a2 : Int32) (a3 : Int32) (a4 : Int32) (μ : Mem) (hI_μ : IX μ) : ok (p_X5_addInstruction_b30 a1 a2 a3 a4 μ) (fun q => IX q.2 ∧ Fr [(0, 39, 1), (1, 40, 0), (1, 42, 0), (1, 43, 0), (1, 45, 0)] true μ q.2) := by
  have li0 : (0 : Int32).toInt = 0 := by decide
  have li1 : (1 : Int32).toInt = 1 := by decide
  have hF_μ : Fr [(0, 39, 1), (1, 40, 0), (1, 42, 0), (1, 43, 0), (1, 45, 0)] true μ μ := Fr.rf
  have hr_μ : μ.2.2 = μ.2.2 := rfl
  rw [p_X5_addInstruction_b30_eq]
  have lo_a1 := ti_lo a1
  have hi_a1 := ti_hi a1
  have lo_a2 := ti_lo a2
  have hi_a2 := ti_hi a2
  have lo_a3 := ti_lo a3
  have hi_a3 := ti_hi a3
  have lo_a4 := ti_lo a4
  have hi_a4 := ti_hi a4
  have g29 := rg_39_6 hI_μ
  have g30 := rg_39_2 hI_μ
  exact ok_mono (k_X5_addInstruction_b31  a1 a2 a3 a4 (0 : Int32) μ hI_μ (by omega)) (fun q h => ⟨h.1, hF_μ.trans h.2⟩)
set_option maxHeartbeats 4000000 in
set_option maxRecDepth 100000 in
theorem k_X5_addInstruction (a1 : Int32) (a2 : Int32) (a3 : Int32) (a4 : Int32) (μ : Mem) (hI_μ : IX μ) : ok (p_X5_addInstruction a1 a2 a3 a4 μ) (fun q => IX q.2 ∧ Fr [(0, 39, 1), (1, 40, 0), (1, 42, 0), (1, 43, 0), (1, 45, 0)] true μ q.2) := by
  have li0 : (0 : Int32).toInt = 0 := by decide
  have li1 : (1 : Int32).toInt = 1 := by decide
  have hF_μ : Fr [(0, 39, 1), (1, 40, 0), (1, 42, 0), (1, 43, 0), (1, 45, 0)] true μ μ := Fr.rf
  have hr_μ : μ.2.2 = μ.2.2 := rfl
  rw [p_X5_addInstruction_eq]
  have lo_a1 := ti_lo a1
  have hi_a1 := ti_hi a1
  have lo_a2 := ti_lo a2
  have hi_a2 := ti_hi a2
  have lo_a3 := ti_lo a3
  have hi_a3 := ti_hi a3
  have lo_a4 := ti_lo a4
  have hi_a4 := ti_hi a4
  refine ok_ite ?_ ?_
  · intro c1
    rw [ti_lt] at c1
    exact ok_mono (k_X5_addInstruction_b30  a1 a2 a3 a4 μ hI_μ) (fun q h => ⟨h.1, hF_μ.trans h.2⟩)
  · intro c1
    rw [ti_lt] at c1
    have g31 := rg_39_6 hI_μ
    refine ok_ite ?_ ?_
    · intro c32
      rw [ti_le] at c32
      exact ok_mono (k_X5_addInstruction_b30  a1 a2 a3 a4 μ hI_μ) (fun q h => ⟨h.1, hF_μ.trans h.2⟩)
    · intro c32
      rw [ti_le] at c32
      refine ok_ite ?_ ?_
      · intro c33
        rw [ti_lt] at c33
        exact ok_mono (k_X5_addInstruction_b30  a1 a2 a3 a4 μ hI_μ) (fun q h => ⟨h.1, hF_μ.trans h.2⟩)
      · intro c33
        rw [ti_lt] at c33
        have g34 := rg_39_2 hI_μ
        refine ok_ite ?_ ?_
        · intro c35
          rw [ti_le] at c35
          exact ok_mono (k_X5_addInstruction_b30  a1 a2 a3 a4 μ hI_μ) (fun q h => ⟨h.1, hF_μ.trans h.2⟩)
        · intro c35
          rw [ti_le] at c35
          exact ok_mono (k_X5_addInstruction_b31  a1 a2 a3 a4 (1 : Int32) μ hI_μ (by omega)) (fun q h => ⟨h.1, hF_μ.trans h.2⟩)

set_option maxHeartbeats 4000000 in
set_option maxRecDepth 100000 in
theorem k_X10_breakOff (a1 : Int32) (μ : Mem) (hI_μ : IX μ) : ok (p_X10_breakOff a1 μ) (fun q => IX q ∧ Fr [(0, 137, 6)] true μ q) := by
  have li0 : (0 : Int32).toInt = 0 := by decide
  have li1 : (1 : Int32).toInt = 1 := by decide
  have hF_μ : Fr [(0, 137, 6)] true μ μ := Fr.rf
  have hr_μ : μ.2.2 = μ.2.2 := rfl
  rw [p_X10_breakOff_eq]
  have lo_a1 := ti_lo a1
  have hi_a1 := ti_hi a1
  have g1 := ti_lo (μ.1 137 6)
  have g1h := ti_hi (μ.1 137 6)
  refine ok_ite ?_ ?_
  · intro c2
    rw [ti_eq] at c2
    refine ok_bv (fun μ3 e_μ3 => ?_)
    have hI_μ3 : IX μ3 := by rw [e_μ3]; exact IX_F hI_μ (rt_137_6 _)
    have hF_μ3 : Fr [(0, 137, 6)] true μ μ3 := by rw [e_μ3]; exact Fr.put hF_μ (by decide +kernel)
    have v_μ3 : (μ3.1 137 6).toInt = a1.toInt := by rw [e_μ3, sF_v]
    have hr_μ3 : μ3.2.2 = μ.2.2 := (by rw [e_μ3]; rfl : μ3.2.2 = μ.2.2).trans hr_μ
    try rw [hr_μ3]
    exact ok_some ⟨hI_μ3, hF_μ3⟩
  · intro c2
    rw [ti_eq] at c2
    exact ok_some ⟨hI_μ, hF_μ⟩

set_option maxHeartbeats 4000000 in
set_option maxRecDepth 100000 in
theorem k_X5_setOperand (a1 : Int32) (a2 : Int32) (a3 : Int64) (μ : Mem) (hI_μ : IX μ) : ok (p_X5_setOperand a1 a2 a3 μ) (fun q => IX q ∧ Fr [] true μ q) := by
  have li0 : (0 : Int32).toInt = 0 := by decide
  have li1 : (1 : Int32).toInt = 1 := by decide
  have li10 : (10 : Int32).toInt = 10 := by decide
  have hF_μ : Fr [] true μ μ := Fr.rf
  have hr_μ : μ.2.2 = μ.2.2 := rfl
  rw [p_X5_setOperand_eq]
  have lo_a1 := ti_lo a1
  have hi_a1 := ti_hi a1
  have lo_a2 := ti_lo a2
  have hi_a2 := ti_hi a2
  refine ok_ite ?_ ?_
  · intro c1
    rw [ti_lt] at c1
    exact ok_some ⟨hI_μ, hF_μ⟩
  · intro c1
    rw [ti_lt] at c1
    have g2 := rg_39_1 hI_μ
    refine ok_ite ?_ ?_
    · intro c3
      rw [ti_le] at c3
      exact ok_some ⟨hI_μ, hF_μ⟩
    · intro c3
      rw [ti_le] at c3
      refine ok_ite ?_ ?_
      · intro c4
        rw [ti_lt] at c4
        exact ok_some ⟨hI_μ, hF_μ⟩
      · intro c4
        rw [ti_lt] at c4
        refine ok_ite ?_ ?_
        · intro c5
          rw [ti_le] at c5
          exact ok_some ⟨hI_μ, hF_μ⟩
        · intro c5
          rw [ti_le] at c5
          refine ok_gd (inb_iff.mpr (by (try rw [TI.e (e := ((a1 * (10 : Int32)) + a2)) (n := ((a1.toInt * 10) + a2.toInt)) (TI.add (TI.mul TI.rf (TI.lit (by decide)) (by omega) (by omega)) TI.rf (by omega) (by omega))]); omega)) ?_
          refine ok_bv (fun μ6 e_μ6 => ?_)
          have hI_μ6 : IX μ6 := by rw [e_μ6]; exact IX_L hI_μ
          have hF_μ6 : Fr [] true μ μ6 := by rw [e_μ6]; exact hF_μ
          have hr_μ6 : μ6.2.2 = μ.2.2 := (by rw [e_μ6]; rfl : μ6.2.2 = μ.2.2).trans hr_μ
          exact ok_some ⟨hI_μ6, hF_μ6⟩

set_option maxHeartbeats 4000000 in
set_option maxRecDepth 100000 in
theorem k_X5_cell (a1 : Int32) (a2 : Int32) (μ : Mem) (hI_μ : IX μ) (hc : 0 ≤ (a2).toInt) : ok (p_X5_cell a1 a2 μ) (fun q => μ = q.2) := by
  have lim1 : (-1 : Int32).toInt = -1 := by decide
  have li0 : (0 : Int32).toInt = 0 := by decide
  have li1 : (1 : Int32).toInt = 1 := by decide
  have li8 : (8 : Int32).toInt = 8 := by decide
  have hF_μ : Fr [] true μ μ := Fr.rf
  have hr_μ : μ.2.2 = μ.2.2 := rfl
  rw [p_X5_cell_eq]
  have lo_a1 := ti_lo a1
  have hi_a1 := ti_hi a1
  have lo_a2 := ti_lo a2
  have hi_a2 := ti_hi a2
  refine ok_ite ?_ ?_
  · intro c1
    rw [ti_lt] at c1
    exact ok_some rfl
  · intro c1
    rw [ti_lt] at c1
    have g2 := rg_39_1 hI_μ
    refine ok_ite ?_ ?_
    · intro c3
      rw [ti_le] at c3
      exact ok_some rfl
    · intro c3
      rw [ti_le] at c3
      refine ok_ite ?_ ?_
      · intro c4
        rw [ti_le] at c4
        exact ok_some rfl
      · intro c4
        rw [ti_le] at c4
        refine ok_gd (inb_iff.mpr (by (try rw [TI.e (e := ((a1 * (8 : Int32)) + a2)) (n := ((a1.toInt * 8) + a2.toInt)) (TI.add (TI.mul TI.rf (TI.lit (by decide)) (by omega) (by omega)) TI.rf (by omega) (by omega))]); omega)) ?_
        exact ok_some rfl

set_option maxHeartbeats 4000000 in
set_option maxRecDepth 100000 in
theorem k_X10_leave (a1 : Int32) (a2 : Int32) (a3 : Int64) (a5 : Int64) (μ : Mem) (hI_μ : IX μ) : ok (p_X10_leave a1 a2 a3 a5 μ) (fun q => IX q.2 ∧ Fr [(0, 39, 1), (0, 137, 6), (1, 40, 0), (1, 42, 0), (1, 43, 0), (1, 45, 0)] true μ q.2) := by
  have lim2 : (-2 : Int32).toInt = -2 := by decide
  have lim1 : (-1 : Int32).toInt = -1 := by decide
  have li0 : (0 : Int32).toInt = 0 := by decide
  have li1 : (1 : Int32).toInt = 1 := by decide
  have hF_μ : Fr [(0, 39, 1), (0, 137, 6), (1, 40, 0), (1, 42, 0), (1, 43, 0), (1, 45, 0)] true μ μ := Fr.rf
  have hr_μ : μ.2.2 = μ.2.2 := rfl
  rw [p_X10_leave_eq]
  have lo_a1 := ti_lo a1
  have hi_a1 := ti_hi a1
  have lo_a2 := ti_lo a2
  have hi_a2 := ti_hi a2
  have g1 := ti_lo (μ.1 137 6)
  have g1h := ti_hi (μ.1 137 6)
  refine ok_ite ?_ ?_
  · intro c2
    rw [ti_eq] at c2
    have g3 := ti_lo (μ.1 137 7)
    have g3h := ti_hi (μ.1 137 7)
    have g4 := ti_lo (μ.1 137 8)
    have g4h := ti_hi (μ.1 137 8)
    refine ok_bd (k_X5_addInstruction a1 a2 (μ.1 137 7) (μ.1 137 8) μ hI_μ) ?_
    rintro r6 μ5 ⟨hI_μ5, hC_μ5⟩
    have hI_μ5 : IX μ5 := hI_μ5
    have hC_μ5 : Fr [(0, 39, 1), (1, 40, 0), (1, 42, 0), (1, 43, 0), (1, 45, 0)] true μ μ5 := hC_μ5
    have lo_r6 := ti_lo r6
    have hi_r6 := ti_hi r6
    have hF_μ5 : Fr [(0, 39, 1), (0, 137, 6), (1, 40, 0), (1, 42, 0), (1, 43, 0), (1, 45, 0)] true μ μ5 := hF_μ.trans (hC_μ5.mono (by decide +kernel) (by decide))
    have hr_μ5 : μ5.2.2 = μ.2.2 := (hC_μ5.2 rfl : μ5.2.2 = μ.2.2).trans hr_μ
    try rw [hr_μ5]
    refine ok_ite ?_ ?_
    · intro c7
      rw [ti_eq] at c7
      refine ok_bw (k_X10_breakOff (-2 : Int32) μ5 hI_μ5) ?_
      rintro μ8 ⟨hI_μ8, hC_μ8⟩
      have hF_μ8 : Fr [(0, 39, 1), (0, 137, 6), (1, 40, 0), (1, 42, 0), (1, 43, 0), (1, 45, 0)] true μ μ8 := hF_μ5.trans (hC_μ8.mono (by decide +kernel) (by decide))
      have hr_μ8 : μ8.2.2 = μ.2.2 := (hC_μ8.2 rfl : μ8.2.2 = μ5.2.2).trans hr_μ5
      try rw [hr_μ8]
      exact ok_some ⟨hI_μ8, hF_μ8⟩
    · intro c7
      rw [ti_eq] at c7
      refine ok_bw (k_X5_setOperand r6 (0 : Int32) a3 μ5 hI_μ5) ?_
      rintro μ10 ⟨hI_μ10, hC_μ10⟩
      have hF_μ10 : Fr [(0, 39, 1), (0, 137, 6), (1, 40, 0), (1, 42, 0), (1, 43, 0), (1, 45, 0)] true μ μ10 := hF_μ5.trans (hC_μ10.mono (by decide +kernel) (by decide))
      have hr_μ10 : μ10.2.2 = μ.2.2 := (hC_μ10.2 rfl : μ10.2.2 = μ5.2.2).trans hr_μ5
      try rw [hr_μ10]
      refine ok_bw (k_X5_setOperand r6 (1 : Int32) a5 μ10 hI_μ10) ?_
      rintro μ12 ⟨hI_μ12, hC_μ12⟩
      have hF_μ12 : Fr [(0, 39, 1), (0, 137, 6), (1, 40, 0), (1, 42, 0), (1, 43, 0), (1, 45, 0)] true μ μ12 := hF_μ10.trans (hC_μ12.mono (by decide +kernel) (by decide))
      have hr_μ12 : μ12.2.2 = μ.2.2 := (hC_μ12.2 rfl : μ12.2.2 = μ10.2.2).trans hr_μ10
      try rw [hr_μ12]
      refine ok_bd (k_X5_cell r6 (1 : Int32) μ12 hI_μ12 (by (try rw [hr_μ12]); omega)) ?_
      rintro r15 μ14 hq9
      obtain rfl : μ12 = μ14 := hq9
      have lo_r15 := ti_lo r15
      have hi_r15 := ti_hi r15
      try rw [hr_μ12]
      exact ok_some ⟨hI_μ12, hF_μ12⟩
  · intro c2
    rw [ti_eq] at c2
    exact ok_some ⟨hI_μ, hF_μ⟩

set_option maxHeartbeats 4000000 in
set_option maxRecDepth 100000 in
theorem k_X10_reckon_b49 (a1 : Int32) (a2 : Int64) (a4 : Int64) (μ : Mem) (hI_μ : IX μ) : ok (p_X10_reckon_b49 a1 a2 a4 μ) (fun q => IX q ∧ Fr [(0, 30, 7), (0, 39, 1), (0, 137, 6), (1, 40, 0), (1, 42, 0), (1, 43, 0), (1, 45, 0)] true μ q) := by
  have li0 : (0 : Int32).toInt = 0 := by decide
  have li1 : (1 : Int32).toInt = 1 := by decide
  have hF_μ : Fr [(0, 30, 7), (0, 39, 1), (0, 137, 6), (1, 40, 0), (1, 42, 0), (1, 43, 0), (1, 45, 0)] true μ μ := Fr.rf
  have hr_μ : μ.2.2 = μ.2.2 := rfl
  rw [p_X10_reckon_b49_eq]
  have lo_a1 := ti_lo a1
  have hi_a1 := ti_hi a1
  refine ok_bd (k_X10_leave (0 : Int32) a1 a4 a2 μ hI_μ) ?_
  rintro r7 μ6 ⟨hI_μ6, hC_μ6⟩
  have hI_μ6 : IX μ6 := hI_μ6
  have hC_μ6 : Fr [(0, 39, 1), (0, 137, 6), (1, 40, 0), (1, 42, 0), (1, 43, 0), (1, 45, 0)] true μ μ6 := hC_μ6
  have hF_μ6 : Fr [(0, 30, 7), (0, 39, 1), (0, 137, 6), (1, 40, 0), (1, 42, 0), (1, 43, 0), (1, 45, 0)] true μ μ6 := hF_μ.trans (hC_μ6.mono (by decide +kernel) (by decide))
  have hr_μ6 : μ6.2.2 = μ.2.2 := (hC_μ6.2 rfl : μ6.2.2 = μ.2.2).trans hr_μ
  try rw [hr_μ6]
  refine ok_bw (k_X8_push r7 μ6 hI_μ6) ?_
  rintro μ8 ⟨hI_μ8, hC_μ8⟩
  have hF_μ8 : Fr [(0, 30, 7), (0, 39, 1), (0, 137, 6), (1, 40, 0), (1, 42, 0), (1, 43, 0), (1, 45, 0)] true μ μ8 := hF_μ6.trans (hC_μ8.mono (by decide +kernel) (by decide))
  have hr_μ8 : μ8.2.2 = μ.2.2 := (hC_μ8.2 rfl : μ8.2.2 = μ6.2.2).trans hr_μ6
  try rw [hr_μ8]
  exact ok_some ⟨hI_μ8, hF_μ8⟩
set_option maxHeartbeats 4000000 in
set_option maxRecDepth 100000 in
theorem k_X10_reckon (a1 : Int32) (μ : Mem) (hI_μ : IX μ) : ok (p_X10_reckon a1 μ) (fun q => IX q ∧ Fr [(0, 30, 7), (0, 39, 1), (0, 137, 6), (1, 40, 0), (1, 42, 0), (1, 43, 0), (1, 45, 0)] true μ q) := by
  have li0 : (0 : Int32).toInt = 0 := by decide
  have li1 : (1 : Int32).toInt = 1 := by decide
  have hF_μ : Fr [(0, 30, 7), (0, 39, 1), (0, 137, 6), (1, 40, 0), (1, 42, 0), (1, 43, 0), (1, 45, 0)] true μ μ := Fr.rf
  have hr_μ : μ.2.2 = μ.2.2 := rfl
  rw [p_X10_reckon_eq]
  have lo_a1 := ti_lo a1
  have hi_a1 := ti_hi a1
  refine ok_bd (k_X8_popNum  μ hI_μ) ?_
  rintro r2 μ1 ⟨hI_μ1, hC_μ1⟩
  have hI_μ1 : IX μ1 := hI_μ1
  have hC_μ1 : Fr [(0, 30, 7)] true μ μ1 := hC_μ1
  have hF_μ1 : Fr [(0, 30, 7), (0, 39, 1), (0, 137, 6), (1, 40, 0), (1, 42, 0), (1, 43, 0), (1, 45, 0)] true μ μ1 := hF_μ.trans (hC_μ1.mono (by decide +kernel) (by decide))
  have hr_μ1 : μ1.2.2 = μ.2.2 := (hC_μ1.2 rfl : μ1.2.2 = μ.2.2).trans hr_μ
  try rw [hr_μ1]
  refine ok_bd (k_X8_popNum  μ1 hI_μ1) ?_
  rintro r4 μ3 ⟨hI_μ3, hC_μ3⟩
  have hI_μ3 : IX μ3 := hI_μ3
  have hC_μ3 : Fr [(0, 30, 7)] true μ1 μ3 := hC_μ3
  have hF_μ3 : Fr [(0, 30, 7), (0, 39, 1), (0, 137, 6), (1, 40, 0), (1, 42, 0), (1, 43, 0), (1, 45, 0)] true μ μ3 := hF_μ1.trans (hC_μ3.mono (by decide +kernel) (by decide))
  have hr_μ3 : μ3.2.2 = μ.2.2 := (hC_μ3.2 rfl : μ3.2.2 = μ1.2.2).trans hr_μ1
  try rw [hr_μ3]
  refine ok_ite ?_ ?_
  · intro c5
    rw [ti_eq] at c5
    exact ok_mono (k_X10_reckon_b49  a1 r2 r4 μ3 hI_μ3) (fun q h => ⟨h.1, hF_μ3.trans h.2⟩)
  · intro c5
    rw [ti_eq] at c5
    refine ok_ite ?_ ?_
    · intro c10
      rw [ti_eq] at c10
      exact ok_mono (k_X10_reckon_b49  a1 r2 r4 μ3 hI_μ3) (fun q h => ⟨h.1, hF_μ3.trans h.2⟩)
    · intro c10
      rw [ti_eq] at c10
      refine ok_bw (k_X8_push (s_X0_apply a1 r4 r2) μ3 hI_μ3) ?_
      rintro μ11 ⟨hI_μ11, hC_μ11⟩
      have hF_μ11 : Fr [(0, 30, 7), (0, 39, 1), (0, 137, 6), (1, 40, 0), (1, 42, 0), (1, 43, 0), (1, 45, 0)] true μ μ11 := hF_μ3.trans (hC_μ11.mono (by decide +kernel) (by decide))
      have hr_μ11 : μ11.2.2 = μ.2.2 := (hC_μ11.2 rfl : μ11.2.2 = μ3.2.2).trans hr_μ3
      try rw [hr_μ11]
      exact ok_some ⟨hI_μ11, hF_μ11⟩
