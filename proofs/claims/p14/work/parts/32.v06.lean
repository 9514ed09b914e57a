set_option maxHeartbeats 4000000 in
set_option maxRecDepth 100000 in
theorem k_X5_addVariant (a1 : Nat) (q1 : sh 0 a1 = (0, 1)) (a2 : Int32) (μ : Mem) (hI_μ : IX μ) : ok (p_X5_addVariant a1 a2 μ) (fun q => IX q.2 ∧ Fr [(0, 39, 2), (1, 45, 0), (2, 1, 2), (2, 1, 3)] true μ q.2) := by
  have lim1 : (-1 : Int32).toInt = -1 := by decide
  have li0 : (0 : Int32).toInt = 0 := by decide
  have li1 : (1 : Int32).toInt = 1 := by decide
  have li2 : (2 : Int32).toInt = 2 := by decide
  have li3 : (3 : Int32).toInt = 3 := by decide
  have li24 : (24 : Int32).toInt = 24 := by decide
  have hF_μ : Fr [(0, 39, 2), (1, 45, 0), (2, 1, 2), (2, 1, 3)] true μ μ := Fr.rf
  have hr_μ : μ.2.2 = μ.2.2 := rfl
  rw [p_X5_addVariant_eq]
  have lo_a2 := ti_lo a2
  have hi_a2 := ti_hi a2
  have g1 := rg_39_2 hI_μ
  refine ok_ite ?_ ?_
  · intro c2
    rw [ti_lt] at c2
    refine ok_bv (fun v3 ev3 => ?_)
    have tv3 : v3.toInt = (μ.1 39 2).toInt := congrArg Int32.toInt ev3
    refine ok_bv (fun μ4 e_μ4 => ?_)
    have hI_μ4 : IX μ4 := by rw [e_μ4]; exact IX_F hI_μ (rp_39_2 (by (try rw [TI.e (e := ((μ.1 39 2) + (1 : Int32))) (n := ((μ.1 39 2).toInt + 1)) (TI.add TI.rf (TI.lit (by decide)) (by omega) (by omega))]); omega))
    have hF_μ4 : Fr [(0, 39, 2), (1, 45, 0), (2, 1, 2), (2, 1, 3)] true μ μ4 := by rw [e_μ4]; exact Fr.put hF_μ (by decide +kernel)
    have v_μ4 : (μ4.1 39 2).toInt = ((μ.1 39 2).toInt + 1) := by rw [e_μ4, sF_v]; exact TI.e (n := ((μ.1 39 2).toInt + 1)) (TI.add TI.rf (TI.lit (by decide)) (by omega) (by omega))
    have hr_μ4 : μ4.2.2 = μ.2.2 := (by rw [e_μ4]; rfl : μ4.2.2 = μ.2.2).trans hr_μ
    refine ok_gd (inb_iff.mpr (by omega)) ?_
    refine ok_bw (k_X2_copyFrom (ptc v3.toNatClampNeg) (ptc_ok _) a1 q1 μ4 hI_μ4) ?_
    rintro μ5 ⟨hI_μ5, hC_μ5⟩
    have hF_μ5 : Fr [(0, 39, 2), (1, 45, 0), (2, 1, 2), (2, 1, 3)] true μ μ5 := hF_μ4.trans (hC_μ5.mono (by decide +kernel) (by decide))
    have hr_μ5 : μ5.2.2 = μ.2.2 := (hC_μ5.2 rfl : μ5.2.2 = μ4.2.2).trans hr_μ4
    refine ok_bw (k_X5_setVariant v3 (0 : Int32) a2 μ5 hI_μ5 (by (try rw [hr_μ5]); omega)) ?_
    rintro μ7 ⟨hI_μ7, hC_μ7⟩
    have hF_μ7 : Fr [(0, 39, 2), (1, 45, 0), (2, 1, 2), (2, 1, 3)] true μ μ7 := hF_μ5.trans (hC_μ7.mono (by decide +kernel) (by decide))
    have hr_μ7 : μ7.2.2 = μ.2.2 := (hC_μ7.2 rfl : μ7.2.2 = μ5.2.2).trans hr_μ5
    refine ok_bw (k_X5_setVariant v3 (1 : Int32) (0 : Int32) μ7 hI_μ7 (by (try rw [hr_μ7]); omega)) ?_
    rintro μ9 ⟨hI_μ9, hC_μ9⟩
    have hF_μ9 : Fr [(0, 39, 2), (1, 45, 0), (2, 1, 2), (2, 1, 3)] true μ μ9 := hF_μ7.trans (hC_μ9.mono (by decide +kernel) (by decide))
    have hr_μ9 : μ9.2.2 = μ.2.2 := (hC_μ9.2 rfl : μ9.2.2 = μ7.2.2).trans hr_μ7
    refine ok_bd (k_X2_stars a1 q1 μ9 hI_μ9) ?_
    rintro r12 μ11 hq9
    obtain rfl : μ9 = μ11 := hq9
    have lo_r12 := ti_lo r12
    have hi_r12 := ti_hi r12
    refine ok_bw (k_X5_setVariant v3 (2 : Int32) r12 μ9 hI_μ9 (by (try rw [hr_μ9]); omega)) ?_
    rintro μ13 ⟨hI_μ13, hC_μ13⟩
    have hF_μ13 : Fr [(0, 39, 2), (1, 45, 0), (2, 1, 2), (2, 1, 3)] true μ μ13 := hF_μ9.trans (hC_μ13.mono (by decide +kernel) (by decide))
    have hr_μ13 : μ13.2.2 = μ.2.2 := (hC_μ13.2 rfl : μ13.2.2 = μ9.2.2).trans hr_μ9
    refine ok_bw (k_X5_setVariant v3 (3 : Int32) (-1 : Int32) μ13 hI_μ13 (by (try rw [hr_μ13]); omega)) ?_
    rintro μ15 ⟨hI_μ15, hC_μ15⟩
    have hF_μ15 : Fr [(0, 39, 2), (1, 45, 0), (2, 1, 2), (2, 1, 3)] true μ μ15 := hF_μ13.trans (hC_μ15.mono (by decide +kernel) (by decide))
    have hr_μ15 : μ15.2.2 = μ.2.2 := (hC_μ15.2 rfl : μ15.2.2 = μ13.2.2).trans hr_μ13
    exact ok_some ⟨hI_μ15, hF_μ15⟩
  · intro c2
    rw [ti_lt] at c2
    exact ok_some ⟨hI_μ, hF_μ⟩

set_option maxHeartbeats 4000000 in
set_option maxRecDepth 100000 in
theorem k_X5_patternOf (a1 : Int32) (μ : Mem) (hI_μ : IX μ) : ok (p_X5_patternOf a1 μ) (fun q => μ = q.2 ∧ (sh 0 q.1 = (0, 1))) := by
  have li0 : (0 : Int32).toInt = 0 := by decide
  have li1 : (1 : Int32).toInt = 1 := by decide
  have li23 : (23 : Int32).toInt = 23 := by decide
  have hF_μ : Fr [] true μ μ := Fr.rf
  have hr_μ : μ.2.2 = μ.2.2 := rfl
  rw [p_X5_patternOf_eq]
  have lo_a1 := ti_lo a1
  have hi_a1 := ti_hi a1
  refine ok_gd (inb_iff.mpr (by (try rw [TI.e (e := (imax (0 : Int32) (imin a1 (23 : Int32)))) (n := (max 0 (min a1.toInt 23))) (TI.max (TI.lit (by decide)) (TI.min TI.rf (TI.lit (by decide))))]); omega)) ?_
  exact ok_some ⟨rfl, (ptc_ok _)⟩

set_option maxHeartbeats 4000000 in
set_option maxRecDepth 100000 in
theorem k_X5_addBlock  (μ : Mem) (hI_μ : IX μ) : ok (p_X5_addBlock  μ) (fun q => IX q.2 ∧ Fr [(0, 39, 6), (1, 42, 0), (1, 43, 0)] true μ q.2) := by
  have lim1 : (-1 : Int32).toInt = -1 := by decide
  have li0 : (0 : Int32).toInt = 0 := by decide
  have li1 : (1 : Int32).toInt = 1 := by decide
  have li672 : (672 : Int32).toInt = 672 := by decide
  have hF_μ : Fr [(0, 39, 6), (1, 42, 0), (1, 43, 0)] true μ μ := Fr.rf
  have hr_μ : μ.2.2 = μ.2.2 := rfl
  rw [p_X5_addBlock_eq]
  have g1 := rg_39_6 hI_μ
  refine ok_ite ?_ ?_
  · intro c2
    rw [ti_lt] at c2
    refine ok_gd (inb_iff.mpr (by omega)) ?_
    refine ok_bv (fun μ3 e_μ3 => ?_)
    have hI_μ3 : IX μ3 := by rw [e_μ3]; exact IX_F hI_μ (rta_42 _ _)
    have hF_μ3 : Fr [(0, 39, 6), (1, 42, 0), (1, 43, 0)] true μ μ3 := by rw [e_μ3]; exact Fr.puta hF_μ (by decide +kernel)
    have hr_μ3 : μ3.2.2 = μ.2.2 := (by rw [e_μ3]; rfl : μ3.2.2 = μ.2.2).trans hr_μ
    have g4 := rg_39_6 hI_μ3
    have f5 : (μ3.1 39 6).toInt = (μ.1 39 6).toInt := congrArg Int32.toInt ((by rw [e_μ3]; rfl : μ3.1 39 6 = μ.1 39 6))
    refine ok_gd (inb_iff.mpr (by omega)) ?_
    refine ok_bv (fun μ6 e_μ6 => ?_)
    have hI_μ6 : IX μ6 := by rw [e_μ6]; exact IX_F hI_μ3 (rp_43 (by omega))
    have hF_μ6 : Fr [(0, 39, 6), (1, 42, 0), (1, 43, 0)] true μ μ6 := by rw [e_μ6]; exact Fr.puta hF_μ3 (by decide +kernel)
    have hr_μ6 : μ6.2.2 = μ.2.2 := (by rw [e_μ6]; rfl : μ6.2.2 = μ3.2.2).trans hr_μ3
    have g7 := rg_39_6 hI_μ6
    have f8 : (μ6.1 39 6).toInt = (μ3.1 39 6).toInt := congrArg Int32.toInt ((by rw [e_μ6]; rfl : μ6.1 39 6 = μ3.1 39 6))
    refine ok_gd (inb_iff.mpr (by omega)) ?_
    refine ok_bv (fun μ9 e_μ9 => ?_)
    have hI_μ9 : IX μ9 := by rw [e_μ9]; exact IX_L hI_μ6
    have hF_μ9 : Fr [(0, 39, 6), (1, 42, 0), (1, 43, 0)] true μ μ9 := by rw [e_μ9]; exact hF_μ6
    have hr_μ9 : μ9.2.2 = μ.2.2 := (by rw [e_μ9]; rfl : μ9.2.2 = μ6.2.2).trans hr_μ6
    have g10 := rg_39_6 hI_μ9
    have f11 : (μ9.1 39 6).toInt = (μ6.1 39 6).toInt := congrArg Int32.toInt ((by rw [e_μ9]; rfl : μ9.1 39 6 = μ6.1 39 6))
    refine ok_bv (fun μ12 e_μ12 => ?_)
    have hI_μ12 : IX μ12 := by rw [e_μ12]; exact IX_F hI_μ9 (rp_39_6 (by (try rw [TI.e (e := ((μ9.1 39 6) + (1 : Int32))) (n := ((μ9.1 39 6).toInt + 1)) (TI.add TI.rf (TI.lit (by decide)) (by omega) (by omega))]); omega))
    have hF_μ12 : Fr [(0, 39, 6), (1, 42, 0), (1, 43, 0)] true μ μ12 := by rw [e_μ12]; exact Fr.put hF_μ9 (by decide +kernel)
    have v_μ12 : (μ12.1 39 6).toInt = ((μ9.1 39 6).toInt + 1) := by rw [e_μ12, sF_v]; exact TI.e (n := ((μ9.1 39 6).toInt + 1)) (TI.add TI.rf (TI.lit (by decide)) (by omega) (by omega))
    have hr_μ12 : μ12.2.2 = μ.2.2 := (by rw [e_μ12]; rfl : μ12.2.2 = μ9.2.2).trans hr_μ9
    have g13 := rg_39_6 hI_μ12
    exact ok_some ⟨hI_μ12, hF_μ12⟩
  · intro c2
    rw [ti_lt] at c2
    exact ok_some ⟨hI_μ, hF_μ⟩

set_option maxHeartbeats 4000000 in
set_option maxRecDepth 100000 in
theorem k_X8_clear  (μ : Mem) (hI_μ : IX μ) : ok (p_X8_clear  μ) (fun q => IX q ∧ Fr [(0, 30, 5), (0, 30, 7), (0, 30, 10)] true μ q) := by
  have li0 : (0 : Int32).toInt = 0 := by decide
  have li1 : (1 : Int32).toInt = 1 := by decide
  have hF_μ : Fr [(0, 30, 5), (0, 30, 7), (0, 30, 10)] true μ μ := Fr.rf
  have hr_μ : μ.2.2 = μ.2.2 := rfl
  rw [p_X8_clear_eq]
  refine ok_bv (fun μ1 e_μ1 => ?_)
  have hI_μ1 : IX μ1 := by rw [e_μ1]; exact IX_F hI_μ (rp_30_5 (by omega))
  have hF_μ1 : Fr [(0, 30, 5), (0, 30, 7), (0, 30, 10)] true μ μ1 := by rw [e_μ1]; exact Fr.put hF_μ (by decide +kernel)
  have v_μ1 : (μ1.1 30 5).toInt = 0 := by rw [e_μ1, sF_v]; exact TI.e (n := 0) (TI.lit (by decide))
  have hr_μ1 : μ1.2.2 = μ.2.2 := (by rw [e_μ1]; rfl : μ1.2.2 = μ.2.2).trans hr_μ
  refine ok_bv (fun μ2 e_μ2 => ?_)
  have hI_μ2 : IX μ2 := by rw [e_μ2]; exact IX_F hI_μ1 (rp_30_7 (by omega))
  have hF_μ2 : Fr [(0, 30, 5), (0, 30, 7), (0, 30, 10)] true μ μ2 := by rw [e_μ2]; exact Fr.put hF_μ1 (by decide +kernel)
  have v_μ2 : (μ2.1 30 7).toInt = 0 := by rw [e_μ2, sF_v]; exact TI.e (n := 0) (TI.lit (by decide))
  have hr_μ2 : μ2.2.2 = μ.2.2 := (by rw [e_μ2]; rfl : μ2.2.2 = μ1.2.2).trans hr_μ1
  refine ok_bv (fun μ3 e_μ3 => ?_)
  have hI_μ3 : IX μ3 := by rw [e_μ3]; exact IX_F hI_μ2 (rp_30_10 (by omega))
  have hF_μ3 : Fr [(0, 30, 5), (0, 30, 7), (0, 30, 10)] true μ μ3 := by rw [e_μ3]; exact Fr.put hF_μ2 (by decide +kernel)
  have v_μ3 : (μ3.1 30 10).toInt = 0 := by rw [e_μ3, sF_v]; exact TI.e (n := 0) (TI.lit (by decide))
  have hr_μ3 : μ3.2.2 = μ.2.2 := (by rw [e_μ3]; rfl : μ3.2.2 = μ2.2.2).trans hr_μ2
  exact ok_some ⟨hI_μ3, hF_μ3⟩

set_option maxHeartbeats 4000000 in
set_option maxRecDepth 100000 in
theorem k_X8_isPair (a1 : Int64) (μ : Mem) (hI_μ : IX μ) : ok (p_X8_isPair a1 μ) (fun q => μ = q.2 ∧ (((q.1).toInt = 0 ∨ (q.1).toInt = 1) ∧ ((q.1).toInt = 0 ∨ (0 ≤ (a1.toInt32).toInt ∧ (a1.toInt32).toInt < (μ.1 30 5).toInt)))) := by
  have li0 : (0 : Int32).toInt = 0 := by decide
  have li1 : (1 : Int32).toInt = 1 := by decide
  have hF_μ : Fr [] true μ μ := Fr.rf
  have hr_μ : μ.2.2 = μ.2.2 := rfl
  rw [p_X8_isPair_eq]
  have g1 := rg_30_5 hI_μ
  refine ok_ite ?_ ?_
  · intro c2
    rw [ti_eq] at c2
    refine ok_ite ?_ ?_
    · intro c3
      rw [ti_lt] at c3
      exact ok_some ⟨rfl, by (try dsimp only); omega⟩
    · intro c3
      rw [ti_lt] at c3
      refine ok_ite ?_ ?_
      · intro c4
        rw [ti_le] at c4
        exact ok_some ⟨rfl, by (try dsimp only); omega⟩
      · intro c4
        rw [ti_le] at c4
        exact ok_some ⟨rfl, by (try dsimp only); omega⟩
  · intro c2
    rw [ti_eq] at c2
    exact ok_some ⟨rfl, by (try dsimp only); omega⟩

set_option maxHeartbeats 4000000 in
set_option maxRecDepth 100000 in
theorem k_X8_weightOf (a1 : Int64) (μ : Mem) (hI_μ : IX μ) : ok (p_X8_weightOf a1 μ) (fun q => μ = q.2) := by
  have li0 : (0 : Int32).toInt = 0 := by decide
  have li1 : (1 : Int32).toInt = 1 := by decide
  have hF_μ : Fr [] true μ μ := Fr.rf
  have hr_μ : μ.2.2 = μ.2.2 := rfl
  rw [p_X8_weightOf_eq]
  have g3 := rg_30_5 hI_μ
  refine ok_bd (k_X8_isPair a1 μ hI_μ) ?_
  rintro r2 μ1 ⟨hq9, p_r2⟩
  obtain rfl : μ = μ1 := hq9
  dsimp only at p_r2
  have lo_r2 := ti_lo r2
  have hi_r2 := ti_hi r2
  refine ok_ite ?_ ?_
  · intro c4
    rw [ti_eq] at c4
    exact ok_some rfl
  · intro c4
    rw [ti_eq] at c4
    refine ok_gd (inb_iff.mpr (by (try rw [TI.e (e := (s_X0_bits a1)) (n := (a1.toInt32).toInt) (TI.bits a1)]); omega)) ?_
    exact ok_some rfl

set_option maxHeartbeats 4000000 in
set_option maxRecDepth 100000 in
theorem k_X8_deepOf (a1 : Int64) (μ : Mem) (hI_μ : IX μ) : ok (p_X8_deepOf a1 μ) (fun q => μ = q.2) := by
  have li0 : (0 : Int32).toInt = 0 := by decide
  have li1 : (1 : Int32).toInt = 1 := by decide
  have hF_μ : Fr [] true μ μ := Fr.rf
  have hr_μ : μ.2.2 = μ.2.2 := rfl
  rw [p_X8_deepOf_eq]
  have g3 := rg_30_5 hI_μ
  refine ok_bd (k_X8_isPair a1 μ hI_μ) ?_
  rintro r2 μ1 ⟨hq9, p_r2⟩
  obtain rfl : μ = μ1 := hq9
  dsimp only at p_r2
  have lo_r2 := ti_lo r2
  have hi_r2 := ti_hi r2
  refine ok_ite ?_ ?_
  · intro c4
    rw [ti_eq] at c4
    exact ok_some rfl
  · intro c4
    rw [ti_eq] at c4
    refine ok_gd (inb_iff.mpr (by (try rw [TI.e (e := (s_X0_bits a1)) (n := (a1.toInt32).toInt) (TI.bits a1)]); omega)) ?_
    exact ok_some rfl

set_option maxHeartbeats 4000000 in
set_option maxRecDepth 100000 in
theorem k_X8_pair (a1 : Int64) (a3 : Int64) (μ : Mem) (hI_μ : IX μ) : ok (p_X8_pair a1 a3 μ) (fun q => IX q.2 ∧ Fr [(0, 30, 5), (1, 33, 0), (1, 34, 0)] true μ q.2) := by
  have li0 : (0 : Int32).toInt = 0 := by decide
  have li1 : (1 : Int32).toInt = 1 := by decide
  have li30200 : (30200 : Int32).toInt = 30200 := by decide
  have hF_μ : Fr [(0, 30, 5), (1, 33, 0), (1, 34, 0)] true μ μ := Fr.rf
  have hr_μ : μ.2.2 = μ.2.2 := rfl
  rw [p_X8_pair_eq]
  have g1 := rg_30_5 hI_μ
  refine ok_ite ?_ ?_
  · intro c2
    rw [ti_lt] at c2
    refine ok_gd (inb_iff.mpr (by omega)) ?_
    refine ok_bv (fun μ3 e_μ3 => ?_)
    have hI_μ3 : IX μ3 := by rw [e_μ3]; exact IX_L hI_μ
    have hF_μ3 : Fr [(0, 30, 5), (1, 33, 0), (1, 34, 0)] true μ μ3 := by rw [e_μ3]; exact hF_μ
    have hr_μ3 : μ3.2.2 = μ.2.2 := (by rw [e_μ3]; rfl : μ3.2.2 = μ.2.2).trans hr_μ
    have g4 := rg_30_5 hI_μ3
    have f5 : (μ3.1 30 5).toInt = (μ.1 30 5).toInt := congrArg Int32.toInt ((by rw [e_μ3]; rfl : μ3.1 30 5 = μ.1 30 5))
    refine ok_gd (inb_iff.mpr (by omega)) ?_
    refine ok_bv (fun μ6 e_μ6 => ?_)
    have hI_μ6 : IX μ6 := by rw [e_μ6]; exact IX_L hI_μ3
    have hF_μ6 : Fr [(0, 30, 5), (1, 33, 0), (1, 34, 0)] true μ μ6 := by rw [e_μ6]; exact hF_μ3
    have hr_μ6 : μ6.2.2 = μ.2.2 := (by rw [e_μ6]; rfl : μ6.2.2 = μ3.2.2).trans hr_μ3
    have g7 := rg_30_5 hI_μ6
    have f8 : (μ6.1 30 5).toInt = (μ3.1 30 5).toInt := congrArg Int32.toInt ((by rw [e_μ6]; rfl : μ6.1 30 5 = μ3.1 30 5))
    refine ok_bd (k_X8_weightOf a1 μ6 hI_μ6) ?_
    rintro r10 μ9 hq9
    obtain rfl : μ6 = μ9 := hq9
    have lo_r10 := ti_lo r10
    have hi_r10 := ti_hi r10
    refine ok_bd (k_X8_weightOf a3 μ6 hI_μ6) ?_
    rintro r12 μ11 hq9
    obtain rfl : μ6 = μ11 := hq9
    have lo_r12 := ti_lo r12
    have hi_r12 := ti_hi r12
    refine ok_gd (inb_iff.mpr (by omega)) ?_
    refine ok_bv (fun μ13 e_μ13 => ?_)
    have hI_μ13 : IX μ13 := by rw [e_μ13]; exact IX_F hI_μ6 (rta_33 _ _)
    have hF_μ13 : Fr [(0, 30, 5), (1, 33, 0), (1, 34, 0)] true μ μ13 := by rw [e_μ13]; exact Fr.puta hF_μ6 (by decide +kernel)
    have hr_μ13 : μ13.2.2 = μ.2.2 := (by rw [e_μ13]; rfl : μ13.2.2 = μ6.2.2).trans hr_μ6
    have g14 := rg_30_5 hI_μ13
    have f15 : (μ13.1 30 5).toInt = (μ6.1 30 5).toInt := congrArg Int32.toInt ((by rw [e_μ13]; rfl : μ13.1 30 5 = μ6.1 30 5))
    refine ok_bd (k_X8_deepOf a1 μ13 hI_μ13) ?_
    rintro r17 μ16 hq9
    obtain rfl : μ13 = μ16 := hq9
    have lo_r17 := ti_lo r17
    have hi_r17 := ti_hi r17
    refine ok_bd (k_X8_deepOf a3 μ13 hI_μ13) ?_
    rintro r19 μ18 hq9
    obtain rfl : μ13 = μ18 := hq9
    have lo_r19 := ti_lo r19
    have hi_r19 := ti_hi r19
    refine ok_gd (inb_iff.mpr (by omega)) ?_
    refine ok_bv (fun μ20 e_μ20 => ?_)
    have hI_μ20 : IX μ20 := by rw [e_μ20]; exact IX_F hI_μ13 (rta_34 _ _)
    have hF_μ20 : Fr [(0, 30, 5), (1, 33, 0), (1, 34, 0)] true μ μ20 := by rw [e_μ20]; exact Fr.puta hF_μ13 (by decide +kernel)
    have hr_μ20 : μ20.2.2 = μ.2.2 := (by rw [e_μ20]; rfl : μ20.2.2 = μ13.2.2).trans hr_μ13
    have g21 := rg_30_5 hI_μ20
    have f22 : (μ20.1 30 5).toInt = (μ13.1 30 5).toInt := congrArg Int32.toInt ((by rw [e_μ20]; rfl : μ20.1 30 5 = μ13.1 30 5))
    refine ok_bv (fun μ23 e_μ23 => ?_)
    have hI_μ23 : IX μ23 := by rw [e_μ23]; exact IX_F hI_μ20 (rp_30_5 (by (try rw [TI.e (e := ((μ20.1 30 5) + (1 : Int32))) (n := ((μ20.1 30 5).toInt + 1)) (TI.add TI.rf (TI.lit (by decide)) (by omega) (by omega))]); omega))
    have hF_μ23 : Fr [(0, 30, 5), (1, 33, 0), (1, 34, 0)] true μ μ23 := by rw [e_μ23]; exact Fr.put hF_μ20 (by decide +kernel)
    have v_μ23 : (μ23.1 30 5).toInt = ((μ20.1 30 5).toInt + 1) := by rw [e_μ23, sF_v]; exact TI.e (n := ((μ20.1 30 5).toInt + 1)) (TI.add TI.rf (TI.lit (by decide)) (by omega) (by omega))
    have hr_μ23 : μ23.2.2 = μ.2.2 := (by rw [e_μ23]; rfl : μ23.2.2 = μ20.2.2).trans hr_μ20
    have g24 := rg_30_5 hI_μ23
    exact ok_some ⟨hI_μ23, hF_μ23⟩
  · intro c2
    rw [ti_lt] at c2
    exact ok_some ⟨hI_μ, hF_μ⟩

set_option maxHeartbeats 4000000 in
set_option maxRecDepth 100000 in
theorem k_X8_build_b148 : ∀ (n : Nat) (a3 : Nat) (q3 : (sh 0 a3).1 = 3) (a4 : Int32) (a6 : Int32) (a7 : Int32) (μ : Mem), IX μ → (0 ≤ (a4).toInt ∧ (a4).toInt ≤ 264 ∧ 0 ≤ (a7).toInt ∧ 0 ≤ (a6).toInt ∧ (a6).toInt ≤ (a4).toInt ∧ (a6).toInt ≤ ((sh 0 a3).2 : Int) ∧ 2147483648 - (a7).toInt < n) → ok (p_X8_build_b148 n a3 a4 a6 a7 μ) (fun q => IX q.2 ∧ Fr [(0, 30, 5), (1, 33, 0), (1, 34, 0)] true μ q.2 ∧ (0 ≤ (q.1).toInt ∧ (q.1).toInt ≤ ((sh 0 a3).2 : Int))) := by
  have li0 : (0 : Int32).toInt = 0 := by decide
  have li1 : (1 : Int32).toInt = 1 := by decide
  intro n
  induction n with
  | zero => intro a3 q3 a4 a6 a7 μ hI_μ hc; exact absurd hc (by have lo_a4 := ti_lo a4; have hi_a4 := ti_hi a4; have lo_a6 := ti_lo a6; have hi_a6 := ti_hi a6; have lo_a7 := ti_lo a7; have hi_a7 := ti_hi a7; omega)
  | succ n ih =>
    intro a3 q3 a4 a6 a7 μ hI_μ hc
    have hF_μ : Fr [(0, 30, 5), (1, 33, 0), (1, 34, 0)] true μ μ := Fr.rf
    have hr_μ : μ.2.2 = μ.2.2 := rfl
    rw [p_X8_build_b148_s]
    have lo_a4 := ti_lo a4
    have hi_a4 := ti_hi a4
    have lo_a6 := ti_lo a6
    have hi_a6 := ti_hi a6
    have lo_a7 := ti_lo a7
    have hi_a7 := ti_hi a7
    refine ok_ite ?_ ?_
    · intro c8
      rw [ti_le] at c8
      exact ok_some ⟨hI_μ, hF_μ, by (try dsimp only); omega⟩
    · intro c8
      rw [ti_le] at c8
      refine ok_gd (inb_iff.mpr (by (try rw [TI.e (e := ((a4 - (1 : Int32)) - a7)) (n := ((a4.toInt - 1) - a7.toInt)) (TI.sub (TI.sub TI.rf (TI.lit (by decide)) (by omega) (by omega)) TI.rf (by omega) (by omega))]); omega)) ?_
      refine ok_gd (inb_iff.mpr (by omega)) ?_
      refine ok_bv (fun μ9 e_μ9 => ?_)
      have hI_μ9 : IX μ9 := by rw [e_μ9]; exact IX_L hI_μ
      have hF_μ9 : Fr [(0, 30, 5), (1, 33, 0), (1, 34, 0)] true μ μ9 := by rw [e_μ9]; exact hF_μ
      have hr_μ9 : μ9.2.2 = μ.2.2 := (by rw [e_μ9]; rfl : μ9.2.2 = μ.2.2).trans hr_μ
      refine ok_bv (fun v10 ev10 => ?_)
      first | have tv10 : v10.toInt = (a7.toInt + 1) := (congrArg Int32.toInt ev10).trans (TI.e (n := (a7.toInt + 1)) (TI.add TI.rf (TI.lit (by decide)) (by omega) (by omega))) | have tv10 : v10.toInt ≤ a7.toInt + 1 := by rw [ev10]; exact ti_inc _ | skip
      exact ok_mono (ih a3 (sh_f (sh_k q3)) a4 a6 v10 μ9 hI_μ9 (by (try rw [hr_μ9]); omega)) (fun q h => ⟨h.1, hF_μ9.trans h.2.1, h.2.2⟩)
set_option maxHeartbeats 4000000 in
set_option maxRecDepth 100000 in
theorem k_X8_build_b130 {n17 : Nat} (K17 : Nat → Nat → Nat → Int32 → Int32 → Int32 → Mem → Option (Int32 × Mem)) (hK17 : ∀ (z1 : Nat) (w1 : sh 0 z1 = (0, 1)) (z2 : Nat) (w2 : (sh 0 z2).1 = 3) (z3 : Nat) (w3 : (sh 0 z3).1 = 3) (z4 : Int32) (z5 : Int32) (z6 : Int32) (μ1 : Mem), IX μ1 → (0 ≤ (z4).toInt ∧ (z4).toInt ≤ 264 ∧ -1 ≤ (z6).toInt ∧ (z6).toInt < (μ1.1 z1 2).toInt ∧ (z6).toInt + 1 < n17) → ok (K17 z1 z2 z3 z4 z5 z6 μ1) (fun q => IX q.2 ∧ Fr [(0, 30, 5), (1, 33, 0), (1, 34, 0)] true μ1 q.2 ∧ (0 ≤ (q.1).toInt ∧ (q.1).toInt ≤ ((sh 0 z3).2 : Int)))) (a1 : Nat) (q1 : sh 0 a1 = (0, 1)) (a2 : Nat) (q2 : (sh 0 a2).1 = 3) (a3 : Nat) (q3 : (sh 0 a3).1 = 3) (a4 : Int32) (a5 : Int32) (a6 : Int32) (μ : Mem) (hI_μ : IX μ) (hc : 0 ≤ (a4).toInt ∧ (a4).toInt ≤ 264 ∧ 0 ≤ (a6).toInt ∧ (a6).toInt < (μ.1 a1 2).toInt ∧ (a6).toInt + 1 < n17 + 1) : ok (p_X8_build_b130 K17 a1 a2 a3 a4 a5 a6 μ) (fun q => IX q.2 ∧ Fr [(0, 30, 5), (1, 33, 0), (1, 34, 0)] true μ q.2 ∧ (0 ≤ (q.1).toInt ∧ (q.1).toInt ≤ ((sh 0 a3).2 : Int))) := by
  have lim1 : (-1 : Int32).toInt = -1 := by decide
  have li0 : (0 : Int32).toInt = 0 := by decide
  have li1 : (1 : Int32).toInt = 1 := by decide
  have hF_μ : Fr [(0, 30, 5), (1, 33, 0), (1, 34, 0)] true μ μ := Fr.rf
  have hr_μ : μ.2.2 = μ.2.2 := rfl
  rw [p_X8_build_b130_eq]
  have lo_a4 := ti_lo a4
  have hi_a4 := ti_hi a4
  have lo_a5 := ti_lo a5
  have hi_a5 := ti_hi a5
  have lo_a6 := ti_lo a6
  have hi_a6 := ti_hi a6
  have g19 := rgp q1 hI_μ
  refine ok_bv (fun v20 ev20 => ?_)
  first | have tv20 : v20.toInt = (a6.toInt + (-1)) := (congrArg Int32.toInt ev20).trans (TI.e (n := (a6.toInt + (-1))) (TI.add TI.rf (TI.lit (by decide)) (by omega) (by omega))) | skip
  exact ok_mono (hK17 a1 q1 a2 (sh_f (sh_k q2)) a3 (sh_f (sh_k q3)) a4 a5 v20 μ hI_μ (by omega)) (fun q h => ⟨h.1, hF_μ.trans h.2.1, h.2.2⟩)
set_option maxHeartbeats 4000000 in
set_option maxRecDepth 100000 in
theorem k_X8_build_b108 {n17 : Nat} (K17 : Nat → Nat → Nat → Int32 → Int32 → Int32 → Mem → Option (Int32 × Mem)) (hK17 : ∀ (z1 : Nat) (w1 : sh 0 z1 = (0, 1)) (z2 : Nat) (w2 : (sh 0 z2).1 = 3) (z3 : Nat) (w3 : (sh 0 z3).1 = 3) (z4 : Int32) (z5 : Int32) (z6 : Int32) (μ1 : Mem), IX μ1 → (0 ≤ (z4).toInt ∧ (z4).toInt ≤ 264 ∧ -1 ≤ (z6).toInt ∧ (z6).toInt < (μ1.1 z1 2).toInt ∧ (z6).toInt + 1 < n17) → ok (K17 z1 z2 z3 z4 z5 z6 μ1) (fun q => IX q.2 ∧ Fr [(0, 30, 5), (1, 33, 0), (1, 34, 0)] true μ1 q.2 ∧ (0 ≤ (q.1).toInt ∧ (q.1).toInt ≤ ((sh 0 z3).2 : Int)))) (a1 : Nat) (q1 : sh 0 a1 = (0, 1)) (a2 : Nat) (q2 : (sh 0 a2).1 = 3) (a3 : Nat) (q3 : (sh 0 a3).1 = 3) (a4 : Int32) (a5 : Int32) (a6 : Int32) (a7 : Int64) (μ : Mem) (hI_μ : IX μ) (hc : 0 ≤ (a4).toInt ∧ (a4).toInt ≤ 264 ∧ 0 ≤ (a6).toInt ∧ (a6).toInt < (μ.1 a1 2).toInt ∧ (a6).toInt + 1 < n17 + 1) : ok (p_X8_build_b108 K17 a1 a2 a3 a4 a5 a6 a7 μ) (fun q => IX q.2 ∧ Fr [(0, 30, 5), (1, 33, 0), (1, 34, 0)] true μ q.2 ∧ (0 ≤ (q.1).toInt ∧ (q.1).toInt ≤ ((sh 0 a3).2 : Int))) := by
  have li0 : (0 : Int32).toInt = 0 := by decide
  have li1 : (1 : Int32).toInt = 1 := by decide
  have li264 : (264 : Int32).toInt = 264 := by decide
  have hF_μ : Fr [(0, 30, 5), (1, 33, 0), (1, 34, 0)] true μ μ := Fr.rf
  have hr_μ : μ.2.2 = μ.2.2 := rfl
  rw [p_X8_build_b108_eq]
  have lo_a4 := ti_lo a4
  have hi_a4 := ti_hi a4
  have lo_a5 := ti_lo a5
  have hi_a5 := ti_hi a5
  have lo_a6 := ti_lo a6
  have hi_a6 := ti_hi a6
  have g17 := rgp q1 hI_μ
  refine ok_ite ?_ ?_
  · intro c18
    rw [ti_le] at c18
    exact ok_mono (k_X8_build_b130 _ hK17 a1 q1 a2 (sh_f (sh_k q2)) a3 (sh_f (sh_k q3)) a4 a5 a6 μ hI_μ (by omega)) (fun q h => ⟨h.1, hF_μ.trans h.2.1, h.2.2⟩)
  · intro c18
    rw [ti_le] at c18
    refine ok_gd (inb_iff.mpr (by omega)) ?_
    refine ok_bv (fun μ21 e_μ21 => ?_)
    have hI_μ21 : IX μ21 := by rw [e_μ21]; exact IX_L hI_μ
    have hF_μ21 : Fr [(0, 30, 5), (1, 33, 0), (1, 34, 0)] true μ μ21 := by rw [e_μ21]; exact hF_μ
    have hr_μ21 : μ21.2.2 = μ.2.2 := (by rw [e_μ21]; rfl : μ21.2.2 = μ.2.2).trans hr_μ
    refine ok_bv (fun v22 ev22 => ?_)
    first | have tv22 : v22.toInt = (a4.toInt + 1) := (congrArg Int32.toInt ev22).trans (TI.e (n := (a4.toInt + 1)) (TI.add TI.rf (TI.lit (by decide)) (by omega) (by omega))) | have tv22 : v22.toInt ≤ a4.toInt + 1 := by rw [ev22]; exact ti_inc _ | skip
    have g23 := rgp q1 hI_μ21
    have f24 : (μ21.1 a1 2).toInt = (μ.1 a1 2).toInt := congrArg Int32.toInt ((by rw [e_μ21]; rfl : μ21.1 a1 2 = μ.1 a1 2))
    exact ok_mono (k_X8_build_b130 _ hK17 a1 q1 a2 (sh_f (sh_k q2)) a3 (sh_f (sh_k q3)) v22 a5 a6 μ21 hI_μ21 (by (try rw [hr_μ21]); omega)) (fun q h => ⟨h.1, hF_μ21.trans h.2.1, h.2.2⟩)
set_option maxHeartbeats 4000000 in
set_option maxRecDepth 100000 in
theorem k_X8_build_b63 {n17 : Nat} (K17 : Nat → Nat → Nat → Int32 → Int32 → Int32 → Mem → Option (Int32 × Mem)) (hK17 : ∀ (z1 : Nat) (w1 : sh 0 z1 = (0, 1)) (z2 : Nat) (w2 : (sh 0 z2).1 = 3) (z3 : Nat) (w3 : (sh 0 z3).1 = 3) (z4 : Int32) (z5 : Int32) (z6 : Int32) (μ1 : Mem), IX μ1 → (0 ≤ (z4).toInt ∧ (z4).toInt ≤ 264 ∧ -1 ≤ (z6).toInt ∧ (z6).toInt < (μ1.1 z1 2).toInt ∧ (z6).toInt + 1 < n17) → ok (K17 z1 z2 z3 z4 z5 z6 μ1) (fun q => IX q.2 ∧ Fr [(0, 30, 5), (1, 33, 0), (1, 34, 0)] true μ1 q.2 ∧ (0 ≤ (q.1).toInt ∧ (q.1).toInt ≤ ((sh 0 z3).2 : Int)))) (a1 : Nat) (q1 : sh 0 a1 = (0, 1)) (a2 : Nat) (q2 : (sh 0 a2).1 = 3) (a3 : Nat) (q3 : (sh 0 a3).1 = 3) (a4 : Int32) (a5 : Int32) (a6 : Int32) (k0 : Int64) (μ : Mem) (hI_μ : IX μ) (hc : 0 ≤ (a4).toInt ∧ (a4).toInt ≤ 264 ∧ 0 ≤ (a6).toInt ∧ (a6).toInt < (μ.1 a1 2).toInt ∧ (a6).toInt + 1 < n17 + 1) : ok (p_X8_build_b63 K17 a1 a2 a3 a4 a5 a6 k0 μ) (fun q => IX q.2 ∧ Fr [(0, 30, 5), (1, 33, 0), (1, 34, 0)] true μ q.2 ∧ (0 ≤ (q.1).toInt ∧ (q.1).toInt ≤ ((sh 0 a3).2 : Int))) := by
  have li0 : (0 : Int32).toInt = 0 := by decide
  have li1 : (1 : Int32).toInt = 1 := by decide
  have hF_μ : Fr [(0, 30, 5), (1, 33, 0), (1, 34, 0)] true μ μ := Fr.rf
  have hr_μ : μ.2.2 = μ.2.2 := rfl
  rw [p_X8_build_b63_eq]
  have lo_a4 := ti_lo a4
  have hi_a4 := ti_hi a4
  have lo_a5 := ti_lo a5
  have hi_a5 := ti_hi a5
  have lo_a6 := ti_lo a6
  have hi_a6 := ti_hi a6
  have g16 := rgp q1 hI_μ
  exact ok_mono (k_X8_build_b108 _ hK17 a1 q1 a2 (sh_f (sh_k q2)) a3 (sh_f (sh_k q3)) a4 a5 a6 k0 μ hI_μ (by omega)) (fun q h => ⟨h.1, hF_μ.trans h.2.1, h.2.2⟩)
set_option maxHeartbeats 4000000 in
set_option maxRecDepth 100000 in
theorem k_X8_build_b62 {n17 : Nat} (K17 : Nat → Nat → Nat → Int32 → Int32 → Int32 → Mem → Option (Int32 × Mem)) (hK17 : ∀ (z1 : Nat) (w1 : sh 0 z1 = (0, 1)) (z2 : Nat) (w2 : (sh 0 z2).1 = 3) (z3 : Nat) (w3 : (sh 0 z3).1 = 3) (z4 : Int32) (z5 : Int32) (z6 : Int32) (μ1 : Mem), IX μ1 → (0 ≤ (z4).toInt ∧ (z4).toInt ≤ 264 ∧ -1 ≤ (z6).toInt ∧ (z6).toInt < (μ1.1 z1 2).toInt ∧ (z6).toInt + 1 < n17) → ok (K17 z1 z2 z3 z4 z5 z6 μ1) (fun q => IX q.2 ∧ Fr [(0, 30, 5), (1, 33, 0), (1, 34, 0)] true μ1 q.2 ∧ (0 ≤ (q.1).toInt ∧ (q.1).toInt ≤ ((sh 0 z3).2 : Int)))) (a1 : Nat) (q1 : sh 0 a1 = (0, 1)) (a2 : Nat) (q2 : (sh 0 a2).1 = 3) (a3 : Nat) (q3 : (sh 0 a3).1 = 3) (a4 : Int32) (a5 : Int32) (a6 : Int32) (μ : Mem) (hI_μ : IX μ) (hc : 0 ≤ (a4).toInt ∧ (a4).toInt ≤ 264 ∧ 0 ≤ (a6).toInt ∧ (a6).toInt < (μ.1 a1 2).toInt ∧ (a6).toInt + 1 < n17 + 1) : ok (p_X8_build_b62 K17 a1 a2 a3 a4 a5 a6 μ) (fun q => IX q.2 ∧ Fr [(0, 30, 5), (1, 33, 0), (1, 34, 0)] true μ q.2 ∧ (0 ≤ (q.1).toInt ∧ (q.1).toInt ≤ ((sh 0 a3).2 : Int))) := by
  have li0 : (0 : Int32).toInt = 0 := by decide
  have li1 : (1 : Int32).toInt = 1 := by decide
  have hF_μ : Fr [(0, 30, 5), (1, 33, 0), (1, 34, 0)] true μ μ := Fr.rf
  have hr_μ : μ.2.2 = μ.2.2 := rfl
  rw [p_X8_build_b62_eq]
  have lo_a4 := ti_lo a4
  have hi_a4 := ti_hi a4
  have lo_a5 := ti_lo a5
  have hi_a5 := ti_hi a5
  have lo_a6 := ti_lo a6
  have hi_a6 := ti_hi a6
  have g15 := rgp q1 hI_μ
  exact ok_mono (k_X8_build_b63 _ hK17 a1 q1 a2 (sh_f (sh_k q2)) a3 (sh_f (sh_k q3)) a4 a5 a6 (0 : Int64) μ hI_μ (by omega)) (fun q h => ⟨h.1, hF_μ.trans h.2.1, h.2.2⟩)
set_option maxHeartbeats 4000000 in
set_option maxRecDepth 100000 in
theorem k_X8_build_b17 : ∀ (n : Nat) (a1 : Nat) (q1 : sh 0 a1 = (0, 1)) (a2 : Nat) (q2 : (sh 0 a2).1 = 3) (a3 : Nat) (q3 : (sh 0 a3).1 = 3) (a4 : Int32) (a5 : Int32) (a6 : Int32) (μ : Mem), IX μ → (0 ≤ (a4).toInt ∧ (a4).toInt ≤ 264 ∧ -1 ≤ (a6).toInt ∧ (a6).toInt < (μ.1 a1 2).toInt ∧ (a6).toInt + 1 < n) → ok (p_X8_build_b17 n a1 a2 a3 a4 a5 a6 μ) (fun q => IX q.2 ∧ Fr [(0, 30, 5), (1, 33, 0), (1, 34, 0)] true μ q.2 ∧ (0 ≤ (q.1).toInt ∧ (q.1).toInt ≤ ((sh 0 a3).2 : Int))) := by
  have lim2 : (-2 : Int32).toInt = -2 := by decide
  have lim1 : (-1 : Int32).toInt = -1 := by decide
  have li0 : (0 : Int32).toInt = 0 := by decide
  have li1 : (1 : Int32).toInt = 1 := by decide
  have li2 : (2 : Int32).toInt = 2 := by decide
  have li4 : (4 : Int32).toInt = 4 := by decide
  intro n
  induction n with
  | zero => intro a1 q1 a2 q2 a3 q3 a4 a5 a6 μ hI_μ hc; exact absurd hc (by have lo_a4 := ti_lo a4; have hi_a4 := ti_hi a4; have lo_a5 := ti_lo a5; have hi_a5 := ti_hi a5; have lo_a6 := ti_lo a6; have hi_a6 := ti_hi a6; omega)
  | succ n ih =>
    intro a1 q1 a2 q2 a3 q3 a4 a5 a6 μ hI_μ hc
    have hF_μ : Fr [(0, 30, 5), (1, 33, 0), (1, 34, 0)] true μ μ := Fr.rf
    have hr_μ : μ.2.2 = μ.2.2 := rfl
    rw [p_X8_build_b17_s]
    have lo_a4 := ti_lo a4
    have hi_a4 := ti_hi a4
    have lo_a5 := ti_lo a5
    have hi_a5 := ti_hi a5
    have lo_a6 := ti_lo a6
    have hi_a6 := ti_hi a6
    have g5 := rgp q1 hI_μ
    refine ok_ite ?_ ?_
    · intro c6
      rw [ti_lt] at c6
      refine ok_bv (fun v7 ev7 => ?_)
      first | have tv7 : v7.toInt = (min a4.toInt ((sh 0 a3).2 : Int)) := (congrArg Int32.toInt ev7).trans (TI.e (n := (min a4.toInt ((sh 0 a3).2 : Int))) (TI.min TI.rf (TI.len a3))) | skip
      obtain ⟨fu, hfu0, hfu⟩ := fuel_ex
      rw [hfu0]
      exact ok_mono (k_X8_build_b148  fu a3 (sh_f (sh_k q3)) a4 v7 (0 : Int32) μ hI_μ (by omega)) (fun q h => ⟨h.1, hF_μ.trans h.2.1, h.2.2⟩)
    · intro c6
      rw [ti_lt] at c6
      refine ok_gd (inb_iff.mpr (by omega)) ?_
      refine ok_bv (fun v11 ev11 => ?_)
      refine ok_ite ?_ ?_
      · intro c12
        rw [ti_eq] at c12
        refine ok_bv (fun v13 ev13 => ?_)
        first | have tv13 : v13.toInt = (a5.toInt + (-1)) := (congrArg Int32.toInt ev13).trans (TI.e (n := (a5.toInt + (-1))) (TI.add TI.rf (TI.lit (by decide)) (by omega) (by omega))) | skip
        refine ok_ite ?_ ?_
        · intro c14
          rw [ti_lt] at c14
          exact ok_mono (k_X8_build_b62 _ ih a1 q1 a2 (sh_f (sh_k q2)) a3 (sh_f (sh_k q3)) a4 v13 a6 μ hI_μ (by omega)) (fun q h => ⟨h.1, hF_μ.trans h.2.1, h.2.2⟩)
        · intro c14
          rw [ti_lt] at c14
          refine ok_ite ?_ ?_
          · intro c25
            rw [ti_le] at c25
            try rw [TI.e (e := (Int32.ofNat ((sh 0 a2).2))) (n := ((sh 0 a2).2 : Int)) (TI.len a2)] at c25
            exact ok_mono (k_X8_build_b62 _ ih a1 q1 a2 (sh_f (sh_k q2)) a3 (sh_f (sh_k q3)) a4 v13 a6 μ hI_μ (by omega)) (fun q h => ⟨h.1, hF_μ.trans h.2.1, h.2.2⟩)
          · intro c25
            rw [ti_le] at c25
            try rw [TI.e (e := (Int32.ofNat ((sh 0 a2).2))) (n := ((sh 0 a2).2 : Int)) (TI.len a2)] at c25
            refine ok_gd (inb_iff.mpr (by omega)) ?_
            exact ok_mono (k_X8_build_b63 _ ih a1 q1 a2 (sh_f (sh_k q2)) a3 (sh_f (sh_k q3)) a4 v13 a6 (μ.2.1 a2 v13.toNatClampNeg) μ hI_μ (by omega)) (fun q h => ⟨h.1, hF_μ.trans h.2.1, h.2.2⟩)
      · intro c12
        rw [ti_eq] at c12
        refine ok_ite ?_ ?_
        · intro c26
          rw [ti_eq] at c26
          refine ok_ite ?_ ?_
          · intro c27
            rw [ti_lt] at c27
            exact ok_mono (k_X8_build_b108 _ ih a1 q1 a2 (sh_f (sh_k q2)) a3 (sh_f (sh_k q3)) a4 a5 a6 v11 μ hI_μ (by omega)) (fun q h => ⟨h.1, hF_μ.trans h.2.1, h.2.2⟩)
          · intro c27
            rw [ti_lt] at c27
            refine ok_bv (fun v28 ev28 => ?_)
            first | have tv28 : v28.toInt = (a4.toInt + (-2)) := (congrArg Int32.toInt ev28).trans (TI.e (n := (a4.toInt + (-2))) (TI.add TI.rf (TI.lit (by decide)) (by omega) (by omega))) | skip
            refine ok_gd (inb_iff.mpr (by (try rw [TI.e (e := (v28 + (1 : Int32))) (n := (v28.toInt + 1)) (TI.add TI.rf (TI.lit (by decide)) (by omega) (by omega))]); omega)) ?_
            refine ok_gd (inb_iff.mpr (by omega)) ?_
            refine ok_bd (k_X8_pair (μ.2.1 35 (v28 + (1 : Int32)).toNatClampNeg) (μ.2.1 35 v28.toNatClampNeg) μ hI_μ) ?_
            rintro r30 μ29 ⟨hI_μ29, hC_μ29⟩
            have hI_μ29 : IX μ29 := hI_μ29
            have hC_μ29 : Fr [(0, 30, 5), (1, 33, 0), (1, 34, 0)] true μ μ29 := hC_μ29
            have hF_μ29 : Fr [(0, 30, 5), (1, 33, 0), (1, 34, 0)] true μ μ29 := hF_μ.trans (hC_μ29.mono (by decide +kernel) (by decide))
            have hr_μ29 : μ29.2.2 = μ.2.2 := (hC_μ29.2 rfl : μ29.2.2 = μ.2.2).trans hr_μ
            have g31 := rgp q1 hI_μ29
            have f32 : (μ29.1 a1 2).toInt = (μ.1 a1 2).toInt := congrArg Int32.toInt (hC_μ29.1 _ _ (cls_free (by decide +kernel) q1))
            exact ok_mono (k_X8_build_b108 _ ih a1 q1 a2 (sh_f (sh_k q2)) a3 (sh_f (sh_k q3)) v28 a5 a6 r30 μ29 hI_μ29 (by (try rw [hr_μ29]); omega)) (fun q h => ⟨h.1, hF_μ29.trans h.2.1, h.2.2⟩)
        · intro c26
          rw [ti_eq] at c26
          exact ok_mono (k_X8_build_b108 _ ih a1 q1 a2 (sh_f (sh_k q2)) a3 (sh_f (sh_k q3)) a4 a5 a6 v11 μ hI_μ (by omega)) (fun q h => ⟨h.1, hF_μ.trans h.2.1, h.2.2⟩)
set_option maxHeartbeats 4000000 in
set_option maxRecDepth 100000 in
theorem k_X8_build (a1 : Nat) (q1 : sh 0 a1 = (0, 1)) (a2 : Nat) (q2 : (sh 0 a2).1 = 3) (a3 : Nat) (q3 : (sh 0 a3).1 = 3) (μ : Mem) (hI_μ : IX μ) : ok (p_X8_build a1 a2 a3 μ) (fun q => IX q.2 ∧ Fr [(0, 30, 5), (1, 33, 0), (1, 34, 0)] true μ q.2 ∧ (0 ≤ (q.1).toInt ∧ (q.1).toInt ≤ ((sh 0 a3).2 : Int))) := by
  have li0 : (0 : Int32).toInt = 0 := by decide
  have li1 : (1 : Int32).toInt = 1 := by decide
  have hF_μ : Fr [(0, 30, 5), (1, 33, 0), (1, 34, 0)] true μ μ := Fr.rf
  have hr_μ : μ.2.2 = μ.2.2 := rfl
  rw [p_X8_build_eq]
  refine ok_bd (k_X2_stars a1 q1 μ hI_μ) ?_
  rintro r2 μ1 hq9
  obtain rfl : μ = μ1 := hq9
  have lo_r2 := ti_lo r2
  have hi_r2 := ti_hi r2
  have g3 := rgp q1 hI_μ
  refine ok_bv (fun v4 ev4 => ?_)
  first | have tv4 : v4.toInt = ((μ.1 a1 2).toInt - 1) := (congrArg Int32.toInt ev4).trans (TI.e (n := ((μ.1 a1 2).toInt - 1)) (TI.sub TI.rf (TI.lit (by decide)) (by omega) (by omega))) | skip
  obtain ⟨fu, hfu0, hfu⟩ := fuel_ex
  rw [hfu0]
  exact ok_mono (k_X8_build_b17  fu a1 q1 a2 (sh_f (sh_k q2)) a3 (sh_f (sh_k q3)) (0 : Int32) r2 v4 μ hI_μ (by omega)) (fun q h => ⟨h.1, hF_μ.trans h.2.1, h.2.2⟩)

set_option maxHeartbeats 4000000 in
set_option maxRecDepth 100000 in
theorem k_X8_setVar (a1 : Int32) (a2 : Int64) (μ : Mem) (hI_μ : IX μ) : ok (p_X8_setVar a1 a2 μ) (fun q => IX q ∧ Fr [] true μ q) := by
  have li0 : (0 : Int32).toInt = 0 := by decide
  have li1 : (1 : Int32).toInt = 1 := by decide
  have li32 : (32 : Int32).toInt = 32 := by decide
  have li992 : (992 : Int32).toInt = 992 := by decide
  have hF_μ : Fr [] true μ μ := Fr.rf
  have hr_μ : μ.2.2 = μ.2.2 := rfl
  rw [p_X8_setVar_eq]
  have lo_a1 := ti_lo a1
  have hi_a1 := ti_hi a1
  have g1 := rg_30_10 hI_μ
  refine ok_bv (fun v2 ev2 => ?_)
  first | have tv2 : v2.toInt = (((μ.1 30 10).toInt * 32) + a1.toInt) := (congrArg Int32.toInt ev2).trans (TI.e (n := (((μ.1 30 10).toInt * 32) + a1.toInt)) (TI.add (TI.mul TI.rf (TI.lit (by decide)) (by omega) (by omega)) TI.rf (by omega) (by omega))) | skip
  refine ok_ite ?_ ?_
  · intro c3
    rw [ti_lt] at c3
    exact ok_some ⟨hI_μ, hF_μ⟩
  · intro c3
    rw [ti_lt] at c3
    refine ok_ite ?_ ?_
    · intro c4
      rw [ti_le] at c4
      exact ok_some ⟨hI_μ, hF_μ⟩
    · intro c4
      rw [ti_le] at c4
      refine ok_gd (inb_iff.mpr (by omega)) ?_
      refine ok_bv (fun μ5 e_μ5 => ?_)
      have hI_μ5 : IX μ5 := by rw [e_μ5]; exact IX_L hI_μ
      have hF_μ5 : Fr [] true μ μ5 := by rw [e_μ5]; exact hF_μ
      have hr_μ5 : μ5.2.2 = μ.2.2 := (by rw [e_μ5]; rfl : μ5.2.2 = μ.2.2).trans hr_μ
      exact ok_some ⟨hI_μ5, hF_μ5⟩

set_option maxHeartbeats 4000000 in
set_option maxRecDepth 100000 in
theorem k_X10_beginVariant_b87 : ∀ (n : Nat) (a2 : Nat) (q2 : sh 0 a2 = (0, 1)) (a3 : Int32) (a4 : Int32) (μ : Mem), IX μ → (0 ≤ (a4).toInt ∧ (a3).toInt ≤ 8 ∧ 2147483648 - (a4).toInt < n) → ok (p_X10_beginVariant_b87 n a2 a3 a4 μ) (fun q => IX q ∧ Fr [(0, 30, 5), (0, 30, 7), (0, 30, 10), (0, 39, 6), (0, 137, 7), (0, 137, 8), (0, 137, 9), (0, 137, 12), (0, 137, 13), (1, 33, 0), (1, 34, 0), (1, 42, 0), (1, 43, 0), (1, 45, 0)] true μ q) := by
  have li0 : (0 : Int32).toInt = 0 := by decide
  have li1 : (1 : Int32).toInt = 1 := by decide
  intro n
  induction n with
  | zero => intro a2 q2 a3 a4 μ hI_μ hc; exact absurd hc (by have lo_a3 := ti_lo a3; have hi_a3 := ti_hi a3; have lo_a4 := ti_lo a4; have hi_a4 := ti_hi a4; omega)
  | succ n ih =>
    intro a2 q2 a3 a4 μ hI_μ hc
    have hF_μ : Fr [(0, 30, 5), (0, 30, 7), (0, 30, 10), (0, 39, 6), (0, 137, 7), (0, 137, 8), (0, 137, 9), (0, 137, 12), (0, 137, 13), (1, 33, 0), (1, 34, 0), (1, 42, 0), (1, 43, 0), (1, 45, 0)] true μ μ := Fr.rf
    have hr_μ : μ.2.2 = μ.2.2 := rfl
    rw [p_X10_beginVariant_b87_s]
    have lo_a3 := ti_lo a3
    have hi_a3 := ti_hi a3
    have lo_a4 := ti_lo a4
    have hi_a4 := ti_hi a4
    refine ok_ite ?_ ?_
    · intro c19
      rw [ti_le] at c19
      have g20 := ti_lo (μ.1 a2 3)
      have g20h := ti_hi (μ.1 a2 3)
      refine ok_bd (k_X3_startOf (sel 2 (μ.2.2 137 5)) (sel_2 _) (μ.1 a2 3) μ hI_μ) ?_
      rintro r22 μ21 hq9
      obtain rfl : μ = μ21 := hq9
      have lo_r22 := ti_lo r22
      have hi_r22 := ti_hi r22
      refine ok_bv (fun μ23 e_μ23 => ?_)
      have hI_μ23 : IX μ23 := by rw [e_μ23]; exact IX_F hI_μ (rt_137_9 _)
      have hF_μ23 : Fr [(0, 30, 5), (0, 30, 7), (0, 30, 10), (0, 39, 6), (0, 137, 7), (0, 137, 8), (0, 137, 9), (0, 137, 12), (0, 137, 13), (1, 33, 0), (1, 34, 0), (1, 42, 0), (1, 43, 0), (1, 45, 0)] true μ μ23 := by rw [e_μ23]; exact Fr.put hF_μ (by decide +kernel)
      have v_μ23 : (μ23.1 137 9).toInt = r22.toInt := by rw [e_μ23, sF_v]
      have hr_μ23 : μ23.2.2 = μ.2.2 := (by rw [e_μ23]; rfl : μ23.2.2 = μ.2.2).trans hr_μ
      try rw [hr_μ23]
      exact ok_some ⟨hI_μ23, hF_μ23⟩
    · intro c19
      rw [ti_le] at c19
      refine ok_gd (inb_iff.mpr (by omega)) ?_
      refine ok_bw (k_X8_setVar a4 (μ.2.1 141 a4.toNatClampNeg) μ hI_μ) ?_
      rintro μ24 ⟨hI_μ24, hC_μ24⟩
      have hF_μ24 : Fr [(0, 30, 5), (0, 30, 7), (0, 30, 10), (0, 39, 6), (0, 137, 7), (0, 137, 8), (0, 137, 9), (0, 137, 12), (0, 137, 13), (1, 33, 0), (1, 34, 0), (1, 42, 0), (1, 43, 0), (1, 45, 0)] true μ μ24 := hF_μ.trans (hC_μ24.mono (by decide +kernel) (by decide))
      have hr_μ24 : μ24.2.2 = μ.2.2 := (hC_μ24.2 rfl : μ24.2.2 = μ.2.2).trans hr_μ
      try rw [hr_μ24]
      refine ok_bv (fun v26 ev26 => ?_)
      first | have tv26 : v26.toInt = (a4.toInt + 1) := (congrArg Int32.toInt ev26).trans (TI.e (n := (a4.toInt + 1)) (TI.add TI.rf (TI.lit (by decide)) (by omega) (by omega))) | have tv26 : v26.toInt ≤ a4.toInt + 1 := by rw [ev26]; exact ti_inc _ | skip
      exact ok_mono (ih a2 q2 a3 v26 μ24 hI_μ24 (by (try rw [hr_μ24]); omega)) (fun q h => ⟨h.1, hF_μ24.trans h.2⟩)
set_option maxHeartbeats 4000000 in
set_option maxRecDepth 100000 in
theorem k_X10_beginVariant (a1 : Int32) (μ : Mem) (hI_μ : IX μ) : ok (p_X10_beginVariant a1 μ) (fun q => IX q ∧ Fr [(0, 30, 5), (0, 30, 7), (0, 30, 10), (0, 39, 6), (0, 137, 7), (0, 137, 8), (0, 137, 9), (0, 137, 12), (0, 137, 13), (1, 33, 0), (1, 34, 0), (1, 42, 0), (1, 43, 0), (1, 45, 0)] true μ q) := by
  have li0 : (0 : Int32).toInt = 0 := by decide
  have li1 : (1 : Int32).toInt = 1 := by decide
  have li3 : (3 : Int32).toInt = 3 := by decide
  have hF_μ : Fr [(0, 30, 5), (0, 30, 7), (0, 30, 10), (0, 39, 6), (0, 137, 7), (0, 137, 8), (0, 137, 9), (0, 137, 12), (0, 137, 13), (1, 33, 0), (1, 34, 0), (1, 42, 0), (1, 43, 0), (1, 45, 0)] true μ μ := Fr.rf
  have hr_μ : μ.2.2 = μ.2.2 := rfl
  rw [p_X10_beginVariant_eq]
  have lo_a1 := ti_lo a1
  have hi_a1 := ti_hi a1
  refine ok_bv (fun μ1 e_μ1 => ?_)
  have hI_μ1 : IX μ1 := by rw [e_μ1]; exact IX_F hI_μ (rt_137_7 _)
  have hF_μ1 : Fr [(0, 30, 5), (0, 30, 7), (0, 30, 10), (0, 39, 6), (0, 137, 7), (0, 137, 8), (0, 137, 9), (0, 137, 12), (0, 137, 13), (1, 33, 0), (1, 34, 0), (1, 42, 0), (1, 43, 0), (1, 45, 0)] true μ μ1 := by rw [e_μ1]; exact Fr.put hF_μ (by decide +kernel)
  have v_μ1 : (μ1.1 137 7).toInt = a1.toInt := by rw [e_μ1, sF_v]
  have hr_μ1 : μ1.2.2 = μ.2.2 := (by rw [e_μ1]; rfl : μ1.2.2 = μ.2.2).trans hr_μ
  try rw [hr_μ1]
  have g2 := rg_39_2 hI_μ1
  refine ok_ite ?_ ?_
  · intro c3
    rw [ti_lt] at c3
    refine ok_bd (k_X5_patternOf a1 μ1 hI_μ1) ?_
    rintro r5 μ4 ⟨hq9, p_r5⟩
    obtain rfl : μ1 = μ4 := hq9
    have qr5 : sh 0 r5 = (0, 1) := p_r5
    try rw [hr_μ1]
    refine ok_bd (k_X5_addBlock  μ1 hI_μ1) ?_
    rintro r7 μ6 ⟨hI_μ6, hC_μ6⟩
    have hI_μ6 : IX μ6 := hI_μ6
    have hC_μ6 : Fr [(0, 39, 6), (1, 42, 0), (1, 43, 0)] true μ1 μ6 := hC_μ6
    have lo_r7 := ti_lo r7
    have hi_r7 := ti_hi r7
    have hF_μ6 : Fr [(0, 30, 5), (0, 30, 7), (0, 30, 10), (0, 39, 6), (0, 137, 7), (0, 137, 8), (0, 137, 9), (0, 137, 12), (0, 137, 13), (1, 33, 0), (1, 34, 0), (1, 42, 0), (1, 43, 0), (1, 45, 0)] true μ μ6 := hF_μ1.trans (hC_μ6.mono (by decide +kernel) (by decide))
    have hr_μ6 : μ6.2.2 = μ.2.2 := (hC_μ6.2 rfl : μ6.2.2 = μ1.2.2).trans hr_μ1
    try rw [hr_μ6]
    refine ok_bv (fun μ8 e_μ8 => ?_)
    have hI_μ8 : IX μ8 := by rw [e_μ8]; exact IX_F hI_μ6 (rt_137_8 _)
    have hF_μ8 : Fr [(0, 30, 5), (0, 30, 7), (0, 30, 10), (0, 39, 6), (0, 137, 7), (0, 137, 8), (0, 137, 9), (0, 137, 12), (0, 137, 13), (1, 33, 0), (1, 34, 0), (1, 42, 0), (1, 43, 0), (1, 45, 0)] true μ μ8 := by rw [e_μ8]; exact Fr.put hF_μ6 (by decide +kernel)
    have v_μ8 : (μ8.1 137 8).toInt = r7.toInt := by rw [e_μ8, sF_v]
    have hr_μ8 : μ8.2.2 = μ.2.2 := (by rw [e_μ8]; rfl : μ8.2.2 = μ6.2.2).trans hr_μ6
    try rw [hr_μ8]
    have g9 := ti_lo (μ8.1 137 8)
    have g9h := ti_hi (μ8.1 137 8)
    refine ok_bw (k_X5_setVariant a1 (3 : Int32) (μ8.1 137 8) μ8 hI_μ8 (by (try rw [hr_μ8]); omega)) ?_
    rintro μ10 ⟨hI_μ10, hC_μ10⟩
    have hF_μ10 : Fr [(0, 30, 5), (0, 30, 7), (0, 30, 10), (0, 39, 6), (0, 137, 7), (0, 137, 8), (0, 137, 9), (0, 137, 12), (0, 137, 13), (1, 33, 0), (1, 34, 0), (1, 42, 0), (1, 43, 0), (1, 45, 0)] true μ μ10 := hF_μ8.trans (hC_μ10.mono (by decide +kernel) (by decide))
    have hr_μ10 : μ10.2.2 = μ.2.2 := (hC_μ10.2 rfl : μ10.2.2 = μ8.2.2).trans hr_μ8
    try rw [hr_μ10]
    refine ok_bw (k_X8_clear  μ10 hI_μ10) ?_
    rintro μ12 ⟨hI_μ12, hC_μ12⟩
    have hF_μ12 : Fr [(0, 30, 5), (0, 30, 7), (0, 30, 10), (0, 39, 6), (0, 137, 7), (0, 137, 8), (0, 137, 9), (0, 137, 12), (0, 137, 13), (1, 33, 0), (1, 34, 0), (1, 42, 0), (1, 43, 0), (1, 45, 0)] true μ μ12 := hF_μ10.trans (hC_μ12.mono (by decide +kernel) (by decide))
    have hr_μ12 : μ12.2.2 = μ.2.2 := (hC_μ12.2 rfl : μ12.2.2 = μ10.2.2).trans hr_μ10
    try rw [hr_μ12]
    refine ok_bv (fun μ14 e_μ14 => ?_)
    have hI_μ14 : IX μ14 := by rw [e_μ14]; exact IX_F hI_μ12 (rp_137_12 (by omega))
    have hF_μ14 : Fr [(0, 30, 5), (0, 30, 7), (0, 30, 10), (0, 39, 6), (0, 137, 7), (0, 137, 8), (0, 137, 9), (0, 137, 12), (0, 137, 13), (1, 33, 0), (1, 34, 0), (1, 42, 0), (1, 43, 0), (1, 45, 0)] true μ μ14 := by rw [e_μ14]; exact Fr.put hF_μ12 (by decide +kernel)
    have v_μ14 : (μ14.1 137 12).toInt = 0 := by rw [e_μ14, sF_v]; exact TI.e (n := 0) (TI.lit (by decide))
    have hr_μ14 : μ14.2.2 = μ.2.2 := (by rw [e_μ14]; rfl : μ14.2.2 = μ12.2.2).trans hr_μ12
    try rw [hr_μ14]
    refine ok_bv (fun μ15 e_μ15 => ?_)
    have hI_μ15 : IX μ15 := by rw [e_μ15]; exact IX_F hI_μ14 (rt_137_13 _)
    have hF_μ15 : Fr [(0, 30, 5), (0, 30, 7), (0, 30, 10), (0, 39, 6), (0, 137, 7), (0, 137, 8), (0, 137, 9), (0, 137, 12), (0, 137, 13), (1, 33, 0), (1, 34, 0), (1, 42, 0), (1, 43, 0), (1, 45, 0)] true μ μ15 := by rw [e_μ15]; exact Fr.put hF_μ14 (by decide +kernel)
    have v_μ15 : (μ15.1 137 13).toInt = 0 := by rw [e_μ15, sF_v]; exact TI.e (n := 0) (TI.lit (by decide))
    have hr_μ15 : μ15.2.2 = μ.2.2 := (by rw [e_μ15]; rfl : μ15.2.2 = μ14.2.2).trans hr_μ14
    try rw [hr_μ15]
    have l18 : (sh 0 141).2 = 8 := by rw [shx_141]
    refine ok_bd (k_X8_build r5 qr5 140 (sh_f shx_140) 141 (sh_f shx_141) μ15 hI_μ15) ?_
    rintro r17 μ16 ⟨hI_μ16, hC_μ16, p_μ16⟩
    have hI_μ16 : IX μ16 := hI_μ16
    have hC_μ16 : Fr [(0, 30, 5), (1, 33, 0), (1, 34, 0)] true μ15 μ16 := hC_μ16
    dsimp only at p_μ16
    have lo_r17 := ti_lo r17
    have hi_r17 := ti_hi r17
    have hF_μ16 : Fr [(0, 30, 5), (0, 30, 7), (0, 30, 10), (0, 39, 6), (0, 137, 7), (0, 137, 8), (0, 137, 9), (0, 137, 12), (0, 137, 13), (1, 33, 0), (1, 34, 0), (1, 42, 0), (1, 43, 0), (1, 45, 0)] true μ μ16 := hF_μ15.trans (hC_μ16.mono (by decide +kernel) (by decide))
    have hr_μ16 : μ16.2.2 = μ.2.2 := (hC_μ16.2 rfl : μ16.2.2 = μ15.2.2).trans hr_μ15
    try rw [hr_μ16]
    obtain ⟨fu, hfu0, hfu⟩ := fuel_ex
    rw [hfu0]
    exact ok_mono (k_X10_beginVariant_b87  fu r5 qr5 r17 (0 : Int32) μ16 hI_μ16 (by (try rw [hr_μ16]); omega)) (fun q h => ⟨h.1, hF_μ16.trans h.2⟩)
  · intro c3
    rw [ti_lt] at c3
    exact ok_some ⟨hI_μ1, hF_μ1⟩
