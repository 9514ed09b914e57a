set_option maxHeartbeats 4000000 in
set_option maxRecDepth 100000 in
theorem k_X12_set_b51 (a1 : Int32) (a2 : Int32) (k0 : Int32) (μ : Mem) (hI_μ : IM μ) (hc : ((k0).toInt = 0 ∨ (0 ≤ (a1).toInt ∧ (a1).toInt ≤ 2))) : ok (p_X12_set_b51 a1 a2 k0 μ) (fun q => IM q.2 ∧ Fr [(0, 0, 95), (1, 29, 0)] true μ q.2 ∧ (((q.1).toInt = 0 ∨ (q.1).toInt = 1))) := by
  have li0 : (0 : Int32).toInt = 0 := by decide
  have li1 : (1 : Int32).toInt = 1 := by decide
  have hF_μ : Fr [(0, 0, 95), (1, 29, 0)] true μ μ := Fr.rf
  have hr_μ : μ.2.2 = μ.2.2 := rfl
  rw [p_X12_set_b51_eq]
  have lo_a1 := ti_lo a1
  have hi_a1 := ti_hi a1
  have lo_a2 := ti_lo a2
  have hi_a2 := ti_hi a2
  have lo_k0 := ti_lo k0
  have hi_k0 := ti_hi k0
  refine ok_ite ?_ ?_
  · intro c2
    rw [ti_eq] at c2
    exact ok_some ⟨hI_μ, hF_μ, by (try dsimp only); omega⟩
  · intro c2
    rw [ti_eq] at c2
    refine ok_gd (inb_iff.mpr (by omega)) ?_
    refine ok_bv (fun μ3 e_μ3 => ?_)
    have hI_μ3 : IM μ3 := by rw [e_μ3]; exact IM_F hI_μ (rtma_29 _ _)
    have hF_μ3 : Fr [(0, 0, 95), (1, 29, 0)] true μ μ3 := by rw [e_μ3]; exact Fr.puta hF_μ (by decide +kernel)
    have hr_μ3 : μ3.2.2 = μ.2.2 := (by rw [e_μ3]; rfl : μ3.2.2 = μ.2.2).trans hr_μ
    refine ok_bv (fun μ4 e_μ4 => ?_)
    have hI_μ4 : IM μ4 := by rw [e_μ4]; exact IM_F hI_μ3 (rtm_0_95 _)
    have hF_μ4 : Fr [(0, 0, 95), (1, 29, 0)] true μ μ4 := by rw [e_μ4]; exact Fr.put hF_μ3 (by decide +kernel)
    have v_μ4 : (μ4.1 0 95).toInt = 0 := by rw [e_μ4, sF_v]; exact TI.e (n := 0) (TI.lit (by decide))
    have hr_μ4 : μ4.2.2 = μ.2.2 := (by rw [e_μ4]; rfl : μ4.2.2 = μ3.2.2).trans hr_μ3
    exact ok_some ⟨hI_μ4, hF_μ4, by (try dsimp only); (try rw [hr_μ4]); omega⟩
set_option maxHeartbeats 4000000 in
set_option maxRecDepth 100000 in
theorem k_X12_set_b50 (a1 : Int32) (a2 : Int32) (μ : Mem) (hI_μ : IM μ) : ok (p_X12_set_b50 a1 a2 μ) (fun q => IM q.2 ∧ Fr [(0, 0, 95), (1, 29, 0)] true μ q.2 ∧ (((q.1).toInt = 0 ∨ (q.1).toInt = 1))) := by
  have li0 : (0 : Int32).toInt = 0 := by decide
  have li1 : (1 : Int32).toInt = 1 := by decide
  have hF_μ : Fr [(0, 0, 95), (1, 29, 0)] true μ μ := Fr.rf
  have hr_μ : μ.2.2 = μ.2.2 := rfl
  rw [p_X12_set_b50_eq]
  have lo_a1 := ti_lo a1
  have hi_a1 := ti_hi a1
  have lo_a2 := ti_lo a2
  have hi_a2 := ti_hi a2
  exact ok_mono (k_X12_set_b51  a1 a2 (0 : Int32) μ hI_μ (by omega)) (fun q h => ⟨h.1, hF_μ.trans h.2.1, h.2.2⟩)
set_option maxHeartbeats 4000000 in
set_option maxRecDepth 100000 in
theorem k_X12_set (a1 : Int32) (a2 : Int32) (μ : Mem) (hI_μ : IM μ) : ok (p_X12_set a1 a2 μ) (fun q => IM q.2 ∧ Fr [(0, 0, 95), (1, 29, 0)] true μ q.2 ∧ (((q.1).toInt = 0 ∨ (q.1).toInt = 1))) := by
  have li0 : (0 : Int32).toInt = 0 := by decide
  have li1 : (1 : Int32).toInt = 1 := by decide
  have li2 : (2 : Int32).toInt = 2 := by decide
  have li10 : (10 : Int32).toInt = 10 := by decide
  have li300 : (300 : Int32).toInt = 300 := by decide
  have hF_μ : Fr [(0, 0, 95), (1, 29, 0)] true μ μ := Fr.rf
  have hr_μ : μ.2.2 = μ.2.2 := rfl
  rw [p_X12_set_eq]
  have lo_a1 := ti_lo a1
  have hi_a1 := ti_hi a1
  have lo_a2 := ti_lo a2
  have hi_a2 := ti_hi a2
  refine ok_ite ?_ ?_
  · intro c1
    rw [ti_eq] at c1
    exact ok_mono (k_X12_set_b51  a1 a2 (s_X12_isIn a2 (0 : Int32) (12 : Int32)) μ hI_μ (by omega)) (fun q h => ⟨h.1, hF_μ.trans h.2.1, h.2.2⟩)
  · intro c1
    rw [ti_eq] at c1
    refine ok_ite ?_ ?_
    · intro c5
      rw [ti_eq] at c5
      exact ok_mono (k_X12_set_b51  a1 a2 (s_X12_isIn a2 (1 : Int32) (6 : Int32)) μ hI_μ (by omega)) (fun q h => ⟨h.1, hF_μ.trans h.2.1, h.2.2⟩)
    · intro c5
      rw [ti_eq] at c5
      refine ok_ite ?_ ?_
      · intro c6
        rw [ti_eq] at c6
        refine ok_ite ?_ ?_
        · intro c7
          rw [ti_eq] at c7
          have y8 := tf_isIn a2 (10 : Int32) (300 : Int32)
          exact ok_mono (k_X12_set_b50  a1 a2 μ hI_μ) (fun q h => ⟨h.1, hF_μ.trans h.2.1, h.2.2⟩)
        · intro c7
          rw [ti_eq] at c7
          have y9 := tf_isIn a2 (10 : Int32) (300 : Int32)
          exact ok_mono (k_X12_set_b51  a1 a2 (1 : Int32) μ hI_μ (by omega)) (fun q h => ⟨h.1, hF_μ.trans h.2.1, h.2.2⟩)
      · intro c6
        rw [ti_eq] at c6
        exact ok_mono (k_X12_set_b50  a1 a2 μ hI_μ) (fun q h => ⟨h.1, hF_μ.trans h.2.1, h.2.2⟩)

set_option maxHeartbeats 4000000 in
set_option maxRecDepth 100000 in
theorem k_X12_is (a1 : Int32) (μ : Mem) (hI_μ : IM μ) : ok (p_X12_is a1 μ) (fun q => μ = q.2) := by
  have lim1 : (-1 : Int32).toInt = -1 := by decide
  have li0 : (0 : Int32).toInt = 0 := by decide
  have li1 : (1 : Int32).toInt = 1 := by decide
  have li2 : (2 : Int32).toInt = 2 := by decide
  have li3 : (3 : Int32).toInt = 3 := by decide
  have li4 : (4 : Int32).toInt = 4 := by decide
  have li5 : (5 : Int32).toInt = 5 := by decide
  have li6 : (6 : Int32).toInt = 6 := by decide
  have li7 : (7 : Int32).toInt = 7 := by decide
  have hF_μ : Fr [] true μ μ := Fr.rf
  have hr_μ : μ.2.2 = μ.2.2 := rfl
  rw [p_X12_is_eq]
  have lo_a1 := ti_lo a1
  have hi_a1 := ti_hi a1
  refine ok_ite ?_ ?_
  · intro c2
    rw [ti_eq] at c2
    have g3 := rgm_0_17 hI_μ
    exact ok_some rfl
  intro c2
  rw [ti_eq] at c2
  refine ok_ite ?_ ?_
  · intro c4
    rw [ti_eq] at c4
    have g5 := rgm_0_45 hI_μ
    exact ok_some rfl
  intro c4
  rw [ti_eq] at c4
  refine ok_ite ?_ ?_
  · intro c6
    rw [ti_eq] at c6
    have g7 := rgm_0_47 hI_μ
    exact ok_some rfl
  intro c6
  rw [ti_eq] at c6
  refine ok_ite ?_ ?_
  · intro c8
    rw [ti_eq] at c8
    refine ok_gd (inb_iff.mpr (by (try rw [TI.e (e := (a1 - (3 : Int32))) (n := (a1.toInt - 3)) (TI.sub TI.rf (TI.lit (by decide)) (by omega) (by omega))]); omega)) ?_
    exact ok_some rfl
  intro c8
  rw [ti_eq] at c8
  refine ok_ite ?_ ?_
  · intro c9
    rw [ti_eq] at c9
    refine ok_gd (inb_iff.mpr (by (try rw [TI.e (e := (a1 - (3 : Int32))) (n := (a1.toInt - 3)) (TI.sub TI.rf (TI.lit (by decide)) (by omega) (by omega))]); omega)) ?_
    exact ok_some rfl
  intro c9
  rw [ti_eq] at c9
  refine ok_ite ?_ ?_
  · intro c10
    rw [ti_eq] at c10
    refine ok_gd (inb_iff.mpr (by (try rw [TI.e (e := (a1 - (3 : Int32))) (n := (a1.toInt - 3)) (TI.sub TI.rf (TI.lit (by decide)) (by omega) (by omega))]); omega)) ?_
    exact ok_some rfl
  intro c10
  rw [ti_eq] at c10
  refine ok_ite ?_ ?_
  · intro c11
    rw [ti_eq] at c11
    have g12 := rgm_0_3 hI_μ
    exact ok_some rfl
  intro c11
  rw [ti_eq] at c11
  refine ok_ite ?_ ?_
  · intro c13
    rw [ti_eq] at c13
    have g14 := rgm_0_18 hI_μ
    exact ok_some rfl
  intro c13
  rw [ti_eq] at c13
  exact ok_some rfl

set_option maxHeartbeats 4000000 in
set_option maxRecDepth 100000 in
theorem k_X12_holdAt (a1 : Int32) (a2 : Int32) (μ : Mem) (hI_μ : IM μ) (hc : 0 ≤ (a2).toInt ∧ (a2).toInt < 100000) : ok (p_X12_holdAt a1 a2 μ) (fun q => IM q ∧ Fr [(0, 0, 0), (0, 0, 1)] true μ q) := by
  have li0 : (0 : Int32).toInt = 0 := by decide
  have li1 : (1 : Int32).toInt = 1 := by decide
  have li4 : (4 : Int32).toInt = 4 := by decide
  have hF_μ : Fr [(0, 0, 0), (0, 0, 1)] true μ μ := Fr.rf
  have hr_μ : μ.2.2 = μ.2.2 := rfl
  rw [p_X12_holdAt_eq]
  have lo_a1 := ti_lo a1
  have hi_a1 := ti_hi a1
  have lo_a2 := ti_lo a2
  have hi_a2 := ti_hi a2
  refine ok_ite ?_ ?_
  · intro c1
    rw [ti_le] at c1
    refine ok_gd (inb_iff.mpr (by omega)) ?_
    refine ok_gd (inb_iff.mpr (by omega)) ?_
    refine ok_bw (k_X12_give (1 : Int32) (s_X12_floatOf (μ.1 30 a2.toNatClampNeg) (μ.1 31 a2.toNatClampNeg)) μ hI_μ) ?_
    rintro μ2 ⟨hI_μ2, hC_μ2⟩
    have hF_μ2 : Fr [(0, 0, 0), (0, 0, 1)] true μ μ2 := hF_μ.trans (hC_μ2.mono (by decide +kernel) (by decide))
    have hr_μ2 : μ2.2.2 = μ.2.2 := (hC_μ2.2 rfl : μ2.2.2 = μ.2.2).trans hr_μ
    exact ok_some ⟨hI_μ2, hF_μ2⟩
  · intro c1
    rw [ti_le] at c1
    refine ok_gd (inb_iff.mpr (by omega)) ?_
    refine ok_gd (inb_iff.mpr (by omega)) ?_
    refine ok_bs (k_X12_intOf (μ.1 30 a2.toNatClampNeg) (μ.1 31 a2.toNatClampNeg)) (fun r4 p_r4 => ?_)
    have lo_r4 := ti_lo r4
    have hi_r4 := ti_hi r4
    refine ok_bw (k_X12_give (0 : Int32) r4 μ hI_μ) ?_
    rintro μ5 ⟨hI_μ5, hC_μ5⟩
    have hF_μ5 : Fr [(0, 0, 0), (0, 0, 1)] true μ μ5 := hF_μ.trans (hC_μ5.mono (by decide +kernel) (by decide))
    have hr_μ5 : μ5.2.2 = μ.2.2 := (hC_μ5.2 rfl : μ5.2.2 = μ.2.2).trans hr_μ
    exact ok_some ⟨hI_μ5, hF_μ5⟩

set_option maxHeartbeats 4000000 in
set_option maxRecDepth 100000 in
theorem k_X12_canRun_b16  (μ : Mem) (hI_μ : IM μ) : ok (p_X12_canRun_b16  μ) (fun q => μ = q.2) := by
  have li0 : (0 : Int32).toInt = 0 := by decide
  have li1 : (1 : Int32).toInt = 1 := by decide
  have hF_μ : Fr [] true μ μ := Fr.rf
  have hr_μ : μ.2.2 = μ.2.2 := rfl
  rw [p_X12_canRun_b16_eq]
  have g2 := rgm_0_47 hI_μ
  have g3 := rgm_0_45 hI_μ
  refine ok_ite ?_ ?_
  · intro c4
    rw [ti_eq] at c4
    exact ok_some rfl
  · intro c4
    rw [ti_eq] at c4
    exact ok_some rfl
set_option maxHeartbeats 4000000 in
set_option maxRecDepth 100000 in
theorem k_X12_canRun (a1 : Int32) (μ : Mem) (hI_μ : IM μ) : ok (p_X12_canRun a1 μ) (fun q => μ = q.2) := by
  have li0 : (0 : Int32).toInt = 0 := by decide
  have li1 : (1 : Int32).toInt = 1 := by decide
  have hF_μ : Fr [] true μ μ := Fr.rf
  have hr_μ : μ.2.2 = μ.2.2 := rfl
  rw [p_X12_canRun_eq]
  have lo_a1 := ti_lo a1
  have hi_a1 := ti_hi a1
  refine ok_ite ?_ ?_
  · intro c1
    rw [ti_eq] at c1
    exact ok_mono (k_X12_canRun_b16   μ hI_μ) (fun q h => h)
  · intro c1
    rw [ti_eq] at c1
    refine ok_ite ?_ ?_
    · intro c5
      rw [ti_eq] at c5
      have g6 := ti_lo (μ.1 0 95)
      have g6h := ti_hi (μ.1 0 95)
      refine ok_ite ?_ ?_
      · intro c7
        rw [ti_eq] at c7
        exact ok_some rfl
      · intro c7
        rw [ti_eq] at c7
        exact ok_mono (k_X12_canRun_b16   μ hI_μ) (fun q h => h)
    · intro c5
      rw [ti_eq] at c5
      exact ok_some rfl

set_option maxHeartbeats 4000000 in
set_option maxRecDepth 100000 in
theorem k_X12_output (a1 : Int32) (a2 : Int32) (μ : Mem) (hI_μ : IM μ) : ok (p_X12_output a1 a2 μ) (fun q => μ = q.2) := by
  have lim1 : (-1 : Int32).toInt = -1 := by decide
  have li0 : (0 : Int32).toInt = 0 := by decide
  have li1 : (1 : Int32).toInt = 1 := by decide
  have hF_μ : Fr [] true μ μ := Fr.rf
  have hr_μ : μ.2.2 = μ.2.2 := rfl
  rw [p_X12_output_eq]
  have lo_a1 := ti_lo a1
  have hi_a1 := ti_hi a1
  have lo_a2 := ti_lo a2
  have hi_a2 := ti_hi a2
  have g1 := rgm_0_132 hI_μ
  refine ok_ite ?_ ?_
  · intro c2
    rw [ti_eq] at c2
    have y3 := tf_isIn a1 (0 : Int32) ((μ.1 0 132) - (1 : Int32))
    try rw [TI.e (e := ((μ.1 0 132) - (1 : Int32))) (n := ((μ.1 0 132).toInt - 1)) (TI.sub TI.rf (TI.lit (by decide)) (by omega) (by omega))] at y3
    exact ok_some rfl
  · intro c2
    rw [ti_eq] at c2
    have y4 := tf_isIn a1 (0 : Int32) ((μ.1 0 132) - (1 : Int32))
    try rw [TI.e (e := ((μ.1 0 132) - (1 : Int32))) (n := ((μ.1 0 132).toInt - 1)) (TI.sub TI.rf (TI.lit (by decide)) (by omega) (by omega))] at y4
    refine ok_ite ?_ ?_
    · intro c5
      rw [ti_eq] at c5
      have y6 := tf_isIn a2 (0 : Int32) (1 : Int32)
      exact ok_some rfl
    · intro c5
      rw [ti_eq] at c5
      have y7 := tf_isIn a2 (0 : Int32) (1 : Int32)
      refine ok_ite ?_ ?_
      · intro c8
        rw [ti_eq] at c8
        refine ok_gd (inb_iff.mpr (by omega)) ?_
        exact ok_some rfl
      · intro c8
        rw [ti_eq] at c8
        refine ok_gd (inb_iff.mpr (by omega)) ?_
        exact ok_some rfl

set_option maxHeartbeats 4000000 in
set_option maxRecDepth 100000 in
theorem k_X12_place (a1 : Int32) (μ : Mem) (hI_μ : IM μ) : ok (p_X12_place a1 μ) (fun q => μ = q.2) := by
  have li0 : (0 : Int32).toInt = 0 := by decide
  have li1 : (1 : Int32).toInt = 1 := by decide
  have li7 : (7 : Int32).toInt = 7 := by decide
  have hF_μ : Fr [] true μ μ := Fr.rf
  have hr_μ : μ.2.2 = μ.2.2 := rfl
  rw [p_X12_place_eq]
  have lo_a1 := ti_lo a1
  have hi_a1 := ti_hi a1
  refine ok_ite ?_ ?_
  · intro c1
    rw [ti_eq] at c1
    have y2 := tf_isIn a1 (0 : Int32) (7 : Int32)
    exact ok_some rfl
  · intro c1
    rw [ti_eq] at c1
    have y3 := tf_isIn a1 (0 : Int32) (7 : Int32)
    refine ok_gd (inb_iff.mpr (by omega)) ?_
    exact ok_some rfl

set_option maxHeartbeats 4000000 in
set_option maxRecDepth 100000 in
theorem k_X12_octet (a1 : Int32) (μ : Mem) (hI_μ : IM μ) : ok (p_X12_octet a1 μ) (fun q => μ = q.2) := by
  have lim1 : (-1 : Int32).toInt = -1 := by decide
  have li0 : (0 : Int32).toInt = 0 := by decide
  have li1 : (1 : Int32).toInt = 1 := by decide
  have hF_μ : Fr [] true μ μ := Fr.rf
  have hr_μ : μ.2.2 = μ.2.2 := rfl
  rw [p_X12_octet_eq]
  have lo_a1 := ti_lo a1
  have hi_a1 := ti_hi a1
  have g1 := rgm_0_139 hI_μ
  refine ok_ite ?_ ?_
  · intro c2
    rw [ti_eq] at c2
    have y3 := tf_isIn a1 (0 : Int32) ((μ.1 0 139) - (1 : Int32))
    try rw [TI.e (e := ((μ.1 0 139) - (1 : Int32))) (n := ((μ.1 0 139).toInt - 1)) (TI.sub TI.rf (TI.lit (by decide)) (by omega) (by omega))] at y3
    exact ok_some rfl
  · intro c2
    rw [ti_eq] at c2
    have y4 := tf_isIn a1 (0 : Int32) ((μ.1 0 139) - (1 : Int32))
    try rw [TI.e (e := ((μ.1 0 139) - (1 : Int32))) (n := ((μ.1 0 139).toInt - 1)) (TI.sub TI.rf (TI.lit (by decide)) (by omega) (by omega))] at y4
    refine ok_gd (inb_iff.mpr (by omega)) ?_
    exact ok_some rfl
