set_option maxHeartbeats 4000000 in
set_option maxRecDepth 100000 in
theorem k_X12_set_b51 (a1 : Int32) (a2 : Int32) (k0 : Int32) (μ : Mem) (hI_μ : IM μ) (hc : ((k0).toInt = 0 ∨ (0 ≤ (a1).toInt ∧ (a1).toInt ≤ 2))) : ok (p_X12_set_b51 a1 a2 k0 μ) (fun q => IM q.2 ∧ Fr [(0, 0, 95), (1, 29, 0)] true μ q.2 ∧ (((q.1).toInt = 0 ∨ (q.1).toInt = 1))) := by
  have li0 : (0 : Int32).toInt = 0 := by decide
  have li1 : (1 : Int32).toInt = 1 := by decide
  have hF_μ : Fr [(0, 0, 95), (1, 29, 0)] true μ μ := Fr.rf
  have hr_μ : μ.2.2 = μ.2.2 := rfl
  rw [p_X12_set_b51_eq]
  have lo_a1 := ti_lo a1
  have hi_a1 := ti_hi a1
  have lo_a2 := ti_lo a2
  have hi_a2 := ti_hi a2
  have lo_k0 := ti_lo k0
  have hi_k0 := ti_hi k0
  refine ok_ite ?_ ?_
  · intro c2
    rw [ti_eq] at c2
    exact ok_some ⟨hI_μ, hF_μ, by (try dsimp only); omega⟩
  · intro c2
    rw [ti_eq] at c2
    refine ok_gd (inb_iff.mpr (by omega)) ?_
    refine ok_bv (fun μ3 e_μ3 => ?_)
    have hI_μ3 : IM μ3 := by rw [e_μ3]; exact IM_F hI_μ (rtma_29 _ _)
    have hF_μ3 : Fr [(0, 0, 95), (1, 29, 0)] true μ μ3 := by rw [e_μ3]; exact Fr.puta hF_μ (by decide +kernel)
    have hr_μ3 : μ3.2.2 = μ.2.2 := (by rw [e_μ3]; rfl : μ3.2.2 = μ.2.2).trans hr_μ
    refine ok_bv (fun μ4 e_μ4 => ?_)
    have hI_μ4 : IM μ4 := by rw [e_μ4]; exact IM_F hI_μ3 (rtm_0_95 _)
    have hF_μ4 : Fr [(0, 0, 95), (1, 29, 0)] true μ μ4 := by rw [e_μ4]; exact Fr.put hF_μ3 (by decide +kernel)
    have v_μ4 : (μ4.1 0 95).toInt = 0 := by rw [e_μ4, sF_v]; exact TI.e (n := 0) (TI.lit (by decide))
    have hr_μ4 : μ4.2.2 = μ.2.2 := (by rw [e_μ4]; rfl : μ4.2.2 = μ3.2.2).trans hr_μ3
    exact ok_some ⟨hI_μ4, hF_μ4, by (try dsimp only); (try rw [hr_μ4]); omega⟩
set_option maxHeartbeats 4000000 in
set_option maxRecDepth 100000 in
theorem k_X12_set_b50 (a1 : Int32) (a2 : Int32) (μ : Mem) (hI_μ : IM μ) : ok (p_X12_set_b50 a1 a2 μ) (fun q => IM q.2 ∧ Fr [(0, 0, 95), (1, 29, 0)] true μ q.2 ∧ (((q.1).toInt = 0 ∨ (q.1).toInt = 1))) := by
  have li0 : (0 : Int32).toInt = 0 := by decide
  have li1 : (1 : Int32).toInt = 1 := by decide
  have hF_μ : Fr [(0, 0, 95), (1, 29, 0)] true μ μ := Fr.rf
  have hr_μ : μ.2.2 = μ.2.2 := rfl
  rw [p_X12_set_b50_eq]
  have lo_a1 := ti_lo a1
  have hi_a1 := ti_hi a1
  have lo_a2 := ti_lo a2
  have hi_a2 := ti_hi a2
  exact ok_mono (k_X12_set_b51  a1 a2 (0 : Int32) μ hI_μ (by omega)) (fun q h => ⟨h.1, hF_μ.trans h.2.1, h.2.2⟩)
set_option maxHeartbeats 4000000 in
set_option maxRecDepth 100000 in
theorem k_X12_set (a1 : Int32) (a2 : Int32) (μ : Mem) (hI_μ : IM μ) : ok (p_X12_set a1 a2 μ) (fun q => IM q.2 ∧ Fr [(0, 0, 95), (1, 29, 0)] true μ q.2 ∧ (((q.1).toInt = 0 ∨ (q.1).toInt = 1))) := by
  have li0 : (0 : Int32).toInt = 0 := by decide
  have li1 : (1 : Int32).toInt = 1 := by decide
  have li2 : (2 : Int32).toInt = 2 := by decide
  have li10 : (10 : Int32).toInt = 10 := by decide
  have li300 : (300 : Int32).toInt = 300 := by decide
  have hF_μ : Fr [(0, 0, 95), (1, 29, 0)] true μ μ := Fr.rf
  have hr_μ : μ.2.2 = μ.2.2 := rfl
  rw [p_X12_set_eq]
  have lo_a1 := ti_lo a1
  have hi_a1 := ti_hi a1
  have lo_a2 := ti_lo a2
  have hi_a2 := ti_hi a2
  refine ok_ite ?_ ?_
  · intro c1
    rw [ti_eq] at c1
    exact ok_mono (k_X12_set_b51  a1 a2 (s_X12_isIn a2 (0 : Int32) (12 : Int32)) μ hI_μ (by omega)) (fun q h => ⟨h.1, hF_μ.trans h.2.1, h.2.2⟩)
  · intro c1
    rw [ti_eq] at c1
    refine ok_ite ?_ ?_
    · intro c5
      rw [ti_eq] at c5
      exact ok_mono (k_X12_set_b51  a1 a2 (s_X12_isIn a2 (1 : Int32) (6 : Int32)) μ hI_μ (by omega)) (fun q h => ⟨h.1, hF_μ.trans h.2.1, h.2.2⟩)
    · intro c5
      rw [ti_eq] at c5
      refine ok_ite ?_ ?_
      · intro c6
        rw [ti_eq] at c6
        refine ok_ite ?_ ?_
        · intro c7
          rw [ti_eq] at c7
          have y8 := tf_isIn a2 (10 : Int32) (300 : Int32)
          exact ok_mono (k_X12_set_b50  a1 a2 μ hI_μ) (fun q h => ⟨h.1, hF_μ.trans h.2.1, h.2.2⟩)
        · intro c7
          rw [ti_eq] at c7
          have y9 := tf_isIn a2 (10 : Int32) (300 : Int32)
          exact ok_mono (k_X12_set_b51  a1 a2 (1 : Int32) μ hI_μ (by omega)) (fun q h => ⟨h.1, hF_μ.trans h.2.1, h.2.2⟩)
      · intro c6
        rw [ti_eq] at c6
        exact ok_mono (k_X12_set_b50  a1 a2 μ hI_μ) (fun q h => ⟨h.1, hF_μ.trans h.2.1, h.2.2⟩)

set_option maxHeartbeats 4000000 in
set_option maxRecDepth 100000 in
theorem k_X12_is (a1 : Int32) (μ : Mem) (hI_μ : IM μ) : ok (p_X12_is a1 μ) (fun q => μ = q.2) := by
  have lim1 : (-1 : Int32).toInt = -1 := by decide
  have li0 : (0 : Int32).toInt = 0 := by decide
  have li1 : (1 : Int32).toInt = 1 := by decide
  have li2 : (2 : Int32).toInt = 2 := by decide
  have li3 : (3 : Int32).toInt = 3 := by decide
  have li4 : (4 : Int32).toInt = 4 := by decide
  have li5 : (5 : Int32).toInt = 5 := by decide
  have li6 : (6 : Int32).toInt = 6 := by decide
  have li7 : (7 : Int32).toInt = 7 := by decide
  have hF_μ : Fr [] true μ μ := Fr.rf
  have hr_μ : μ.2.2 = μ.2.2 := rfl
  rw [p_X12_is_eq]
  have lo_a1 := ti_lo a1
  have hi_a1 := ti_hi a1
  refine ok_ite ?_ ?_
  · intro c2
    rw [ti_eq] at c2
    have g3 := rgm_0_17 hI_μ
    exact ok_some rfl
  intro c2
  rw [ti_eq] at c2
  refine ok_ite ?_ ?_
  · intro c4
    rw [ti_eq] at c4
    have g5 := rgm_0_45 hI_μ
    exact ok_some rfl
  intro c4
  rw [ti_eq] at c4
  refine ok_ite ?_ ?_
  · intro c6
    rw [ti_eq] at c6
    have g7 := rgm_0_47 hI_μ
    exact ok_some rfl
  intro c6
  rw [ti_eq] at c6
  refine ok_ite ?_ ?_
  · intro c8
    rw [ti_eq] at c8
    refine ok_gd (inb_iff.mpr (by (try rw [TI.e (e := (a1 - (3 : Int32))) (n := (a1.toInt - 3)) (TI.sub TI.rf (TI.lit (by decide)) (by omega) (by omega))]); omega)) ?_
    exact ok_some rfl
  intro c8
  rw [ti_eq] at c8
  refine ok_ite ?_ ?_
  · intro c9
    rw [ti_eq] at c9
    refine ok_gd (inb_iff.mpr (by (try rw [TI.e (e := (a1 - (3 : Int32))) (n := (a1.toInt - 3)) (TI.sub TI.rf (TI.lit (by decide)) (by omega) (by omega))]); omega)) ?_
    exact ok_some rfl
  intro c9
  rw [ti_eq] at c9
  refine ok_ite ?_ ?_
  · intro c10
    rw [ti_eq] at c10
    refine ok_gd (inb_iff.mpr (by (try rw [TI.e (e := (a1 - (3 : Int32))) (n := (a1.toInt - 3)) (TI.sub TI.rf (TI.lit (by decide)) (by omega) (by omega))]); omega)) ?_
    exact ok_some rfl
  intro c10
  rw [ti_eq] at c10
  refine ok_ite ?_ ?_
  · intro c11
    rw [ti_eq] at c11
    have g12 := rgm_0_3 hI_μ
    exact ok_some rfl
  intro c11
  rw [ti_eq] at c11
  refine ok_ite ?_ ?_
  · intro c13
    rw [ti_eq] at c13
    have g14 := rgm_0_18 hI_μ
    exact ok_some rfl
  intro c13
  rw [ti_eq] at c13
  exact ok_some rfl

set_option maxHeartbeats 4000000 in
set_option maxRecDepth 100000 in
theorem k_X12_node (a1 : Int32) (a2 : Int32) (μ : Mem) (hI_μ : IM μ) (hc : (μ.1 0 56).toInt < 100000) : ok (p_X12_node a1 a2 μ) (fun q => IM q.2 ∧ Fr [(0, 0, 56), (1, 30, 0), (1, 31, 0), (1, 32, 0), (1, 33, 0), (1, 34, 0)] true μ q.2 ∧ ((q.1).toInt = (μ.1 0 56).toInt ∧ (q.2.1 0 56).toInt = (μ.1 0 56).toInt + 1)) := by
  have lim1 : (-1 : Int32).toInt = -1 := by decide
  have li0 : (0 : Int32).toInt = 0 := by decide
  have li1 : (1 : Int32).toInt = 1 := by decide
  have hF_μ : Fr [(0, 0, 56), (1, 30, 0), (1, 31, 0), (1, 32, 0), (1, 33, 0), (1, 34, 0)] true μ μ := Fr.rf
  have hr_μ : μ.2.2 = μ.2.2 := rfl
  rw [p_X12_node_eq]
  have lo_a1 := ti_lo a1
  have hi_a1 := ti_hi a1
  have lo_a2 := ti_lo a2
  have hi_a2 := ti_hi a2
  have g1 := rgm_0_56 hI_μ
  refine ok_gd (inb_iff.mpr (by omega)) ?_
  refine ok_bv (fun μ2 e_μ2 => ?_)
  have hI_μ2 : IM μ2 := by rw [e_μ2]; exact IM_F hI_μ (rtma_30 _ _)
  have hF_μ2 : Fr [(0, 0, 56), (1, 30, 0), (1, 31, 0), (1, 32, 0), (1, 33, 0), (1, 34, 0)] true μ μ2 := by rw [e_μ2]; exact Fr.puta hF_μ (by decide +kernel)
  have hr_μ2 : μ2.2.2 = μ.2.2 := (by rw [e_μ2]; rfl : μ2.2.2 = μ.2.2).trans hr_μ
  have g3 := rgm_0_56 hI_μ2
  have f4 : (μ2.1 0 56).toInt = (μ.1 0 56).toInt := congrArg Int32.toInt ((by rw [e_μ2]; rfl : μ2.1 0 56 = μ.1 0 56))
  refine ok_gd (inb_iff.mpr (by omega)) ?_
  refine ok_bv (fun μ5 e_μ5 => ?_)
  have hI_μ5 : IM μ5 := by rw [e_μ5]; exact IM_F hI_μ2 (rtma_31 _ _)
  have hF_μ5 : Fr [(0, 0, 56), (1, 30, 0), (1, 31, 0), (1, 32, 0), (1, 33, 0), (1, 34, 0)] true μ μ5 := by rw [e_μ5]; exact Fr.puta hF_μ2 (by decide +kernel)
  have hr_μ5 : μ5.2.2 = μ.2.2 := (by rw [e_μ5]; rfl : μ5.2.2 = μ2.2.2).trans hr_μ2
  have g6 := rgm_0_56 hI_μ5
  have f7 : (μ5.1 0 56).toInt = (μ2.1 0 56).toInt := congrArg Int32.toInt ((by rw [e_μ5]; rfl : μ5.1 0 56 = μ2.1 0 56))
  refine ok_gd (inb_iff.mpr (by omega)) ?_
  refine ok_bv (fun μ8 e_μ8 => ?_)
  have hI_μ8 : IM μ8 := by rw [e_μ8]; exact IM_F hI_μ5 (rtma_32 _ _)
  have hF_μ8 : Fr [(0, 0, 56), (1, 30, 0), (1, 31, 0), (1, 32, 0), (1, 33, 0), (1, 34, 0)] true μ μ8 := by rw [e_μ8]; exact Fr.puta hF_μ5 (by decide +kernel)
  have hr_μ8 : μ8.2.2 = μ.2.2 := (by rw [e_μ8]; rfl : μ8.2.2 = μ5.2.2).trans hr_μ5
  have g9 := rgm_0_56 hI_μ8
  have f10 : (μ8.1 0 56).toInt = (μ5.1 0 56).toInt := congrArg Int32.toInt ((by rw [e_μ8]; rfl : μ8.1 0 56 = μ5.1 0 56))
  refine ok_gd (inb_iff.mpr (by omega)) ?_
  refine ok_bv (fun μ11 e_μ11 => ?_)
  have hI_μ11 : IM μ11 := by rw [e_μ11]; exact IM_F hI_μ8 (rtma_33 _ _)
  have hF_μ11 : Fr [(0, 0, 56), (1, 30, 0), (1, 31, 0), (1, 32, 0), (1, 33, 0), (1, 34, 0)] true μ μ11 := by rw [e_μ11]; exact Fr.puta hF_μ8 (by decide +kernel)
  have hr_μ11 : μ11.2.2 = μ.2.2 := (by rw [e_μ11]; rfl : μ11.2.2 = μ8.2.2).trans hr_μ8
  have g12 := rgm_0_56 hI_μ11
  have f13 : (μ11.1 0 56).toInt = (μ8.1 0 56).toInt := congrArg Int32.toInt ((by rw [e_μ11]; rfl : μ11.1 0 56 = μ8.1 0 56))
  refine ok_gd (inb_iff.mpr (by omega)) ?_
  refine ok_bv (fun μ14 e_μ14 => ?_)
  have hI_μ14 : IM μ14 := by rw [e_μ14]; exact IM_F hI_μ11 (rtma_34 _ _)
  have hF_μ14 : Fr [(0, 0, 56), (1, 30, 0), (1, 31, 0), (1, 32, 0), (1, 33, 0), (1, 34, 0)] true μ μ14 := by rw [e_μ14]; exact Fr.puta hF_μ11 (by decide +kernel)
  have hr_μ14 : μ14.2.2 = μ.2.2 := (by rw [e_μ14]; rfl : μ14.2.2 = μ11.2.2).trans hr_μ11
  have g15 := rgm_0_56 hI_μ14
  have f16 : (μ14.1 0 56).toInt = (μ11.1 0 56).toInt := congrArg Int32.toInt ((by rw [e_μ14]; rfl : μ14.1 0 56 = μ11.1 0 56))
  refine ok_bv (fun μ17 e_μ17 => ?_)
  have hI_μ17 : IM μ17 := by rw [e_μ17]; exact IM_F hI_μ14 (rpm_0_56 (by (try rw [TI.e (e := ((μ14.1 0 56) + (1 : Int32))) (n := ((μ14.1 0 56).toInt + 1)) (TI.add TI.rf (TI.lit (by decide)) (by omega) (by omega))]); omega))
  have hF_μ17 : Fr [(0, 0, 56), (1, 30, 0), (1, 31, 0), (1, 32, 0), (1, 33, 0), (1, 34, 0)] true μ μ17 := by rw [e_μ17]; exact Fr.put hF_μ14 (by decide +kernel)
  have v_μ17 : (μ17.1 0 56).toInt = ((μ14.1 0 56).toInt + 1) := by rw [e_μ17, sF_v]; exact TI.e (n := ((μ14.1 0 56).toInt + 1)) (TI.add TI.rf (TI.lit (by decide)) (by omega) (by omega))
  have hr_μ17 : μ17.2.2 = μ.2.2 := (by rw [e_μ17]; rfl : μ17.2.2 = μ14.2.2).trans hr_μ14
  have g18 := rgm_0_56 hI_μ17
  exact ok_some ⟨hI_μ17, hF_μ17, by (try dsimp only); (try rw [hr_μ17]); (try rw [TI.e (e := ((μ17.1 0 56) - (1 : Int32))) (n := ((μ17.1 0 56).toInt - 1)) (TI.sub TI.rf (TI.lit (by decide)) (by omega) (by omega))]); omega⟩

set_option maxHeartbeats 4000000 in
set_option maxRecDepth 100000 in
theorem k_X12_given  (μ : Mem) (hI_μ : IM μ) (hc : (μ.1 0 56).toInt < 100000) : ok (p_X12_given  μ) (fun q => IM q.2 ∧ Fr [(0, 0, 56), (1, 30, 0), (1, 31, 0), (1, 32, 0), (1, 33, 0), (1, 34, 0)] true μ q.2 ∧ ((q.1).toInt = (μ.1 0 56).toInt ∧ (q.2.1 0 56).toInt = (μ.1 0 56).toInt + 1)) := by
  have li0 : (0 : Int32).toInt = 0 := by decide
  have li1 : (1 : Int32).toInt = 1 := by decide
  have hF_μ : Fr [(0, 0, 56), (1, 30, 0), (1, 31, 0), (1, 32, 0), (1, 33, 0), (1, 34, 0)] true μ μ := Fr.rf
  have hr_μ : μ.2.2 = μ.2.2 := rfl
  rw [p_X12_given_eq]
  have g1 := rgm_0_56 hI_μ
  have g2 := ti_lo (μ.1 0 0)
  have g2h := ti_hi (μ.1 0 0)
  have g3 := ti_lo (μ.1 0 1)
  have g3h := ti_hi (μ.1 0 1)
  refine ok_bd (k_X12_node (μ.1 0 0) (μ.1 0 1) μ hI_μ (by omega)) ?_
  rintro r5 μ4 ⟨hI_μ4, hC_μ4, p_μ4⟩
  have hI_μ4 : IM μ4 := hI_μ4
  have hC_μ4 : Fr [(0, 0, 56), (1, 30, 0), (1, 31, 0), (1, 32, 0), (1, 33, 0), (1, 34, 0)] true μ μ4 := hC_μ4
  dsimp only at p_μ4
  have lo_r5 := ti_lo r5
  have hi_r5 := ti_hi r5
  have hF_μ4 : Fr [(0, 0, 56), (1, 30, 0), (1, 31, 0), (1, 32, 0), (1, 33, 0), (1, 34, 0)] true μ μ4 := hF_μ.trans (hC_μ4.mono (by decide +kernel) (by decide))
  have hr_μ4 : μ4.2.2 = μ.2.2 := (hC_μ4.2 rfl : μ4.2.2 = μ.2.2).trans hr_μ
  try simp only [hr_μ4, hr_μ] at p_μ4
  have g6 := rgm_0_56 hI_μ4
  exact ok_some ⟨hI_μ4, hF_μ4, by (try dsimp only); (try rw [hr_μ4]); omega⟩

set_option maxHeartbeats 4000000 in
set_option maxRecDepth 100000 in
theorem k_X12_isKnown (a1 : Int32) (μ : Mem) (hI_μ : IM μ) (hc : 0 ≤ (a1).toInt ∧ (a1).toInt < 100000) : ok (p_X12_isKnown a1 μ) (fun q => μ = q.2 ∧ (((q.1).toInt = 0 ∨ (q.1).toInt = 1))) := by
  have li0 : (0 : Int32).toInt = 0 := by decide
  have li1 : (1 : Int32).toInt = 1 := by decide
  have li3 : (3 : Int32).toInt = 3 := by decide
  have hF_μ : Fr [] true μ μ := Fr.rf
  have hr_μ : μ.2.2 = μ.2.2 := rfl
  rw [p_X12_isKnown_eq]
  have lo_a1 := ti_lo a1
  have hi_a1 := ti_hi a1
  refine ok_gd (inb_iff.mpr (by omega)) ?_
  refine ok_ite ?_ ?_
  · intro c1
    rw [ti_eq] at c1
    exact ok_some ⟨rfl, by (try dsimp only); omega⟩
  · intro c1
    rw [ti_eq] at c1
    exact ok_some ⟨rfl, by (try dsimp only); omega⟩

set_option maxHeartbeats 4000000 in
set_option maxRecDepth 100000 in
theorem k_X12_build (a1 : Int32) (μ : Mem) (hI_μ : IM μ) (hc : (μ.1 0 58).toInt < 300 ∧ 0 ≤ (a1).toInt ∧ (a1).toInt < 100000) : ok (p_X12_build a1 μ) (fun q => IM q ∧ Fr [(0, 0, 58), (1, 35, 0)] true μ q ∧ ((q.1 0 58).toInt = (μ.1 0 58).toInt + 1)) := by
  have li0 : (0 : Int32).toInt = 0 := by decide
  have li1 : (1 : Int32).toInt = 1 := by decide
  have hF_μ : Fr [(0, 0, 58), (1, 35, 0)] true μ μ := Fr.rf
  have hr_μ : μ.2.2 = μ.2.2 := rfl
  rw [p_X12_build_eq]
  have lo_a1 := ti_lo a1
  have hi_a1 := ti_hi a1
  have g1 := rgm_0_58 hI_μ
  refine ok_gd (inb_iff.mpr (by omega)) ?_
  refine ok_bv (fun μ2 e_μ2 => ?_)
  have hI_μ2 : IM μ2 := by rw [e_μ2]; exact IM_F hI_μ (rpm_35 (by omega))
  have hF_μ2 : Fr [(0, 0, 58), (1, 35, 0)] true μ μ2 := by rw [e_μ2]; exact Fr.puta hF_μ (by decide +kernel)
  have hr_μ2 : μ2.2.2 = μ.2.2 := (by rw [e_μ2]; rfl : μ2.2.2 = μ.2.2).trans hr_μ
  have g3 := rgm_0_58 hI_μ2
  have f4 : (μ2.1 0 58).toInt = (μ.1 0 58).toInt := congrArg Int32.toInt ((by rw [e_μ2]; rfl : μ2.1 0 58 = μ.1 0 58))
  refine ok_bv (fun μ5 e_μ5 => ?_)
  have hI_μ5 : IM μ5 := by rw [e_μ5]; exact IM_F hI_μ2 (rpm_0_58 (by (try rw [TI.e (e := ((μ2.1 0 58) + (1 : Int32))) (n := ((μ2.1 0 58).toInt + 1)) (TI.add TI.rf (TI.lit (by decide)) (by omega) (by omega))]); omega))
  have hF_μ5 : Fr [(0, 0, 58), (1, 35, 0)] true μ μ5 := by rw [e_μ5]; exact Fr.put hF_μ2 (by decide +kernel)
  have v_μ5 : (μ5.1 0 58).toInt = ((μ2.1 0 58).toInt + 1) := by rw [e_μ5, sF_v]; exact TI.e (n := ((μ2.1 0 58).toInt + 1)) (TI.add TI.rf (TI.lit (by decide)) (by omega) (by omega))
  have hr_μ5 : μ5.2.2 = μ.2.2 := (by rw [e_μ5]; rfl : μ5.2.2 = μ2.2.2).trans hr_μ2
  have g6 := rgm_0_58 hI_μ5
  exact ok_some ⟨hI_μ5, hF_μ5, by (try dsimp only); (try rw [hr_μ5]); omega⟩

set_option maxHeartbeats 4000000 in
set_option maxRecDepth 100000 in
theorem k_X12_unbuild  (μ : Mem) (hI_μ : IM μ) (hc : 1 ≤ (μ.1 0 58).toInt) : ok (p_X12_unbuild  μ) (fun q => IM q.2 ∧ Fr [(0, 0, 58)] true μ q.2 ∧ ((q.2.1 0 58).toInt = (μ.1 0 58).toInt - 1 ∧ 0 ≤ (q.1).toInt ∧ (q.1).toInt < 100000)) := by
  have li0 : (0 : Int32).toInt = 0 := by decide
  have li1 : (1 : Int32).toInt = 1 := by decide
  have hF_μ : Fr [(0, 0, 58)] true μ μ := Fr.rf
  have hr_μ : μ.2.2 = μ.2.2 := rfl
  rw [p_X12_unbuild_eq]
  have g1 := rgm_0_58 hI_μ
  refine ok_bv (fun μ2 e_μ2 => ?_)
  have hI_μ2 : IM μ2 := by rw [e_μ2]; exact IM_F hI_μ (rpm_0_58 (by (try rw [TI.e (e := ((μ.1 0 58) - (1 : Int32))) (n := ((μ.1 0 58).toInt - 1)) (TI.sub TI.rf (TI.lit (by decide)) (by omega) (by omega))]); omega))
  have hF_μ2 : Fr [(0, 0, 58)] true μ μ2 := by rw [e_μ2]; exact Fr.put hF_μ (by decide +kernel)
  have v_μ2 : (μ2.1 0 58).toInt = ((μ.1 0 58).toInt - 1) := by rw [e_μ2, sF_v]; exact TI.e (n := ((μ.1 0 58).toInt - 1)) (TI.sub TI.rf (TI.lit (by decide)) (by omega) (by omega))
  have hr_μ2 : μ2.2.2 = μ.2.2 := (by rw [e_μ2]; rfl : μ2.2.2 = μ.2.2).trans hr_μ
  have g3 := rgm_0_58 hI_μ2
  refine ok_gd (inb_iff.mpr (by omega)) ?_
  have g4 := rgm_35 hI_μ2 (μ2.1 0 58).toNatClampNeg
  exact ok_some ⟨hI_μ2, hF_μ2, by (try dsimp only); (try rw [hr_μ2]); omega⟩

set_option maxHeartbeats 4000000 in
set_option maxRecDepth 100000 in
theorem k_X12_push (a1 : Int32) (a2 : Int32) (a3 : Int32) (μ : Mem) (hI_μ : IM μ) (hc : (μ.1 0 65).toInt < 6000) : ok (p_X12_push a1 a2 a3 μ) (fun q => IM q ∧ Fr [(0, 0, 65), (1, 37, 0), (1, 38, 0), (1, 39, 0)] true μ q ∧ ((q.1 0 65).toInt = (μ.1 0 65).toInt + 1)) := by
  have li0 : (0 : Int32).toInt = 0 := by decide
  have li1 : (1 : Int32).toInt = 1 := by decide
  have hF_μ : Fr [(0, 0, 65), (1, 37, 0), (1, 38, 0), (1, 39, 0)] true μ μ := Fr.rf
  have hr_μ : μ.2.2 = μ.2.2 := rfl
  rw [p_X12_push_eq]
  have lo_a1 := ti_lo a1
  have hi_a1 := ti_hi a1
  have lo_a2 := ti_lo a2
  have hi_a2 := ti_hi a2
  have lo_a3 := ti_lo a3
  have hi_a3 := ti_hi a3
  have g1 := rgm_0_65 hI_μ
  refine ok_gd (inb_iff.mpr (by omega)) ?_
  refine ok_bv (fun μ2 e_μ2 => ?_)
  have hI_μ2 : IM μ2 := by rw [e_μ2]; exact IM_F hI_μ (rtma_37 _ _)
  have hF_μ2 : Fr [(0, 0, 65), (1, 37, 0), (1, 38, 0), (1, 39, 0)] true μ μ2 := by rw [e_μ2]; exact Fr.puta hF_μ (by decide +kernel)
  have hr_μ2 : μ2.2.2 = μ.2.2 := (by rw [e_μ2]; rfl : μ2.2.2 = μ.2.2).trans hr_μ
  have g3 := rgm_0_65 hI_μ2
  have f4 : (μ2.1 0 65).toInt = (μ.1 0 65).toInt := congrArg Int32.toInt ((by rw [e_μ2]; rfl : μ2.1 0 65 = μ.1 0 65))
  refine ok_gd (inb_iff.mpr (by omega)) ?_
  refine ok_bv (fun μ5 e_μ5 => ?_)
  have hI_μ5 : IM μ5 := by rw [e_μ5]; exact IM_F hI_μ2 (rtma_38 _ _)
  have hF_μ5 : Fr [(0, 0, 65), (1, 37, 0), (1, 38, 0), (1, 39, 0)] true μ μ5 := by rw [e_μ5]; exact Fr.puta hF_μ2 (by decide +kernel)
  have hr_μ5 : μ5.2.2 = μ.2.2 := (by rw [e_μ5]; rfl : μ5.2.2 = μ2.2.2).trans hr_μ2
  have g6 := rgm_0_65 hI_μ5
  have f7 : (μ5.1 0 65).toInt = (μ2.1 0 65).toInt := congrArg Int32.toInt ((by rw [e_μ5]; rfl : μ5.1 0 65 = μ2.1 0 65))
  refine ok_gd (inb_iff.mpr (by omega)) ?_
  refine ok_bv (fun μ8 e_μ8 => ?_)
  have hI_μ8 : IM μ8 := by rw [e_μ8]; exact IM_F hI_μ5 (rtma_39 _ _)
  have hF_μ8 : Fr [(0, 0, 65), (1, 37, 0), (1, 38, 0), (1, 39, 0)] true μ μ8 := by rw [e_μ8]; exact Fr.puta hF_μ5 (by decide +kernel)
  have hr_μ8 : μ8.2.2 = μ.2.2 := (by rw [e_μ8]; rfl : μ8.2.2 = μ5.2.2).trans hr_μ5
  have g9 := rgm_0_65 hI_μ8
  have f10 : (μ8.1 0 65).toInt = (μ5.1 0 65).toInt := congrArg Int32.toInt ((by rw [e_μ8]; rfl : μ8.1 0 65 = μ5.1 0 65))
  refine ok_bv (fun μ11 e_μ11 => ?_)
  have hI_μ11 : IM μ11 := by rw [e_μ11]; exact IM_F hI_μ8 (rpm_0_65 (by (try rw [TI.e (e := ((μ8.1 0 65) + (1 : Int32))) (n := ((μ8.1 0 65).toInt + 1)) (TI.add TI.rf (TI.lit (by decide)) (by omega) (by omega))]); omega))
  have hF_μ11 : Fr [(0, 0, 65), (1, 37, 0), (1, 38, 0), (1, 39, 0)] true μ μ11 := by rw [e_μ11]; exact Fr.put hF_μ8 (by decide +kernel)
  have v_μ11 : (μ11.1 0 65).toInt = ((μ8.1 0 65).toInt + 1) := by rw [e_μ11, sF_v]; exact TI.e (n := ((μ8.1 0 65).toInt + 1)) (TI.add TI.rf (TI.lit (by decide)) (by omega) (by omega))
  have hr_μ11 : μ11.2.2 = μ.2.2 := (by rw [e_μ11]; rfl : μ11.2.2 = μ8.2.2).trans hr_μ8
  have g12 := rgm_0_65 hI_μ11
  exact ok_some ⟨hI_μ11, hF_μ11, by (try dsimp only); (try rw [hr_μ11]); omega⟩

set_option maxHeartbeats 4000000 in
set_option maxRecDepth 100000 in
theorem k_X12_come (a1 : Int32) (μ : Mem) (hI_μ : IM μ) (hc : (μ.1 0 66).toInt < 6000 ∧ 0 ≤ (a1).toInt ∧ (a1).toInt < 100000) : ok (p_X12_come a1 μ) (fun q => IM q ∧ Fr [(0, 0, 66), (1, 40, 0)] true μ q ∧ ((q.1 0 66).toInt = (μ.1 0 66).toInt + 1)) := by
  have li0 : (0 : Int32).toInt = 0 := by decide
  have li1 : (1 : Int32).toInt = 1 := by decide
  have hF_μ : Fr [(0, 0, 66), (1, 40, 0)] true μ μ := Fr.rf
  have hr_μ : μ.2.2 = μ.2.2 := rfl
  rw [p_X12_come_eq]
  have lo_a1 := ti_lo a1
  have hi_a1 := ti_hi a1
  have g1 := rgm_0_66 hI_μ
  refine ok_gd (inb_iff.mpr (by omega)) ?_
  refine ok_bv (fun μ2 e_μ2 => ?_)
  have hI_μ2 : IM μ2 := by rw [e_μ2]; exact IM_F hI_μ (rpm_40 (by omega))
  have hF_μ2 : Fr [(0, 0, 66), (1, 40, 0)] true μ μ2 := by rw [e_μ2]; exact Fr.puta hF_μ (by decide +kernel)
  have hr_μ2 : μ2.2.2 = μ.2.2 := (by rw [e_μ2]; rfl : μ2.2.2 = μ.2.2).trans hr_μ
  have g3 := rgm_0_66 hI_μ2
  have f4 : (μ2.1 0 66).toInt = (μ.1 0 66).toInt := congrArg Int32.toInt ((by rw [e_μ2]; rfl : μ2.1 0 66 = μ.1 0 66))
  refine ok_bv (fun μ5 e_μ5 => ?_)
  have hI_μ5 : IM μ5 := by rw [e_μ5]; exact IM_F hI_μ2 (rpm_0_66 (by (try rw [TI.e (e := ((μ2.1 0 66) + (1 : Int32))) (n := ((μ2.1 0 66).toInt + 1)) (TI.add TI.rf (TI.lit (by decide)) (by omega) (by omega))]); omega))
  have hF_μ5 : Fr [(0, 0, 66), (1, 40, 0)] true μ μ5 := by rw [e_μ5]; exact Fr.put hF_μ2 (by decide +kernel)
  have v_μ5 : (μ5.1 0 66).toInt = ((μ2.1 0 66).toInt + 1) := by rw [e_μ5, sF_v]; exact TI.e (n := ((μ2.1 0 66).toInt + 1)) (TI.add TI.rf (TI.lit (by decide)) (by omega) (by omega))
  have hr_μ5 : μ5.2.2 = μ.2.2 := (by rw [e_μ5]; rfl : μ5.2.2 = μ2.2.2).trans hr_μ2
  have g6 := rgm_0_66 hI_μ5
  exact ok_some ⟨hI_μ5, hF_μ5, by (try dsimp only); (try rw [hr_μ5]); omega⟩

set_option maxHeartbeats 4000000 in
set_option maxRecDepth 100000 in
theorem k_X12_gone  (μ : Mem) (hI_μ : IM μ) (hc : 1 ≤ (μ.1 0 66).toInt) : ok (p_X12_gone  μ) (fun q => IM q.2 ∧ Fr [(0, 0, 66)] true μ q.2 ∧ ((q.2.1 0 66).toInt = (μ.1 0 66).toInt - 1 ∧ 0 ≤ (q.1).toInt ∧ (q.1).toInt < 100000)) := by
  have li0 : (0 : Int32).toInt = 0 := by decide
  have li1 : (1 : Int32).toInt = 1 := by decide
  have hF_μ : Fr [(0, 0, 66)] true μ μ := Fr.rf
  have hr_μ : μ.2.2 = μ.2.2 := rfl
  rw [p_X12_gone_eq]
  have g1 := rgm_0_66 hI_μ
  refine ok_bv (fun μ2 e_μ2 => ?_)
  have hI_μ2 : IM μ2 := by rw [e_μ2]; exact IM_F hI_μ (rpm_0_66 (by (try rw [TI.e (e := ((μ.1 0 66) - (1 : Int32))) (n := ((μ.1 0 66).toInt - 1)) (TI.sub TI.rf (TI.lit (by decide)) (by omega) (by omega))]); omega))
  have hF_μ2 : Fr [(0, 0, 66)] true μ μ2 := by rw [e_μ2]; exact Fr.put hF_μ (by decide +kernel)
  have v_μ2 : (μ2.1 0 66).toInt = ((μ.1 0 66).toInt - 1) := by rw [e_μ2, sF_v]; exact TI.e (n := ((μ.1 0 66).toInt - 1)) (TI.sub TI.rf (TI.lit (by decide)) (by omega) (by omega))
  have hr_μ2 : μ2.2.2 = μ.2.2 := (by rw [e_μ2]; rfl : μ2.2.2 = μ.2.2).trans hr_μ
  have g3 := rgm_0_66 hI_μ2
  refine ok_gd (inb_iff.mpr (by omega)) ?_
  have g4 := rgm_40 hI_μ2 (μ2.1 0 66).toNatClampNeg
  exact ok_some ⟨hI_μ2, hF_μ2, by (try dsimp only); (try rw [hr_μ2]); omega⟩

set_option maxHeartbeats 4000000 in
set_option maxRecDepth 100000 in
theorem k_X12_begin (a1 : Int32) (μ : Mem) (hI_μ : IM μ) (hc : ((a1).toInt = 0 ∨ (a1).toInt = 1)) : ok (p_X12_begin a1 μ) (fun q => IM q ∧ Fr [(0, 0, 65), (0, 0, 66), (0, 0, 67), (0, 0, 68), (0, 0, 69)] true μ q) := by
  have li0 : (0 : Int32).toInt = 0 := by decide
  have li1 : (1 : Int32).toInt = 1 := by decide
  have hF_μ : Fr [(0, 0, 65), (0, 0, 66), (0, 0, 67), (0, 0, 68), (0, 0, 69)] true μ μ := Fr.rf
  have hr_μ : μ.2.2 = μ.2.2 := rfl
  rw [p_X12_begin_eq]
  have lo_a1 := ti_lo a1
  have hi_a1 := ti_hi a1
  refine ok_gd (isB_of (by omega)) ?_
  refine ok_bv (fun μ1 e_μ1 => ?_)
  have hI_μ1 : IM μ1 := by rw [e_μ1]; exact IM_F hI_μ (rtm_0_69 _)
  have hF_μ1 : Fr [(0, 0, 65), (0, 0, 66), (0, 0, 67), (0, 0, 68), (0, 0, 69)] true μ μ1 := by rw [e_μ1]; exact Fr.put hF_μ (by decide +kernel)
  have v_μ1 : (μ1.1 0 69).toInt = a1.toInt := by rw [e_μ1, sF_v]
  have hr_μ1 : μ1.2.2 = μ.2.2 := (by rw [e_μ1]; rfl : μ1.2.2 = μ.2.2).trans hr_μ
  refine ok_bv (fun μ3 e_μ3 => ?_)
  have hI_μ3 : IM μ3 := by rw [e_μ3]; exact IM_F hI_μ1 (rpm_0_65 (by omega))
  have hF_μ3 : Fr [(0, 0, 65), (0, 0, 66), (0, 0, 67), (0, 0, 68), (0, 0, 69)] true μ μ3 := by rw [e_μ3]; exact Fr.put hF_μ1 (by decide +kernel)
  have v_μ3 : (μ3.1 0 65).toInt = 0 := by rw [e_μ3, sF_v]; exact TI.e (n := 0) (TI.lit (by decide))
  have hr_μ3 : μ3.2.2 = μ.2.2 := (by rw [e_μ3]; rfl : μ3.2.2 = μ1.2.2).trans hr_μ1
  refine ok_bv (fun μ4 e_μ4 => ?_)
  have hI_μ4 : IM μ4 := by rw [e_μ4]; exact IM_F hI_μ3 (rpm_0_66 (by omega))
  have hF_μ4 : Fr [(0, 0, 65), (0, 0, 66), (0, 0, 67), (0, 0, 68), (0, 0, 69)] true μ μ4 := by rw [e_μ4]; exact Fr.put hF_μ3 (by decide +kernel)
  have v_μ4 : (μ4.1 0 66).toInt = 0 := by rw [e_μ4, sF_v]; exact TI.e (n := 0) (TI.lit (by decide))
  have hr_μ4 : μ4.2.2 = μ.2.2 := (by rw [e_μ4]; rfl : μ4.2.2 = μ3.2.2).trans hr_μ3
  refine ok_bv (fun μ5 e_μ5 => ?_)
  have hI_μ5 : IM μ5 := by rw [e_μ5]; exact IM_F hI_μ4 (rtm_0_67 _)
  have hF_μ5 : Fr [(0, 0, 65), (0, 0, 66), (0, 0, 67), (0, 0, 68), (0, 0, 69)] true μ μ5 := by rw [e_μ5]; exact Fr.put hF_μ4 (by decide +kernel)
  have v_μ5 : (μ5.1 0 67).toInt = 0 := by rw [e_μ5, sF_v]; exact TI.e (n := 0) (TI.lit (by decide))
  have hr_μ5 : μ5.2.2 = μ.2.2 := (by rw [e_μ5]; rfl : μ5.2.2 = μ4.2.2).trans hr_μ4
  refine ok_bv (fun μ6 e_μ6 => ?_)
  have hI_μ6 : IM μ6 := by rw [e_μ6]; exact IM_F hI_μ5 (rtm_0_68 _)
  have hF_μ6 : Fr [(0, 0, 65), (0, 0, 66), (0, 0, 67), (0, 0, 68), (0, 0, 69)] true μ μ6 := by rw [e_μ6]; exact Fr.put hF_μ5 (by decide +kernel)
  have v_μ6 : (μ6.1 0 68).toInt = 0 := by rw [e_μ6, sF_v]; exact TI.e (n := 0) (TI.lit (by decide))
  have hr_μ6 : μ6.2.2 = μ.2.2 := (by rw [e_μ6]; rfl : μ6.2.2 = μ5.2.2).trans hr_μ5
  exact ok_some ⟨hI_μ6, hF_μ6⟩

set_option maxHeartbeats 4000000 in
set_option maxRecDepth 100000 in
theorem k_X12_item (a1 : Int32) (μ : Mem) (hI_μ : IM μ) (hc : (μ.1 0 87).toInt < 960) : ok (p_X12_item a1 μ) (fun q => IM q.2 ∧ Fr [(0, 0, 87), (1, 46, 0), (1, 47, 0), (1, 48, 0), (1, 51, 0), (1, 52, 0)] true μ q.2 ∧ ((q.1).toInt = (μ.1 0 87).toInt ∧ (q.2.1 0 87).toInt = (μ.1 0 87).toInt + 1)) := by
  have lim1 : (-1 : Int32).toInt = -1 := by decide
  have li0 : (0 : Int32).toInt = 0 := by decide
  have li1 : (1 : Int32).toInt = 1 := by decide
  have hF_μ : Fr [(0, 0, 87), (1, 46, 0), (1, 47, 0), (1, 48, 0), (1, 51, 0), (1, 52, 0)] true μ μ := Fr.rf
  have hr_μ : μ.2.2 = μ.2.2 := rfl
  rw [p_X12_item_eq]
  have lo_a1 := ti_lo a1
  have hi_a1 := ti_hi a1
  have g1 := rgm_0_87 hI_μ
  refine ok_gd (inb_iff.mpr (by omega)) ?_
  refine ok_bv (fun μ2 e_μ2 => ?_)
  have hI_μ2 : IM μ2 := by rw [e_μ2]; exact IM_F hI_μ (rtma_46 _ _)
  have hF_μ2 : Fr [(0, 0, 87), (1, 46, 0), (1, 47, 0), (1, 48, 0), (1, 51, 0), (1, 52, 0)] true μ μ2 := by rw [e_μ2]; exact Fr.puta hF_μ (by decide +kernel)
  have hr_μ2 : μ2.2.2 = μ.2.2 := (by rw [e_μ2]; rfl : μ2.2.2 = μ.2.2).trans hr_μ
  have g3 := rgm_0_87 hI_μ2
  have f4 : (μ2.1 0 87).toInt = (μ.1 0 87).toInt := congrArg Int32.toInt ((by rw [e_μ2]; rfl : μ2.1 0 87 = μ.1 0 87))
  refine ok_gd (inb_iff.mpr (by omega)) ?_
  refine ok_bv (fun μ5 e_μ5 => ?_)
  have hI_μ5 : IM μ5 := by rw [e_μ5]; exact IM_F hI_μ2 (rtma_47 _ _)
  have hF_μ5 : Fr [(0, 0, 87), (1, 46, 0), (1, 47, 0), (1, 48, 0), (1, 51, 0), (1, 52, 0)] true μ μ5 := by rw [e_μ5]; exact Fr.puta hF_μ2 (by decide +kernel)
  have hr_μ5 : μ5.2.2 = μ.2.2 := (by rw [e_μ5]; rfl : μ5.2.2 = μ2.2.2).trans hr_μ2
  have g6 := rgm_0_87 hI_μ5
  have f7 : (μ5.1 0 87).toInt = (μ2.1 0 87).toInt := congrArg Int32.toInt ((by rw [e_μ5]; rfl : μ5.1 0 87 = μ2.1 0 87))
  refine ok_gd (inb_iff.mpr (by omega)) ?_
  refine ok_bv (fun μ8 e_μ8 => ?_)
  have hI_μ8 : IM μ8 := by rw [e_μ8]; exact IM_F hI_μ5 (rtma_48 _ _)
  have hF_μ8 : Fr [(0, 0, 87), (1, 46, 0), (1, 47, 0), (1, 48, 0), (1, 51, 0), (1, 52, 0)] true μ μ8 := by rw [e_μ8]; exact Fr.puta hF_μ5 (by decide +kernel)
  have hr_μ8 : μ8.2.2 = μ.2.2 := (by rw [e_μ8]; rfl : μ8.2.2 = μ5.2.2).trans hr_μ5
  have g9 := rgm_0_87 hI_μ8
  have f10 : (μ8.1 0 87).toInt = (μ5.1 0 87).toInt := congrArg Int32.toInt ((by rw [e_μ8]; rfl : μ8.1 0 87 = μ5.1 0 87))
  have g11 := rgm_0_88 hI_μ8
  refine ok_gd (inb_iff.mpr (by omega)) ?_
  refine ok_bv (fun μ12 e_μ12 => ?_)
  have hI_μ12 : IM μ12 := by rw [e_μ12]; exact IM_F hI_μ8 (rtma_51 _ _)
  have hF_μ12 : Fr [(0, 0, 87), (1, 46, 0), (1, 47, 0), (1, 48, 0), (1, 51, 0), (1, 52, 0)] true μ μ12 := by rw [e_μ12]; exact Fr.puta hF_μ8 (by decide +kernel)
  have hr_μ12 : μ12.2.2 = μ.2.2 := (by rw [e_μ12]; rfl : μ12.2.2 = μ8.2.2).trans hr_μ8
  have g13 := rgm_0_87 hI_μ12
  have f14 : (μ12.1 0 87).toInt = (μ8.1 0 87).toInt := congrArg Int32.toInt ((by rw [e_μ12]; rfl : μ12.1 0 87 = μ8.1 0 87))
  refine ok_gd (inb_iff.mpr (by omega)) ?_
  refine ok_bv (fun μ15 e_μ15 => ?_)
  have hI_μ15 : IM μ15 := by rw [e_μ15]; exact IM_F hI_μ12 (rtma_52 _ _)
  have hF_μ15 : Fr [(0, 0, 87), (1, 46, 0), (1, 47, 0), (1, 48, 0), (1, 51, 0), (1, 52, 0)] true μ μ15 := by rw [e_μ15]; exact Fr.puta hF_μ12 (by decide +kernel)
  have hr_μ15 : μ15.2.2 = μ.2.2 := (by rw [e_μ15]; rfl : μ15.2.2 = μ12.2.2).trans hr_μ12
  have g16 := rgm_0_87 hI_μ15
  have f17 : (μ15.1 0 87).toInt = (μ12.1 0 87).toInt := congrArg Int32.toInt ((by rw [e_μ15]; rfl : μ15.1 0 87 = μ12.1 0 87))
  refine ok_bv (fun μ18 e_μ18 => ?_)
  have hI_μ18 : IM μ18 := by rw [e_μ18]; exact IM_F hI_μ15 (rpm_0_87 (by (try rw [TI.e (e := ((μ15.1 0 87) + (1 : Int32))) (n := ((μ15.1 0 87).toInt + 1)) (TI.add TI.rf (TI.lit (by decide)) (by omega) (by omega))]); omega))
  have hF_μ18 : Fr [(0, 0, 87), (1, 46, 0), (1, 47, 0), (1, 48, 0), (1, 51, 0), (1, 52, 0)] true μ μ18 := by rw [e_μ18]; exact Fr.put hF_μ15 (by decide +kernel)
  have v_μ18 : (μ18.1 0 87).toInt = ((μ15.1 0 87).toInt + 1) := by rw [e_μ18, sF_v]; exact TI.e (n := ((μ15.1 0 87).toInt + 1)) (TI.add TI.rf (TI.lit (by decide)) (by omega) (by omega))
  have hr_μ18 : μ18.2.2 = μ.2.2 := (by rw [e_μ18]; rfl : μ18.2.2 = μ15.2.2).trans hr_μ15
  have g19 := rgm_0_87 hI_μ18
  exact ok_some ⟨hI_μ18, hF_μ18, by (try dsimp only); (try rw [hr_μ18]); (try rw [TI.e (e := ((μ18.1 0 87) - (1 : Int32))) (n := ((μ18.1 0 87).toInt - 1)) (TI.sub TI.rf (TI.lit (by decide)) (by omega) (by omega))]); omega⟩

set_option maxHeartbeats 4000000 in
set_option maxRecDepth 100000 in
theorem k_X12_operand (a1 : Int32) (a2 : Int32) (μ : Mem) (hI_μ : IM μ) (hc : 0 ≤ (a1).toInt ∧ (a1).toInt < 960 ∧ (μ.1 0 88).toInt < 4200 ∧ 0 ≤ (a2).toInt ∧ (a2).toInt < 100000) : ok (p_X12_operand a1 a2 μ) (fun q => IM q ∧ Fr [(0, 0, 88), (1, 52, 0), (1, 53, 0), (1, 54, 0)] true μ q ∧ ((q.1 0 88).toInt = (μ.1 0 88).toInt + 1)) := by
  have li0 : (0 : Int32).toInt = 0 := by decide
  have li1 : (1 : Int32).toInt = 1 := by decide
  have hF_μ : Fr [(0, 0, 88), (1, 52, 0), (1, 53, 0), (1, 54, 0)] true μ μ := Fr.rf
  have hr_μ : μ.2.2 = μ.2.2 := rfl
  rw [p_X12_operand_eq]
  have lo_a1 := ti_lo a1
  have hi_a1 := ti_hi a1
  have lo_a2 := ti_lo a2
  have hi_a2 := ti_hi a2
  have g1 := rgm_0_88 hI_μ
  refine ok_gd (inb_iff.mpr (by omega)) ?_
  refine ok_gd (inb_iff.mpr (by omega)) ?_
  refine ok_bv (fun μ2 e_μ2 => ?_)
  have hI_μ2 : IM μ2 := by rw [e_μ2]; exact IM_F hI_μ (rtma_53 _ _)
  have hF_μ2 : Fr [(0, 0, 88), (1, 52, 0), (1, 53, 0), (1, 54, 0)] true μ μ2 := by rw [e_μ2]; exact Fr.puta hF_μ (by decide +kernel)
  have hr_μ2 : μ2.2.2 = μ.2.2 := (by rw [e_μ2]; rfl : μ2.2.2 = μ.2.2).trans hr_μ
  have g3 := rgm_0_88 hI_μ2
  have f4 : (μ2.1 0 88).toInt = (μ.1 0 88).toInt := congrArg Int32.toInt ((by rw [e_μ2]; rfl : μ2.1 0 88 = μ.1 0 88))
  refine ok_gd (inb_iff.mpr (by omega)) ?_
  refine ok_gd (inb_iff.mpr (by omega)) ?_
  refine ok_bv (fun μ5 e_μ5 => ?_)
  have hI_μ5 : IM μ5 := by rw [e_μ5]; exact IM_F hI_μ2 (rtma_54 _ _)
  have hF_μ5 : Fr [(0, 0, 88), (1, 52, 0), (1, 53, 0), (1, 54, 0)] true μ μ5 := by rw [e_μ5]; exact Fr.puta hF_μ2 (by decide +kernel)
  have hr_μ5 : μ5.2.2 = μ.2.2 := (by rw [e_μ5]; rfl : μ5.2.2 = μ2.2.2).trans hr_μ2
  have g6 := rgm_0_88 hI_μ5
  have f7 : (μ5.1 0 88).toInt = (μ2.1 0 88).toInt := congrArg Int32.toInt ((by rw [e_μ5]; rfl : μ5.1 0 88 = μ2.1 0 88))
  refine ok_bv (fun μ8 e_μ8 => ?_)
  have hI_μ8 : IM μ8 := by rw [e_μ8]; exact IM_F hI_μ5 (rpm_0_88 (by (try rw [TI.e (e := ((μ5.1 0 88) + (1 : Int32))) (n := ((μ5.1 0 88).toInt + 1)) (TI.add TI.rf (TI.lit (by decide)) (by omega) (by omega))]); omega))
  have hF_μ8 : Fr [(0, 0, 88), (1, 52, 0), (1, 53, 0), (1, 54, 0)] true μ μ8 := by rw [e_μ8]; exact Fr.put hF_μ5 (by decide +kernel)
  have v_μ8 : (μ8.1 0 88).toInt = ((μ5.1 0 88).toInt + 1) := by rw [e_μ8, sF_v]; exact TI.e (n := ((μ5.1 0 88).toInt + 1)) (TI.add TI.rf (TI.lit (by decide)) (by omega) (by omega))
  have hr_μ8 : μ8.2.2 = μ.2.2 := (by rw [e_μ8]; rfl : μ8.2.2 = μ5.2.2).trans hr_μ5
  refine ok_gd (inb_iff.mpr (by omega)) ?_
  refine ok_gd (inb_iff.mpr (by omega)) ?_
  refine ok_bv (fun μ9 e_μ9 => ?_)
  have hI_μ9 : IM μ9 := by rw [e_μ9]; exact IM_F hI_μ8 (rtma_52 _ _)
  have hF_μ9 : Fr [(0, 0, 88), (1, 52, 0), (1, 53, 0), (1, 54, 0)] true μ μ9 := by rw [e_μ9]; exact Fr.puta hF_μ8 (by decide +kernel)
  have hr_μ9 : μ9.2.2 = μ.2.2 := (by rw [e_μ9]; rfl : μ9.2.2 = μ8.2.2).trans hr_μ8
  have g10 := rgm_0_88 hI_μ9
  have f11 : (μ9.1 0 88).toInt = (μ8.1 0 88).toInt := congrArg Int32.toInt ((by rw [e_μ9]; rfl : μ9.1 0 88 = μ8.1 0 88))
  exact ok_some ⟨hI_μ9, hF_μ9, by (try dsimp only); (try rw [hr_μ9]); omega⟩

set_option maxHeartbeats 4000000 in
set_option maxRecDepth 100000 in
theorem k_X12_show (a1 : Int32) (μ : Mem) (hI_μ : IM μ) (hc : 0 ≤ (a1).toInt ∧ (a1).toInt < 100000 ∧ 0 ≤ (μ.1 0 73).toInt) : ok (p_X12_show a1 μ) (fun q => IM q ∧ Fr [(0, 0, 73), (1, 43, 0), (1, 44, 0)] true μ q) := by
  have li0 : (0 : Int32).toInt = 0 := by decide
  have li1 : (1 : Int32).toInt = 1 := by decide
  have li60 : (60 : Int32).toInt = 60 := by decide
  have hF_μ : Fr [(0, 0, 73), (1, 43, 0), (1, 44, 0)] true μ μ := Fr.rf
  have hr_μ : μ.2.2 = μ.2.2 := rfl
  rw [p_X12_show_eq]
  have lo_a1 := ti_lo a1
  have hi_a1 := ti_hi a1
  have g1 := ti_lo (μ.1 0 73)
  have g1h := ti_hi (μ.1 0 73)
  refine ok_ite ?_ ?_
  · intro c2
    rw [ti_le] at c2
    refine ok_bv (fun μ3 e_μ3 => ?_)
    have hI_μ3 : IM μ3 := by rw [e_μ3]; exact IM_F hI_μ (rtm_0_73 _)
    have hF_μ3 : Fr [(0, 0, 73), (1, 43, 0), (1, 44, 0)] true μ μ3 := by rw [e_μ3]; exact Fr.put hF_μ (by decide +kernel)
    have hr_μ3 : μ3.2.2 = μ.2.2 := (by rw [e_μ3]; rfl : μ3.2.2 = μ.2.2).trans hr_μ
    exact ok_some ⟨hI_μ3, hF_μ3⟩
  · intro c2
    rw [ti_le] at c2
    refine ok_gd (inb_iff.mpr (by omega)) ?_
    refine ok_gd (inb_iff.mpr (by omega)) ?_
    refine ok_bv (fun μ4 e_μ4 => ?_)
    have hI_μ4 : IM μ4 := by rw [e_μ4]; exact IM_F hI_μ (rtma_43 _ _)
    have hF_μ4 : Fr [(0, 0, 73), (1, 43, 0), (1, 44, 0)] true μ μ4 := by rw [e_μ4]; exact Fr.puta hF_μ (by decide +kernel)
    have hr_μ4 : μ4.2.2 = μ.2.2 := (by rw [e_μ4]; rfl : μ4.2.2 = μ.2.2).trans hr_μ
    have g5 := ti_lo (μ4.1 0 73)
    have g5h := ti_hi (μ4.1 0 73)
    have f6 : (μ4.1 0 73).toInt = (μ.1 0 73).toInt := congrArg Int32.toInt ((by rw [e_μ4]; rfl : μ4.1 0 73 = μ.1 0 73))
    refine ok_gd (inb_iff.mpr (by omega)) ?_
    refine ok_gd (inb_iff.mpr (by omega)) ?_
    refine ok_bv (fun μ7 e_μ7 => ?_)
    have hI_μ7 : IM μ7 := by rw [e_μ7]; exact IM_F hI_μ4 (rtma_44 _ _)
    have hF_μ7 : Fr [(0, 0, 73), (1, 43, 0), (1, 44, 0)] true μ μ7 := by rw [e_μ7]; exact Fr.puta hF_μ4 (by decide +kernel)
    have hr_μ7 : μ7.2.2 = μ.2.2 := (by rw [e_μ7]; rfl : μ7.2.2 = μ4.2.2).trans hr_μ4
    have g8 := ti_lo (μ7.1 0 73)
    have g8h := ti_hi (μ7.1 0 73)
    have f9 : (μ7.1 0 73).toInt = (μ4.1 0 73).toInt := congrArg Int32.toInt ((by rw [e_μ7]; rfl : μ7.1 0 73 = μ4.1 0 73))
    refine ok_bv (fun μ10 e_μ10 => ?_)
    have hI_μ10 : IM μ10 := by rw [e_μ10]; exact IM_F hI_μ7 (rtm_0_73 _)
    have hF_μ10 : Fr [(0, 0, 73), (1, 43, 0), (1, 44, 0)] true μ μ10 := by rw [e_μ10]; exact Fr.put hF_μ7 (by decide +kernel)
    have hr_μ10 : μ10.2.2 = μ.2.2 := (by rw [e_μ10]; rfl : μ10.2.2 = μ7.2.2).trans hr_μ7
    exact ok_some ⟨hI_μ10, hF_μ10⟩

set_option maxHeartbeats 4000000 in
set_option maxRecDepth 100000 in
theorem k_X12_holdAt (a1 : Int32) (a2 : Int32) (μ : Mem) (hI_μ : IM μ) (hc : 0 ≤ (a2).toInt ∧ (a2).toInt < 100000) : ok (p_X12_holdAt a1 a2 μ) (fun q => IM q ∧ Fr [(0, 0, 0), (0, 0, 1)] true μ q) := by
  have li0 : (0 : Int32).toInt = 0 := by decide
  have li1 : (1 : Int32).toInt = 1 := by decide
  have li4 : (4 : Int32).toInt = 4 := by decide
  have hF_μ : Fr [(0, 0, 0), (0, 0, 1)] true μ μ := Fr.rf
  have hr_μ : μ.2.2 = μ.2.2 := rfl
  rw [p_X12_holdAt_eq]
  have lo_a1 := ti_lo a1
  have hi_a1 := ti_hi a1
  have lo_a2 := ti_lo a2
  have hi_a2 := ti_hi a2
  refine ok_ite ?_ ?_
  · intro c1
    rw [ti_le] at c1
    refine ok_gd (inb_iff.mpr (by omega)) ?_
    refine ok_gd (inb_iff.mpr (by omega)) ?_
    refine ok_bw (k_X12_give (1 : Int32) (s_X12_floatOf (μ.1 30 a2.toNatClampNeg) (μ.1 31 a2.toNatClampNeg)) μ hI_μ) ?_
    rintro μ2 ⟨hI_μ2, hC_μ2⟩
    have hF_μ2 : Fr [(0, 0, 0), (0, 0, 1)] true μ μ2 := hF_μ.trans (hC_μ2.mono (by decide +kernel) (by decide))
    have hr_μ2 : μ2.2.2 = μ.2.2 := (hC_μ2.2 rfl : μ2.2.2 = μ.2.2).trans hr_μ
    exact ok_some ⟨hI_μ2, hF_μ2⟩
  · intro c1
    rw [ti_le] at c1
    refine ok_gd (inb_iff.mpr (by omega)) ?_
    refine ok_gd (inb_iff.mpr (by omega)) ?_
    refine ok_bs (k_X12_intOf (μ.1 30 a2.toNatClampNeg) (μ.1 31 a2.toNatClampNeg)) (fun r4 p_r4 => ?_)
    have lo_r4 := ti_lo r4
    have hi_r4 := ti_hi r4
    refine ok_bw (k_X12_give (0 : Int32) r4 μ hI_μ) ?_
    rintro μ5 ⟨hI_μ5, hC_μ5⟩
    have hF_μ5 : Fr [(0, 0, 0), (0, 0, 1)] true μ μ5 := hF_μ.trans (hC_μ5.mono (by decide +kernel) (by decide))
    have hr_μ5 : μ5.2.2 = μ.2.2 := (hC_μ5.2 rfl : μ5.2.2 = μ.2.2).trans hr_μ
    exact ok_some ⟨hI_μ5, hF_μ5⟩

set_option maxHeartbeats 4000000 in
set_option maxRecDepth 100000 in
theorem k_X12_beginsCall_b18  (μ : Mem) (hI_μ : IM μ) : ok (p_X12_beginsCall_b18  μ) (fun q => IM q.2 ∧ Fr [(0, 0, 68), (0, 0, 75), (0, 0, 76), (0, 0, 77)] true μ q.2 ∧ (((q.1).toInt = 0 ∨ (q.1).toInt = 1))) := by
  have li0 : (0 : Int32).toInt = 0 := by decide
  have li1 : (1 : Int32).toInt = 1 := by decide
  have li3 : (3 : Int32).toInt = 3 := by decide
  have li100 : (100 : Int32).toInt = 100 := by decide
  have hF_μ : Fr [(0, 0, 68), (0, 0, 75), (0, 0, 76), (0, 0, 77)] true μ μ := Fr.rf
  have hr_μ : μ.2.2 = μ.2.2 := rfl
  rw [p_X12_beginsCall_b18_eq]
  have g3 := rgm_0_75 hI_μ
  refine ok_ite ?_ ?_
  · intro c4
    rw [ti_eq] at c4
    refine ok_bv (fun μ5 e_μ5 => ?_)
    have hI_μ5 : IM μ5 := by rw [e_μ5]; exact IM_F hI_μ (rtm_0_68 _)
    have hF_μ5 : Fr [(0, 0, 68), (0, 0, 75), (0, 0, 76), (0, 0, 77)] true μ μ5 := by rw [e_μ5]; exact Fr.put hF_μ (by decide +kernel)
    have v_μ5 : (μ5.1 0 68).toInt = 1 := by rw [e_μ5, sF_v]; exact TI.e (n := 1) (TI.lit (by decide))
    have hr_μ5 : μ5.2.2 = μ.2.2 := (by rw [e_μ5]; rfl : μ5.2.2 = μ.2.2).trans hr_μ
    exact ok_some ⟨hI_μ5, hF_μ5, by (try dsimp only); (try rw [hr_μ5]); omega⟩
  · intro c4
    rw [ti_eq] at c4
    refine ok_bv (fun μ6 e_μ6 => ?_)
    have hI_μ6 : IM μ6 := by rw [e_μ6]; exact IM_F hI_μ (rtm_0_68 _)
    have hF_μ6 : Fr [(0, 0, 68), (0, 0, 75), (0, 0, 76), (0, 0, 77)] true μ μ6 := by rw [e_μ6]; exact Fr.put hF_μ (by decide +kernel)
    have v_μ6 : (μ6.1 0 68).toInt = 3 := by rw [e_μ6, sF_v]; exact TI.e (n := 3) (TI.lit (by decide))
    have hr_μ6 : μ6.2.2 = μ.2.2 := (by rw [e_μ6]; rfl : μ6.2.2 = μ.2.2).trans hr_μ
    exact ok_some ⟨hI_μ6, hF_μ6, by (try dsimp only); (try rw [hr_μ6]); omega⟩
set_option maxHeartbeats 4000000 in
set_option maxRecDepth 100000 in
theorem k_X12_beginsCall  (μ : Mem) (hI_μ : IM μ) : ok (p_X12_beginsCall  μ) (fun q => IM q.2 ∧ Fr [(0, 0, 68), (0, 0, 75), (0, 0, 76), (0, 0, 77)] true μ q.2 ∧ (((q.1).toInt = 0 ∨ (q.1).toInt = 1))) := by
  have li0 : (0 : Int32).toInt = 0 := by decide
  have li1 : (1 : Int32).toInt = 1 := by decide
  have li30 : (30 : Int32).toInt = 30 := by decide
  have li100 : (100 : Int32).toInt = 100 := by decide
  have hF_μ : Fr [(0, 0, 68), (0, 0, 75), (0, 0, 76), (0, 0, 77)] true μ μ := Fr.rf
  have hr_μ : μ.2.2 = μ.2.2 := rfl
  rw [p_X12_beginsCall_eq]
  have g1 := rgm_0_75 hI_μ
  refine ok_ite ?_ ?_
  · intro c2
    rw [ti_eq] at c2
    exact ok_mono (k_X12_beginsCall_b18   μ hI_μ) (fun q h => ⟨h.1, hF_μ.trans h.2.1, h.2.2⟩)
  · intro c2
    rw [ti_eq] at c2
    have g7 := ti_lo (μ.1 0 76)
    have g7h := ti_hi (μ.1 0 76)
    refine ok_ite ?_ ?_
    · intro c8
      rw [ti_eq] at c8
      exact ok_mono (k_X12_beginsCall_b18   μ hI_μ) (fun q h => ⟨h.1, hF_μ.trans h.2.1, h.2.2⟩)
    · intro c8
      rw [ti_eq] at c8
      refine ok_bv (fun μ9 e_μ9 => ?_)
      have hI_μ9 : IM μ9 := by rw [e_μ9]; exact IM_F hI_μ (rpm_0_75 (by (try rw [TI.e (e := ((μ.1 0 75) + (1 : Int32))) (n := ((μ.1 0 75).toInt + 1)) (TI.add TI.rf (TI.lit (by decide)) (by omega) (by omega))]); omega))
      have hF_μ9 : Fr [(0, 0, 68), (0, 0, 75), (0, 0, 76), (0, 0, 77)] true μ μ9 := by rw [e_μ9]; exact Fr.put hF_μ (by decide +kernel)
      have v_μ9 : (μ9.1 0 75).toInt = ((μ.1 0 75).toInt + 1) := by rw [e_μ9, sF_v]; exact TI.e (n := ((μ.1 0 75).toInt + 1)) (TI.add TI.rf (TI.lit (by decide)) (by omega) (by omega))
      have hr_μ9 : μ9.2.2 = μ.2.2 := (by rw [e_μ9]; rfl : μ9.2.2 = μ.2.2).trans hr_μ
      have g10 := ti_lo (μ9.1 0 76)
      have g10h := ti_hi (μ9.1 0 76)
      have f11 : (μ9.1 0 76).toInt = (μ.1 0 76).toInt := congrArg Int32.toInt ((by rw [e_μ9]; rfl : μ9.1 0 76 = μ.1 0 76))
      refine ok_bv (fun μ12 e_μ12 => ?_)
      have hI_μ12 : IM μ12 := by rw [e_μ12]; exact IM_F hI_μ9 (rtm_0_76 _)
      have hF_μ12 : Fr [(0, 0, 68), (0, 0, 75), (0, 0, 76), (0, 0, 77)] true μ μ12 := by rw [e_μ12]; exact Fr.put hF_μ9 (by decide +kernel)
      have hr_μ12 : μ12.2.2 = μ.2.2 := (by rw [e_μ12]; rfl : μ12.2.2 = μ9.2.2).trans hr_μ9
      have g13 := ti_lo (μ12.1 0 76)
      have g13h := ti_hi (μ12.1 0 76)
      have g14 := ti_lo (μ12.1 0 77)
      have g14h := ti_hi (μ12.1 0 77)
      refine ok_ite ?_ ?_
      · intro c15
        rw [ti_le] at c15
        refine ok_bv (fun μ16 e_μ16 => ?_)
        have hI_μ16 : IM μ16 := by rw [e_μ16]; exact IM_F hI_μ12 (rtm_0_77 _)
        have hF_μ16 : Fr [(0, 0, 68), (0, 0, 75), (0, 0, 76), (0, 0, 77)] true μ μ16 := by rw [e_μ16]; exact Fr.put hF_μ12 (by decide +kernel)
        have v_μ16 : (μ16.1 0 77).toInt = (μ12.1 0 77).toInt := by rw [e_μ16, sF_v]
        have hr_μ16 : μ16.2.2 = μ.2.2 := (by rw [e_μ16]; rfl : μ16.2.2 = μ12.2.2).trans hr_μ12
        exact ok_some ⟨hI_μ16, hF_μ16, by (try dsimp only); (try rw [hr_μ16]); omega⟩
      · intro c15
        rw [ti_le] at c15
        refine ok_bv (fun μ17 e_μ17 => ?_)
        have hI_μ17 : IM μ17 := by rw [e_μ17]; exact IM_F hI_μ12 (rtm_0_77 _)
        have hF_μ17 : Fr [(0, 0, 68), (0, 0, 75), (0, 0, 76), (0, 0, 77)] true μ μ17 := by rw [e_μ17]; exact Fr.put hF_μ12 (by decide +kernel)
        have v_μ17 : (μ17.1 0 77).toInt = (μ12.1 0 76).toInt := by rw [e_μ17, sF_v]
        have hr_μ17 : μ17.2.2 = μ.2.2 := (by rw [e_μ17]; rfl : μ17.2.2 = μ12.2.2).trans hr_μ12
        exact ok_some ⟨hI_μ17, hF_μ17, by (try dsimp only); (try rw [hr_μ17]); omega⟩
