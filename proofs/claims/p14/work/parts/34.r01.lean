set_option maxHeartbeats 4000000 in
set_option maxRecDepth 100000 in
theorem k_X12_give (a1 : Int32) (a2 : Int32) (μ : Mem) (hI_μ : IM μ) : ok (p_X12_give a1 a2 μ) (fun q => IM q ∧ Fr [(0, 0, 0), (0, 0, 1)] true μ q) := by
  have li0 : (0 : Int32).toInt = 0 := by decide
  have li1 : (1 : Int32).toInt = 1 := by decide
  have hF_μ : Fr [(0, 0, 0), (0, 0, 1)] true μ μ := Fr.rf
  have hr_μ : μ.2.2 = μ.2.2 := rfl
  rw [p_X12_give_eq]
  have lo_a1 := ti_lo a1
  have hi_a1 := ti_hi a1
  have lo_a2 := ti_lo a2
  have hi_a2 := ti_hi a2
  refine ok_bv (fun μ1 e_μ1 => ?_)
  have hI_μ1 : IM μ1 := by rw [e_μ1]; exact IM_F hI_μ (rtm_0_0 _)
  have hF_μ1 : Fr [(0, 0, 0), (0, 0, 1)] true μ μ1 := by rw [e_μ1]; exact Fr.put hF_μ (by decide +kernel)
  have v_μ1 : (μ1.1 0 0).toInt = a1.toInt := by rw [e_μ1, sF_v]
  have hr_μ1 : μ1.2.2 = μ.2.2 := (by rw [e_μ1]; rfl : μ1.2.2 = μ.2.2).trans hr_μ
  refine ok_bv (fun μ2 e_μ2 => ?_)
  have hI_μ2 : IM μ2 := by rw [e_μ2]; exact IM_F hI_μ1 (rtm_0_1 _)
  have hF_μ2 : Fr [(0, 0, 0), (0, 0, 1)] true μ μ2 := by rw [e_μ2]; exact Fr.put hF_μ1 (by decide +kernel)
  have v_μ2 : (μ2.1 0 1).toInt = a2.toInt := by rw [e_μ2, sF_v]
  have hr_μ2 : μ2.2.2 = μ.2.2 := (by rw [e_μ2]; rfl : μ2.2.2 = μ1.2.2).trans hr_μ1
  exact ok_some ⟨hI_μ2, hF_μ2⟩

set_option maxHeartbeats 4000000 in
set_option maxRecDepth 100000 in
theorem k_X12_join_b16 (a1 : Int32) (a2 : Int32) (a3 : Int32) (a4 : Int32) (a5 : Int32) (k0 : Int32) (μ : Mem) (hI_μ : IM μ) : ok (p_X12_join_b16 a1 a2 a3 a4 a5 k0 μ) (fun q => IM q ∧ Fr [(0, 0, 0), (0, 0, 1)] true μ q) := by
  have li0 : (0 : Int32).toInt = 0 := by decide
  have li1 : (1 : Int32).toInt = 1 := by decide
  have li37 : (37 : Int32).toInt = 37 := by decide
  have li60 : (60 : Int32).toInt = 60 := by decide
  have li61 : (61 : Int32).toInt = 61 := by decide
  have hF_μ : Fr [(0, 0, 0), (0, 0, 1)] true μ μ := Fr.rf
  have hr_μ : μ.2.2 = μ.2.2 := rfl
  rw [p_X12_join_b16_eq]
  have lo_a1 := ti_lo a1
  have hi_a1 := ti_hi a1
  have lo_a2 := ti_lo a2
  have hi_a2 := ti_hi a2
  have lo_a3 := ti_lo a3
  have hi_a3 := ti_hi a3
  have lo_a4 := ti_lo a4
  have hi_a4 := ti_hi a4
  have lo_a5 := ti_lo a5
  have hi_a5 := ti_hi a5
  have lo_k0 := ti_lo k0
  have hi_k0 := ti_hi k0
  refine ok_ite ?_ ?_
  · intro c2
    rw [ti_eq] at c2
    refine ok_bs (k_X12_intOf a4 a5) (fun r3 p_r3 => ?_)
    have lo_r3 := ti_lo r3
    have hi_r3 := ti_hi r3
    refine ok_ite ?_ ?_
    · intro c4
      rw [ti_eq] at c4
      refine ok_bw (k_X12_give (0 : Int32) (0 : Int32) μ hI_μ) ?_
      rintro μ5 ⟨hI_μ5, hC_μ5⟩
      have hF_μ5 : Fr [(0, 0, 0), (0, 0, 1)] true μ μ5 := hF_μ.trans (hC_μ5.mono (by decide +kernel) (by decide))
      have hr_μ5 : μ5.2.2 = μ.2.2 := (hC_μ5.2 rfl : μ5.2.2 = μ.2.2).trans hr_μ
      exact ok_some ⟨hI_μ5, hF_μ5⟩
    · intro c4
      rw [ti_eq] at c4
      refine ok_bs (k_X12_intOf a2 a3) (fun r7 p_r7 => ?_)
      have lo_r7 := ti_lo r7
      have hi_r7 := ti_hi r7
      refine ok_gd (nz_32 (by assumption)) ?_
      refine ok_bw (k_X12_give (0 : Int32) (r7 - r7 / r3 * r3) μ hI_μ) ?_
      rintro μ9 ⟨hI_μ9, hC_μ9⟩
      have hF_μ9 : Fr [(0, 0, 0), (0, 0, 1)] true μ μ9 := hF_μ.trans (hC_μ9.mono (by decide +kernel) (by decide))
      have hr_μ9 : μ9.2.2 = μ.2.2 := (hC_μ9.2 rfl : μ9.2.2 = μ.2.2).trans hr_μ
      exact ok_some ⟨hI_μ9, hF_μ9⟩
  · intro c2
    rw [ti_eq] at c2
    refine ok_ite ?_ ?_
    · intro c11
      rw [ti_eq] at c11
      refine ok_ite ?_ ?_
      · intro c12
        rw [ti_eq] at c12
        refine ok_ite ?_ ?_
        · intro c13
          rw [ti_le] at c13
          refine ok_bw (k_X12_give (0 : Int32) (0 : Int32) μ hI_μ) ?_
          rintro μ14 ⟨hI_μ14, hC_μ14⟩
          have hF_μ14 : Fr [(0, 0, 0), (0, 0, 1)] true μ μ14 := hF_μ.trans (hC_μ14.mono (by decide +kernel) (by decide))
          have hr_μ14 : μ14.2.2 = μ.2.2 := (hC_μ14.2 rfl : μ14.2.2 = μ.2.2).trans hr_μ
          exact ok_some ⟨hI_μ14, hF_μ14⟩
        · intro c13
          rw [ti_le] at c13
          refine ok_bw (k_X12_give (0 : Int32) (1 : Int32) μ hI_μ) ?_
          rintro μ16 ⟨hI_μ16, hC_μ16⟩
          have hF_μ16 : Fr [(0, 0, 0), (0, 0, 1)] true μ μ16 := hF_μ.trans (hC_μ16.mono (by decide +kernel) (by decide))
          have hr_μ16 : μ16.2.2 = μ.2.2 := (hC_μ16.2 rfl : μ16.2.2 = μ.2.2).trans hr_μ
          exact ok_some ⟨hI_μ16, hF_μ16⟩
      · intro c12
        rw [ti_eq] at c12
        refine ok_bs (k_X12_isLess (s_X12_floatOf a2 a3) (s_X12_floatOf a4 a5)) (fun r18 p_r18 => ?_)
        have lo_r18 := ti_lo r18
        have hi_r18 := ti_hi r18
        refine ok_ite ?_ ?_
        · intro c19
          rw [ti_eq] at c19
          refine ok_bw (k_X12_give (0 : Int32) (0 : Int32) μ hI_μ) ?_
          rintro μ20 ⟨hI_μ20, hC_μ20⟩
          have hF_μ20 : Fr [(0, 0, 0), (0, 0, 1)] true μ μ20 := hF_μ.trans (hC_μ20.mono (by decide +kernel) (by decide))
          have hr_μ20 : μ20.2.2 = μ.2.2 := (hC_μ20.2 rfl : μ20.2.2 = μ.2.2).trans hr_μ
          exact ok_some ⟨hI_μ20, hF_μ20⟩
        · intro c19
          rw [ti_eq] at c19
          refine ok_bw (k_X12_give (0 : Int32) (1 : Int32) μ hI_μ) ?_
          rintro μ22 ⟨hI_μ22, hC_μ22⟩
          have hF_μ22 : Fr [(0, 0, 0), (0, 0, 1)] true μ μ22 := hF_μ.trans (hC_μ22.mono (by decide +kernel) (by decide))
          have hr_μ22 : μ22.2.2 = μ.2.2 := (hC_μ22.2 rfl : μ22.2.2 = μ.2.2).trans hr_μ
          exact ok_some ⟨hI_μ22, hF_μ22⟩
    · intro c11
      rw [ti_eq] at c11
      refine ok_ite ?_ ?_
      · intro c24
        rw [ti_eq] at c24
        refine ok_ite ?_ ?_
        · intro c25
          rw [ti_eq] at c25
          refine ok_ite ?_ ?_
          · intro c26
            rw [ti_eq] at c26
            refine ok_bw (k_X12_give (0 : Int32) (1 : Int32) μ hI_μ) ?_
            rintro μ27 ⟨hI_μ27, hC_μ27⟩
            have hF_μ27 : Fr [(0, 0, 0), (0, 0, 1)] true μ μ27 := hF_μ.trans (hC_μ27.mono (by decide +kernel) (by decide))
            have hr_μ27 : μ27.2.2 = μ.2.2 := (hC_μ27.2 rfl : μ27.2.2 = μ.2.2).trans hr_μ
            exact ok_some ⟨hI_μ27, hF_μ27⟩
          · intro c26
            rw [ti_eq] at c26
            refine ok_bw (k_X12_give (0 : Int32) (0 : Int32) μ hI_μ) ?_
            rintro μ29 ⟨hI_μ29, hC_μ29⟩
            have hF_μ29 : Fr [(0, 0, 0), (0, 0, 1)] true μ μ29 := hF_μ.trans (hC_μ29.mono (by decide +kernel) (by decide))
            have hr_μ29 : μ29.2.2 = μ.2.2 := (hC_μ29.2 rfl : μ29.2.2 = μ.2.2).trans hr_μ
            exact ok_some ⟨hI_μ29, hF_μ29⟩
        · intro c25
          rw [ti_eq] at c25
          refine ok_bs (k_X12_isSame (s_X12_floatOf a2 a3) (s_X12_floatOf a4 a5)) (fun r31 p_r31 => ?_)
          have lo_r31 := ti_lo r31
          have hi_r31 := ti_hi r31
          refine ok_ite ?_ ?_
          · intro c32
            rw [ti_eq] at c32
            refine ok_bw (k_X12_give (0 : Int32) (0 : Int32) μ hI_μ) ?_
            rintro μ33 ⟨hI_μ33, hC_μ33⟩
            have hF_μ33 : Fr [(0, 0, 0), (0, 0, 1)] true μ μ33 := hF_μ.trans (hC_μ33.mono (by decide +kernel) (by decide))
            have hr_μ33 : μ33.2.2 = μ.2.2 := (hC_μ33.2 rfl : μ33.2.2 = μ.2.2).trans hr_μ
            exact ok_some ⟨hI_μ33, hF_μ33⟩
          · intro c32
            rw [ti_eq] at c32
            refine ok_bw (k_X12_give (0 : Int32) (1 : Int32) μ hI_μ) ?_
            rintro μ35 ⟨hI_μ35, hC_μ35⟩
            have hF_μ35 : Fr [(0, 0, 0), (0, 0, 1)] true μ μ35 := hF_μ.trans (hC_μ35.mono (by decide +kernel) (by decide))
            have hr_μ35 : μ35.2.2 = μ.2.2 := (hC_μ35.2 rfl : μ35.2.2 = μ.2.2).trans hr_μ
            exact ok_some ⟨hI_μ35, hF_μ35⟩
      · intro c24
        rw [ti_eq] at c24
        refine ok_ite ?_ ?_
        · intro c37
          rw [ti_eq] at c37
          refine ok_bw (k_X12_give (0 : Int32) (s_X12_wholes a1 a3 a5) μ hI_μ) ?_
          rintro μ38 ⟨hI_μ38, hC_μ38⟩
          have hF_μ38 : Fr [(0, 0, 0), (0, 0, 1)] true μ μ38 := hF_μ.trans (hC_μ38.mono (by decide +kernel) (by decide))
          have hr_μ38 : μ38.2.2 = μ.2.2 := (hC_μ38.2 rfl : μ38.2.2 = μ.2.2).trans hr_μ
          exact ok_some ⟨hI_μ38, hF_μ38⟩
        · intro c37
          rw [ti_eq] at c37
          refine ok_bs (k_X12_brokens a1 (s_X12_floatOf a2 a3) (s_X12_floatOf a4 a5)) (fun r40 p_r40 => ?_)
          have lo_r40 := ti_lo r40
          have hi_r40 := ti_hi r40
          refine ok_bw (k_X12_give (1 : Int32) r40 μ hI_μ) ?_
          rintro μ41 ⟨hI_μ41, hC_μ41⟩
          have hF_μ41 : Fr [(0, 0, 0), (0, 0, 1)] true μ μ41 := hF_μ.trans (hC_μ41.mono (by decide +kernel) (by decide))
          have hr_μ41 : μ41.2.2 = μ.2.2 := (hC_μ41.2 rfl : μ41.2.2 = μ.2.2).trans hr_μ
          exact ok_some ⟨hI_μ41, hF_μ41⟩
set_option maxHeartbeats 4000000 in
set_option maxRecDepth 100000 in
theorem k_X12_join_b11 (a1 : Int32) (a2 : Int32) (a3 : Int32) (a4 : Int32) (a5 : Int32) (μ : Mem) (hI_μ : IM μ) : ok (p_X12_join_b11 a1 a2 a3 a4 a5 μ) (fun q => IM q ∧ Fr [(0, 0, 0), (0, 0, 1)] true μ q) := by
  have li0 : (0 : Int32).toInt = 0 := by decide
  have li1 : (1 : Int32).toInt = 1 := by decide
  have hF_μ : Fr [(0, 0, 0), (0, 0, 1)] true μ μ := Fr.rf
  have hr_μ : μ.2.2 = μ.2.2 := rfl
  rw [p_X12_join_b11_eq]
  have lo_a1 := ti_lo a1
  have hi_a1 := ti_hi a1
  have lo_a2 := ti_lo a2
  have hi_a2 := ti_hi a2
  have lo_a3 := ti_lo a3
  have hi_a3 := ti_hi a3
  have lo_a4 := ti_lo a4
  have hi_a4 := ti_hi a4
  have lo_a5 := ti_lo a5
  have hi_a5 := ti_hi a5
  exact ok_mono (k_X12_join_b16  a1 a2 a3 a4 a5 (1 : Int32) μ hI_μ) (fun q h => ⟨h.1, hF_μ.trans h.2⟩)
set_option maxHeartbeats 4000000 in
set_option maxRecDepth 100000 in
theorem k_X12_join (a1 : Int32) (a2 : Int32) (a3 : Int32) (a4 : Int32) (a5 : Int32) (μ : Mem) (hI_μ : IM μ) : ok (p_X12_join a1 a2 a3 a4 a5 μ) (fun q => IM q ∧ Fr [(0, 0, 0), (0, 0, 1)] true μ q) := by
  have li0 : (0 : Int32).toInt = 0 := by decide
  have li1 : (1 : Int32).toInt = 1 := by decide
  have hF_μ : Fr [(0, 0, 0), (0, 0, 1)] true μ μ := Fr.rf
  have hr_μ : μ.2.2 = μ.2.2 := rfl
  rw [p_X12_join_eq]
  have lo_a1 := ti_lo a1
  have hi_a1 := ti_hi a1
  have lo_a2 := ti_lo a2
  have hi_a2 := ti_hi a2
  have lo_a3 := ti_lo a3
  have hi_a3 := ti_hi a3
  have lo_a4 := ti_lo a4
  have hi_a4 := ti_hi a4
  have lo_a5 := ti_lo a5
  have hi_a5 := ti_hi a5
  refine ok_ite ?_ ?_
  · intro c1
    rw [ti_eq] at c1
    exact ok_mono (k_X12_join_b11  a1 a2 a3 a4 a5 μ hI_μ) (fun q h => ⟨h.1, hF_μ.trans h.2⟩)
  · intro c1
    rw [ti_eq] at c1
    refine ok_ite ?_ ?_
    · intro c43
      rw [ti_eq] at c43
      exact ok_mono (k_X12_join_b11  a1 a2 a3 a4 a5 μ hI_μ) (fun q h => ⟨h.1, hF_μ.trans h.2⟩)
    · intro c43
      rw [ti_eq] at c43
      exact ok_mono (k_X12_join_b16  a1 a2 a3 a4 a5 (0 : Int32) μ hI_μ) (fun q h => ⟨h.1, hF_μ.trans h.2⟩)

set_option maxHeartbeats 4000000 in
set_option maxRecDepth 100000 in
theorem k_X12_turn (a1 : Int32) (a2 : Int32) (a3 : Int32) (μ : Mem) (hI_μ : IM μ) : ok (p_X12_turn a1 a2 a3 μ) (fun q => IM q ∧ Fr [(0, 0, 0), (0, 0, 1)] true μ q) := by
  have li0 : (0 : Int32).toInt = 0 := by decide
  have li1 : (1 : Int32).toInt = 1 := by decide
  have hF_μ : Fr [(0, 0, 0), (0, 0, 1)] true μ μ := Fr.rf
  have hr_μ : μ.2.2 = μ.2.2 := rfl
  rw [p_X12_turn_eq]
  have lo_a1 := ti_lo a1
  have hi_a1 := ti_hi a1
  have lo_a2 := ti_lo a2
  have hi_a2 := ti_hi a2
  have lo_a3 := ti_lo a3
  have hi_a3 := ti_hi a3
  refine ok_ite ?_ ?_
  · intro c1
    rw [ti_eq] at c1
    refine ok_bs (k_X12_intOf a2 a3) (fun r2 p_r2 => ?_)
    have lo_r2 := ti_lo r2
    have hi_r2 := ti_hi r2
    refine ok_bw (k_X12_give (0 : Int32) r2 μ hI_μ) ?_
    rintro μ3 ⟨hI_μ3, hC_μ3⟩
    have hF_μ3 : Fr [(0, 0, 0), (0, 0, 1)] true μ μ3 := hF_μ.trans (hC_μ3.mono (by decide +kernel) (by decide))
    have hr_μ3 : μ3.2.2 = μ.2.2 := (hC_μ3.2 rfl : μ3.2.2 = μ.2.2).trans hr_μ
    exact ok_some ⟨hI_μ3, hF_μ3⟩
  · intro c1
    rw [ti_eq] at c1
    refine ok_ite ?_ ?_
    · intro c5
      rw [ti_eq] at c5
      refine ok_bw (k_X12_give (1 : Int32) (s_X12_floatOf a2 a3) μ hI_μ) ?_
      rintro μ6 ⟨hI_μ6, hC_μ6⟩
      have hF_μ6 : Fr [(0, 0, 0), (0, 0, 1)] true μ μ6 := hF_μ.trans (hC_μ6.mono (by decide +kernel) (by decide))
      have hr_μ6 : μ6.2.2 = μ.2.2 := (hC_μ6.2 rfl : μ6.2.2 = μ.2.2).trans hr_μ
      exact ok_some ⟨hI_μ6, hF_μ6⟩
    · intro c5
      rw [ti_eq] at c5
      refine ok_bw (k_X12_give (0 : Int32) (s_X12_floatOf a2 a3) μ hI_μ) ?_
      rintro μ8 ⟨hI_μ8, hC_μ8⟩
      have hF_μ8 : Fr [(0, 0, 0), (0, 0, 1)] true μ μ8 := hF_μ.trans (hC_μ8.mono (by decide +kernel) (by decide))
      have hr_μ8 : μ8.2.2 = μ.2.2 := (hC_μ8.2 rfl : μ8.2.2 = μ.2.2).trans hr_μ
      exact ok_some ⟨hI_μ8, hF_μ8⟩

set_option maxHeartbeats 4000000 in
set_option maxRecDepth 100000 in
theorem k_X12_op (a1 : Int32) (a2 : Int32) (a3 : Int32) (μ : Mem) (hI_μ : IM μ) : ok (p_X12_op a1 a2 a3 μ) (fun q => IM q.2 ∧ Fr [(0, 0, 0), (0, 0, 1)] true μ q.2) := by
  have li0 : (0 : Int32).toInt = 0 := by decide
  have li1 : (1 : Int32).toInt = 1 := by decide
  have hF_μ : Fr [(0, 0, 0), (0, 0, 1)] true μ μ := Fr.rf
  have hr_μ : μ.2.2 = μ.2.2 := rfl
  rw [p_X12_op_eq]
  have lo_a1 := ti_lo a1
  have hi_a1 := ti_hi a1
  have lo_a2 := ti_lo a2
  have hi_a2 := ti_hi a2
  have lo_a3 := ti_lo a3
  have hi_a3 := ti_hi a3
  refine ok_ite ?_ ?_
  · intro c1
    rw [ti_eq] at c1
    have y2 := tf_isSign a2
    exact ok_some ⟨hI_μ, hF_μ⟩
  · intro c1
    rw [ti_eq] at c1
    have y3 := tf_isSign a2
    refine ok_bw (k_X12_join a2 (1 : Int32) a1 (1 : Int32) a3 μ hI_μ) ?_
    rintro μ4 ⟨hI_μ4, hC_μ4⟩
    have hF_μ4 : Fr [(0, 0, 0), (0, 0, 1)] true μ μ4 := hF_μ.trans (hC_μ4.mono (by decide +kernel) (by decide))
    have hr_μ4 : μ4.2.2 = μ.2.2 := (hC_μ4.2 rfl : μ4.2.2 = μ.2.2).trans hr_μ
    have g6 := ti_lo (μ4.1 0 1)
    have g6h := ti_hi (μ4.1 0 1)
    exact ok_some ⟨hI_μ4, hF_μ4⟩

set_option maxHeartbeats 4000000 in
set_option maxRecDepth 100000 in
theorem k_X12_four_b3 : ∀ (n : Nat) (a1 : Int32) (a2 : Int32) (μ : Mem), IM μ → (-8 ≤ (a2).toInt ∧ (a2).toInt ≤ 24 ∧ (a2).toInt % 8 = 0 ∧ 8 * (μ.1 0 3).toInt + (a2).toInt + 8 ≤ 6400 ∧ (a2).toInt + 8 < n) → ok (p_X12_four_b3 n a1 a2 μ) (fun q => IM q ∧ Fr [(0, 0, 3), (1, 1, 0)] true μ q ∧ (8 * (q.1 0 3).toInt = 8 * (μ.1 0 3).toInt + (a2).toInt + 8)) := by
  have lim8 : (-8 : Int32).toInt = -8 := by decide
  have li0 : (0 : Int32).toInt = 0 := by decide
  have li1 : (1 : Int32).toInt = 1 := by decide
  intro n
  induction n with
  | zero => intro a1 a2 μ hI_μ hc; exact absurd hc (by have lo_a1 := ti_lo a1; have hi_a1 := ti_hi a1; have lo_a2 := ti_lo a2; have hi_a2 := ti_hi a2; omega)
  | succ n ih =>
    intro a1 a2 μ hI_μ hc
    have hF_μ : Fr [(0, 0, 3), (1, 1, 0)] true μ μ := Fr.rf
    have hr_μ : μ.2.2 = μ.2.2 := rfl
    rw [p_X12_four_b3_s]
    have lo_a1 := ti_lo a1
    have hi_a1 := ti_hi a1
    have lo_a2 := ti_lo a2
    have hi_a2 := ti_hi a2
    have g2 := rgm_0_3 hI_μ
    refine ok_ite ?_ ?_
    · intro c3
      rw [ti_lt] at c3
      exact ok_some ⟨hI_μ, hF_μ, by (try dsimp only); omega⟩
    · intro c3
      rw [ti_lt] at c3
      refine ok_gd (inb_iff.mpr (by omega)) ?_
      refine ok_bv (fun μ4 e_μ4 => ?_)
      have hI_μ4 : IM μ4 := by rw [e_μ4]; exact IM_F hI_μ (rtma_1 _ _)
      have hF_μ4 : Fr [(0, 0, 3), (1, 1, 0)] true μ μ4 := by rw [e_μ4]; exact Fr.puta hF_μ (by decide +kernel)
      have hr_μ4 : μ4.2.2 = μ.2.2 := (by rw [e_μ4]; rfl : μ4.2.2 = μ.2.2).trans hr_μ
      have g5 := rgm_0_3 hI_μ4
      have f6 : (μ4.1 0 3).toInt = (μ.1 0 3).toInt := congrArg Int32.toInt ((by rw [e_μ4]; rfl : μ4.1 0 3 = μ.1 0 3))
      refine ok_bv (fun μ7 e_μ7 => ?_)
      have hI_μ7 : IM μ7 := by rw [e_μ7]; exact IM_F hI_μ4 (rpm_0_3 (by (try rw [TI.e (e := ((μ4.1 0 3) + (1 : Int32))) (n := ((μ4.1 0 3).toInt + 1)) (TI.add TI.rf (TI.lit (by decide)) (by omega) (by omega))]); omega))
      have hF_μ7 : Fr [(0, 0, 3), (1, 1, 0)] true μ μ7 := by rw [e_μ7]; exact Fr.put hF_μ4 (by decide +kernel)
      have v_μ7 : (μ7.1 0 3).toInt = ((μ4.1 0 3).toInt + 1) := by rw [e_μ7, sF_v]; exact TI.e (n := ((μ4.1 0 3).toInt + 1)) (TI.add TI.rf (TI.lit (by decide)) (by omega) (by omega))
      have hr_μ7 : μ7.2.2 = μ.2.2 := (by rw [e_μ7]; rfl : μ7.2.2 = μ4.2.2).trans hr_μ4
      refine ok_bv (fun v8 ev8 => ?_)
      first | have tv8 : v8.toInt = (a2.toInt + (-8)) := (congrArg Int32.toInt ev8).trans (TI.e (n := (a2.toInt + (-8))) (TI.add TI.rf (TI.lit (by decide)) (by omega) (by omega))) | skip
      have g9 := rgm_0_3 hI_μ7
      exact ok_mono (ih a1 v8 μ7 hI_μ7 (by (try rw [hr_μ7]); omega)) (fun q h => ⟨h.1, hF_μ7.trans h.2.1, by have h9 := h.2.2; (try dsimp only at h9 ⊢); omega⟩)
set_option maxHeartbeats 4000000 in
set_option maxRecDepth 100000 in
theorem k_X12_four (a1 : Int32) (μ : Mem) (hI_μ : IM μ) (hc : (μ.1 0 3).toInt ≤ 796) : ok (p_X12_four a1 μ) (fun q => IM q ∧ Fr [(0, 0, 3), (1, 1, 0)] true μ q ∧ ((q.1 0 3).toInt = (μ.1 0 3).toInt + 4)) := by
  have li0 : (0 : Int32).toInt = 0 := by decide
  have li1 : (1 : Int32).toInt = 1 := by decide
  have li24 : (24 : Int32).toInt = 24 := by decide
  have hF_μ : Fr [(0, 0, 3), (1, 1, 0)] true μ μ := Fr.rf
  have hr_μ : μ.2.2 = μ.2.2 := rfl
  rw [p_X12_four_eq]
  have lo_a1 := ti_lo a1
  have hi_a1 := ti_hi a1
  have g1 := rgm_0_3 hI_μ
  obtain ⟨fu, hfu0, hfu⟩ := fuel_ex
  rw [hfu0]
  exact ok_mono (k_X12_four_b3  fu a1 (24 : Int32) μ hI_μ (by omega)) (fun q h => ⟨h.1, hF_μ.trans h.2.1, by have h9 := h.2.2; (try dsimp only at h9 ⊢); omega⟩)

set_option maxHeartbeats 4000000 in
set_option maxRecDepth 100000 in
theorem k_X12_feed (a1 : Int32) (a2 : Int32) (a3 : Int32) (a4 : Int32) (a5 : Int32) (μ : Mem) (hI_μ : IM μ) : ok (p_X12_feed a1 a2 a3 a4 a5 μ) (fun q => IM q.2 ∧ Fr [(0, 0, 3), (1, 1, 0)] true μ q.2 ∧ (((q.1).toInt = -1 ∧ 800 < (μ.1 0 3).toInt + 20 ∧ (q.2.1 0 3).toInt = (μ.1 0 3).toInt) ∨ ((q.1).toInt = (q.2.1 0 3).toInt ∧ (q.2.1 0 3).toInt = (μ.1 0 3).toInt + 20 ∧ (μ.1 0 3).toInt + 20 ≤ 800))) := by
  have lim1 : (-1 : Int32).toInt = -1 := by decide
  have li0 : (0 : Int32).toInt = 0 := by decide
  have li1 : (1 : Int32).toInt = 1 := by decide
  have li20 : (20 : Int32).toInt = 20 := by decide
  have li800 : (800 : Int32).toInt = 800 := by decide
  have hF_μ : Fr [(0, 0, 3), (1, 1, 0)] true μ μ := Fr.rf
  have hr_μ : μ.2.2 = μ.2.2 := rfl
  rw [p_X12_feed_eq]
  have lo_a1 := ti_lo a1
  have hi_a1 := ti_hi a1
  have lo_a2 := ti_lo a2
  have hi_a2 := ti_hi a2
  have lo_a3 := ti_lo a3
  have hi_a3 := ti_hi a3
  have lo_a4 := ti_lo a4
  have hi_a4 := ti_hi a4
  have lo_a5 := ti_lo a5
  have hi_a5 := ti_hi a5
  have g1 := rgm_0_3 hI_μ
  refine ok_ite ?_ ?_
  · intro c2
    rw [ti_le] at c2
    try rw [TI.e (e := ((μ.1 0 3) + (20 : Int32))) (n := ((μ.1 0 3).toInt + 20)) (TI.add TI.rf (TI.lit (by decide)) (by omega) (by omega))] at c2
    refine ok_bw (k_X12_four a1 μ hI_μ (by omega)) ?_
    rintro μ3 ⟨hI_μ3, hC_μ3, p_μ3⟩
    have hF_μ3 : Fr [(0, 0, 3), (1, 1, 0)] true μ μ3 := hF_μ.trans (hC_μ3.mono (by decide +kernel) (by decide))
    have hr_μ3 : μ3.2.2 = μ.2.2 := (hC_μ3.2 rfl : μ3.2.2 = μ.2.2).trans hr_μ
    try simp only [hr_μ3, hr_μ] at p_μ3
    have g5 := rgm_0_3 hI_μ3
    refine ok_bw (k_X12_four a2 μ3 hI_μ3 (by (try rw [hr_μ3]); omega)) ?_
    rintro μ6 ⟨hI_μ6, hC_μ6, p_μ6⟩
    have hF_μ6 : Fr [(0, 0, 3), (1, 1, 0)] true μ μ6 := hF_μ3.trans (hC_μ6.mono (by decide +kernel) (by decide))
    have hr_μ6 : μ6.2.2 = μ.2.2 := (hC_μ6.2 rfl : μ6.2.2 = μ3.2.2).trans hr_μ3
    try simp only [hr_μ6, hr_μ3] at p_μ6
    have g8 := rgm_0_3 hI_μ6
    refine ok_bw (k_X12_four a3 μ6 hI_μ6 (by (try rw [hr_μ6]); omega)) ?_
    rintro μ9 ⟨hI_μ9, hC_μ9, p_μ9⟩
    have hF_μ9 : Fr [(0, 0, 3), (1, 1, 0)] true μ μ9 := hF_μ6.trans (hC_μ9.mono (by decide +kernel) (by decide))
    have hr_μ9 : μ9.2.2 = μ.2.2 := (hC_μ9.2 rfl : μ9.2.2 = μ6.2.2).trans hr_μ6
    try simp only [hr_μ9, hr_μ6] at p_μ9
    have g11 := rgm_0_3 hI_μ9
    refine ok_bw (k_X12_four a4 μ9 hI_μ9 (by (try rw [hr_μ9]); omega)) ?_
    rintro μ12 ⟨hI_μ12, hC_μ12, p_μ12⟩
    have hF_μ12 : Fr [(0, 0, 3), (1, 1, 0)] true μ μ12 := hF_μ9.trans (hC_μ12.mono (by decide +kernel) (by decide))
    have hr_μ12 : μ12.2.2 = μ.2.2 := (hC_μ12.2 rfl : μ12.2.2 = μ9.2.2).trans hr_μ9
    try simp only [hr_μ12, hr_μ9] at p_μ12
    have g14 := rgm_0_3 hI_μ12
    refine ok_bw (k_X12_four a5 μ12 hI_μ12 (by (try rw [hr_μ12]); omega)) ?_
    rintro μ15 ⟨hI_μ15, hC_μ15, p_μ15⟩
    have hF_μ15 : Fr [(0, 0, 3), (1, 1, 0)] true μ μ15 := hF_μ12.trans (hC_μ15.mono (by decide +kernel) (by decide))
    have hr_μ15 : μ15.2.2 = μ.2.2 := (hC_μ15.2 rfl : μ15.2.2 = μ12.2.2).trans hr_μ12
    try simp only [hr_μ15, hr_μ12] at p_μ15
    have g17 := rgm_0_3 hI_μ15
    exact ok_some ⟨hI_μ15, hF_μ15, by (try dsimp only); (try rw [hr_μ15]); omega⟩
  · intro c2
    rw [ti_le] at c2
    try rw [TI.e (e := ((μ.1 0 3) + (20 : Int32))) (n := ((μ.1 0 3).toInt + 20)) (TI.add TI.rf (TI.lit (by decide)) (by omega) (by omega))] at c2
    exact ok_some ⟨hI_μ, hF_μ, by (try dsimp only); omega⟩

set_option maxHeartbeats 4000000 in
set_option maxRecDepth 100000 in
theorem k_X12_end (a1 : Int32) (μ : Mem) (hI_μ : IM μ) : ok (p_X12_end a1 μ) (fun q => IM q.2 ∧ Fr [(0, 0, 3)] true μ q.2 ∧ ((((a1).toInt < 0 ∨ (μ.1 0 3).toInt < (a1).toInt) ∧ (q.1).toInt = -1 ∧ (q.2.1 0 3).toInt = (μ.1 0 3).toInt) ∨ (0 ≤ (a1).toInt ∧ (a1).toInt ≤ (μ.1 0 3).toInt ∧ (q.1).toInt = (a1).toInt ∧ (q.2.1 0 3).toInt = (a1).toInt))) := by
  have lim1 : (-1 : Int32).toInt = -1 := by decide
  have li0 : (0 : Int32).toInt = 0 := by decide
  have li1 : (1 : Int32).toInt = 1 := by decide
  have hF_μ : Fr [(0, 0, 3)] true μ μ := Fr.rf
  have hr_μ : μ.2.2 = μ.2.2 := rfl
  rw [p_X12_end_eq]
  have lo_a1 := ti_lo a1
  have hi_a1 := ti_hi a1
  have g1 := rgm_0_3 hI_μ
  refine ok_ite ?_ ?_
  · intro c2
    rw [ti_eq] at c2
    have y3 := tf_isIn a1 (0 : Int32) (μ.1 0 3)
    exact ok_some ⟨hI_μ, hF_μ, by (try dsimp only); omega⟩
  · intro c2
    rw [ti_eq] at c2
    have y4 := tf_isIn a1 (0 : Int32) (μ.1 0 3)
    refine ok_bv (fun μ5 e_μ5 => ?_)
    have hI_μ5 : IM μ5 := by rw [e_μ5]; exact IM_F hI_μ (rpm_0_3 (by omega))
    have hF_μ5 : Fr [(0, 0, 3)] true μ μ5 := by rw [e_μ5]; exact Fr.put hF_μ (by decide +kernel)
    have v_μ5 : (μ5.1 0 3).toInt = a1.toInt := by rw [e_μ5, sF_v]
    have hr_μ5 : μ5.2.2 = μ.2.2 := (by rw [e_μ5]; rfl : μ5.2.2 = μ.2.2).trans hr_μ
    have g6 := rgm_0_3 hI_μ5
    exact ok_some ⟨hI_μ5, hF_μ5, by (try dsimp only); (try rw [hr_μ5]); omega⟩

set_option maxHeartbeats 4000000 in
set_option maxRecDepth 100000 in
theorem k_X12_here  (μ : Mem) (hI_μ : IM μ) : ok (p_X12_here  μ) (fun q => μ = q.2 ∧ (-1 ≤ (q.1).toInt ∧ (q.1).toInt ≤ 255 ∧ (((μ.1 0 3).toInt ≤ (μ.1 0 4).toInt ∧ (q.1).toInt = -1) ∨ ((μ.1 0 4).toInt < (μ.1 0 3).toInt ∧ (q.1).toInt = ((μ.1 1 (μ.1 0 4).toNatClampNeg) &&& 255).toInt ∧ 0 ≤ (q.1).toInt)))) := by
  have lim1 : (-1 : Int32).toInt = -1 := by decide
  have li0 : (0 : Int32).toInt = 0 := by decide
  have li1 : (1 : Int32).toInt = 1 := by decide
  have hF_μ : Fr [] true μ μ := Fr.rf
  have hr_μ : μ.2.2 = μ.2.2 := rfl
  rw [p_X12_here_eq]
  have g1 := rgm_0_3 hI_μ
  have g2 := rgm_0_4 hI_μ
  refine ok_ite ?_ ?_
  · intro c3
    rw [ti_le] at c3
    have h255 := an_255 (μ.1 1 (μ.1 0 4).toNatClampNeg)
    exact ok_some ⟨rfl, by (try dsimp only); omega⟩
  · intro c3
    rw [ti_le] at c3
    refine ok_gd (inb_iff.mpr (by omega)) ?_
    have h255 := an_255 (μ.1 1 (μ.1 0 4).toNatClampNeg)
    exact ok_some ⟨rfl, by (try dsimp only); omega⟩

set_option maxHeartbeats 4000000 in
set_option maxRecDepth 100000 in
theorem k_X12_fails (a1 : Int32) (μ : Mem) (hI_μ : IM μ) : ok (p_X12_fails a1 μ) (fun q => IM q.2 ∧ Fr [(0, 0, 5)] true μ q.2 ∧ ((q.1).toInt = 0)) := by
  have li0 : (0 : Int32).toInt = 0 := by decide
  have li1 : (1 : Int32).toInt = 1 := by decide
  have hF_μ : Fr [(0, 0, 5)] true μ μ := Fr.rf
  have hr_μ : μ.2.2 = μ.2.2 := rfl
  rw [p_X12_fails_eq]
  have lo_a1 := ti_lo a1
  have hi_a1 := ti_hi a1
  refine ok_bv (fun μ1 e_μ1 => ?_)
  have hI_μ1 : IM μ1 := by rw [e_μ1]; exact IM_F hI_μ (rtm_0_5 _)
  have hF_μ1 : Fr [(0, 0, 5)] true μ μ1 := by rw [e_μ1]; exact Fr.put hF_μ (by decide +kernel)
  have v_μ1 : (μ1.1 0 5).toInt = a1.toInt := by rw [e_μ1, sF_v]
  have hr_μ1 : μ1.2.2 = μ.2.2 := (by rw [e_μ1]; rfl : μ1.2.2 = μ.2.2).trans hr_μ
  exact ok_some ⟨hI_μ1, hF_μ1, by (try dsimp only); (try rw [hr_μ1]); omega⟩

set_option maxHeartbeats 4000000 in
set_option maxRecDepth 100000 in
theorem k_X12_takes (a1 : Int32) (μ : Mem) (hI_μ : IM μ) (hc : (0 ≤ (a1).toInt ∨ (μ.1 0 4).toInt < (μ.1 0 3).toInt)) : ok (p_X12_takes a1 μ) (fun q => IM q.2 ∧ Fr [(0, 0, 4), (0, 0, 5)] true μ q.2 ∧ (((q.1).toInt = 0 ∨ (q.1).toInt = 1) ∧ (μ.1 0 4).toInt ≤ (q.2.1 0 4).toInt ∧ (q.2.1 0 4).toInt ≤ (μ.1 0 4).toInt + 1)) := by
  have li0 : (0 : Int32).toInt = 0 := by decide
  have li1 : (1 : Int32).toInt = 1 := by decide
  have hF_μ : Fr [(0, 0, 4), (0, 0, 5)] true μ μ := Fr.rf
  have hr_μ : μ.2.2 = μ.2.2 := rfl
  rw [p_X12_takes_eq]
  have lo_a1 := ti_lo a1
  have hi_a1 := ti_hi a1
  have g1 := rgm_0_4 hI_μ
  have g2 := rgm_0_3 hI_μ
  refine ok_bd (k_X12_here  μ hI_μ) ?_
  rintro r4 μ3 ⟨hq9, p_r4⟩
  obtain rfl : μ = μ3 := hq9
  dsimp only at p_r4
  have lo_r4 := ti_lo r4
  have hi_r4 := ti_hi r4
  refine ok_ite ?_ ?_
  · intro c5
    rw [ti_eq] at c5
    refine ok_bv (fun μ6 e_μ6 => ?_)
    have hI_μ6 : IM μ6 := by rw [e_μ6]; exact IM_F hI_μ (rpm_0_4 (by (try rw [TI.e (e := ((μ.1 0 4) + (1 : Int32))) (n := ((μ.1 0 4).toInt + 1)) (TI.add TI.rf (TI.lit (by decide)) (by omega) (by omega))]); omega))
    have hF_μ6 : Fr [(0, 0, 4), (0, 0, 5)] true μ μ6 := by rw [e_μ6]; exact Fr.put hF_μ (by decide +kernel)
    have v_μ6 : (μ6.1 0 4).toInt = ((μ.1 0 4).toInt + 1) := by rw [e_μ6, sF_v]; exact TI.e (n := ((μ.1 0 4).toInt + 1)) (TI.add TI.rf (TI.lit (by decide)) (by omega) (by omega))
    have hr_μ6 : μ6.2.2 = μ.2.2 := (by rw [e_μ6]; rfl : μ6.2.2 = μ.2.2).trans hr_μ
    have g7 := rgm_0_4 hI_μ6
    exact ok_some ⟨hI_μ6, hF_μ6, by (try dsimp only); (try rw [hr_μ6]); omega⟩
  · intro c5
    rw [ti_eq] at c5
    refine ok_bd (k_X12_fails (μ.1 0 4) μ hI_μ) ?_
    rintro r9 μ8 ⟨hI_μ8, hC_μ8, p_μ8⟩
    have hI_μ8 : IM μ8 := hI_μ8
    have hC_μ8 : Fr [(0, 0, 5)] true μ μ8 := hC_μ8
    dsimp only at p_μ8
    have lo_r9 := ti_lo r9
    have hi_r9 := ti_hi r9
    have hF_μ8 : Fr [(0, 0, 4), (0, 0, 5)] true μ μ8 := hF_μ.trans (hC_μ8.mono (by decide +kernel) (by decide))
    have hr_μ8 : μ8.2.2 = μ.2.2 := (hC_μ8.2 rfl : μ8.2.2 = μ.2.2).trans hr_μ
    refine ok_gd (isB_of (by omega)) ?_
    have g10 := rgm_0_4 hI_μ8
    have f11 : (μ8.1 0 4).toInt = (μ.1 0 4).toInt := congrArg Int32.toInt (hC_μ8.1 0 4 (by decide +kernel))
    exact ok_some ⟨hI_μ8, hF_μ8, by (try dsimp only); (try rw [hr_μ8]); omega⟩

set_option maxHeartbeats 4000000 in
set_option maxRecDepth 100000 in
theorem k_X12_beginText  (μ : Mem) (hI_μ : IM μ) : ok (p_X12_beginText  μ) (fun q => IM q ∧ Fr [(0, 0, 4), (0, 0, 5)] true μ q) := by
  have lim1 : (-1 : Int32).toInt = -1 := by decide
  have li0 : (0 : Int32).toInt = 0 := by decide
  have li1 : (1 : Int32).toInt = 1 := by decide
  have hF_μ : Fr [(0, 0, 4), (0, 0, 5)] true μ μ := Fr.rf
  have hr_μ : μ.2.2 = μ.2.2 := rfl
  rw [p_X12_beginText_eq]
  refine ok_bv (fun μ1 e_μ1 => ?_)
  have hI_μ1 : IM μ1 := by rw [e_μ1]; exact IM_F hI_μ (rpm_0_4 (by omega))
  have hF_μ1 : Fr [(0, 0, 4), (0, 0, 5)] true μ μ1 := by rw [e_μ1]; exact Fr.put hF_μ (by decide +kernel)
  have v_μ1 : (μ1.1 0 4).toInt = 0 := by rw [e_μ1, sF_v]; exact TI.e (n := 0) (TI.lit (by decide))
  have hr_μ1 : μ1.2.2 = μ.2.2 := (by rw [e_μ1]; rfl : μ1.2.2 = μ.2.2).trans hr_μ
  refine ok_bv (fun μ2 e_μ2 => ?_)
  have hI_μ2 : IM μ2 := by rw [e_μ2]; exact IM_F hI_μ1 (rtm_0_5 _)
  have hF_μ2 : Fr [(0, 0, 4), (0, 0, 5)] true μ μ2 := by rw [e_μ2]; exact Fr.put hF_μ1 (by decide +kernel)
  have v_μ2 : (μ2.1 0 5).toInt = (-1) := by rw [e_μ2, sF_v]; exact TI.e (n := (-1)) (TI.lit (by decide))
  have hr_μ2 : μ2.2.2 = μ.2.2 := (by rw [e_μ2]; rfl : μ2.2.2 = μ1.2.2).trans hr_μ1
  exact ok_some ⟨hI_μ2, hF_μ2⟩

set_option maxHeartbeats 4000000 in
set_option maxRecDepth 100000 in
theorem k_X12_beginsNumber  (μ : Mem) (hI_μ : IM μ) : ok (p_X12_beginsNumber  μ) (fun q => μ = q.2 ∧ ((((q.1).toInt = 0 ∧ ((μ.1 0 3).toInt ≤ (μ.1 0 4).toInt ∨ ((((μ.1 1 (μ.1 0 4).toNatClampNeg) &&& 255).toInt < 48 ∨ 57 < ((μ.1 1 (μ.1 0 4).toNatClampNeg) &&& 255).toInt) ∧ ((μ.1 1 (μ.1 0 4).toNatClampNeg) &&& 255).toInt ≠ 45))) ∨ ((q.1).toInt = 1 ∧ (μ.1 0 4).toInt < (μ.1 0 3).toInt ∧ ((48 ≤ ((μ.1 1 (μ.1 0 4).toNatClampNeg) &&& 255).toInt ∧ ((μ.1 1 (μ.1 0 4).toNatClampNeg) &&& 255).toInt ≤ 57) ∨ ((μ.1 1 (μ.1 0 4).toNatClampNeg) &&& 255).toInt = 45))))) := by
  have li0 : (0 : Int32).toInt = 0 := by decide
  have li1 : (1 : Int32).toInt = 1 := by decide
  have li45 : (45 : Int32).toInt = 45 := by decide
  have hF_μ : Fr [] true μ μ := Fr.rf
  have hr_μ : μ.2.2 = μ.2.2 := rfl
  rw [p_X12_beginsNumber_eq]
  have g1 := rgm_0_3 hI_μ
  have g2 := rgm_0_4 hI_μ
  refine ok_bd (k_X12_here  μ hI_μ) ?_
  rintro r4 μ3 ⟨hq9, p_r4⟩
  obtain rfl : μ = μ3 := hq9
  dsimp only at p_r4
  have lo_r4 := ti_lo r4
  have hi_r4 := ti_hi r4
  refine ok_ite ?_ ?_
  · intro c5
    rw [ti_eq] at c5
    have y6 := tf_isFigure r4
    refine ok_bd (k_X12_here  μ hI_μ) ?_
    rintro r8 μ7 ⟨hq9, p_r8⟩
    obtain rfl : μ = μ7 := hq9
    dsimp only at p_r8
    have lo_r8 := ti_lo r8
    have hi_r8 := ti_hi r8
    refine ok_ite ?_ ?_
    · intro c9
      rw [ti_eq] at c9
      exact ok_some ⟨rfl, by (try dsimp only); omega⟩
    · intro c9
      rw [ti_eq] at c9
      exact ok_some ⟨rfl, by (try dsimp only); omega⟩
  · intro c5
    rw [ti_eq] at c5
    have y10 := tf_isFigure r4
    exact ok_some ⟨rfl, by (try dsimp only); omega⟩

set_option maxHeartbeats 4000000 in
set_option maxRecDepth 100000 in
theorem k_X12_digits_b8 : ∀ (n : Nat) (a1 : Int32) (a3 : Int32) (a4 : Int32) (μ : Mem), IM μ → (0 ≤ (a4).toInt ∧ (a4).toInt ≤ (μ.1 0 4).toInt ∧ (μ.1 0 4).toInt ≤ 800 ∧ 801 - (μ.1 0 4).toInt < n) → ok (p_X12_digits_b8 n a1 a3 a4 μ) (fun q => IM q.2 ∧ Fr [(0, 0, 4)] true μ q.2 ∧ ((μ.1 0 4).toInt ≤ (q.2.1 0 4).toInt ∧ ((μ.1 0 4).toInt < (q.2.1 0 4).toInt ∨ (a1).toInt ≤ (μ.1 0 4).toInt - (a4).toInt ∨ (μ.1 0 3).toInt ≤ (μ.1 0 4).toInt ∨ ((μ.1 1 (μ.1 0 4).toNatClampNeg) &&& 255).toInt < 48 ∨ 57 < ((μ.1 1 (μ.1 0 4).toNatClampNeg) &&& 255).toInt))) := by
  have li0 : (0 : Int32).toInt = 0 := by decide
  have li1 : (1 : Int32).toInt = 1 := by decide
  have li10 : (10 : Int32).toInt = 10 := by decide
  have li48 : (48 : Int32).toInt = 48 := by decide
  intro n
  induction n with
  | zero => intro a1 a3 a4 μ hI_μ hc; exact absurd hc (by have lo_a1 := ti_lo a1; have hi_a1 := ti_hi a1; have lo_a3 := ti_lo a3; have hi_a3 := ti_hi a3; have lo_a4 := ti_lo a4; have hi_a4 := ti_hi a4; omega)
  | succ n ih =>
    intro a1 a3 a4 μ hI_μ hc
    have hF_μ : Fr [(0, 0, 4)] true μ μ := Fr.rf
    have hr_μ : μ.2.2 = μ.2.2 := rfl
    rw [p_X12_digits_b8_s]
    have lo_a1 := ti_lo a1
    have hi_a1 := ti_hi a1
    have lo_a3 := ti_lo a3
    have hi_a3 := ti_hi a3
    have lo_a4 := ti_lo a4
    have hi_a4 := ti_hi a4
    have g4 := rgm_0_4 hI_μ
    have g5 := rgm_0_3 hI_μ
    refine ok_bd (k_X12_here  μ hI_μ) ?_
    rintro r7 μ6 ⟨hq9, p_r7⟩
    obtain rfl : μ = μ6 := hq9
    dsimp only at p_r7
    have lo_r7 := ti_lo r7
    have hi_r7 := ti_hi r7
    refine ok_ite ?_ ?_
    · intro c8
      rw [ti_eq] at c8
      have y9 := tf_isFigure r7
      exact ok_some ⟨hI_μ, hF_μ, by (try dsimp only); omega⟩
    · intro c8
      rw [ti_eq] at c8
      have y10 := tf_isFigure r7
      refine ok_ite ?_ ?_
      · intro c11
        rw [ti_le] at c11
        try rw [TI.e (e := ((μ.1 0 4) - a4)) (n := ((μ.1 0 4).toInt - a4.toInt)) (TI.sub TI.rf TI.rf (by omega) (by omega))] at c11
        exact ok_some ⟨hI_μ, hF_μ, by (try dsimp only); omega⟩
      · intro c11
        rw [ti_le] at c11
        try rw [TI.e (e := ((μ.1 0 4) - a4)) (n := ((μ.1 0 4).toInt - a4.toInt)) (TI.sub TI.rf TI.rf (by omega) (by omega))] at c11
        refine ok_bd (k_X12_here  μ hI_μ) ?_
        rintro r13 μ12 ⟨hq9, p_r13⟩
        obtain rfl : μ = μ12 := hq9
        dsimp only at p_r13
        have lo_r13 := ti_lo r13
        have hi_r13 := ti_hi r13
        refine ok_bv (fun v14 ev14 => ?_)
        first | have tv14 : v14.toInt = (((10 * a3.toInt) + r13.toInt) - 48) := (congrArg Int32.toInt ev14).trans (TI.e (n := (((10 * a3.toInt) + r13.toInt) - 48)) (TI.sub (TI.add (TI.mul (TI.lit (by decide)) TI.rf (by omega) (by omega)) TI.rf (by omega) (by omega)) (TI.lit (by decide)) (by omega) (by omega))) | skip
        refine ok_bv (fun μ15 e_μ15 => ?_)
        have hI_μ15 : IM μ15 := by rw [e_μ15]; exact IM_F hI_μ (rpm_0_4 (by (try rw [TI.e (e := ((μ.1 0 4) + (1 : Int32))) (n := ((μ.1 0 4).toInt + 1)) (TI.add TI.rf (TI.lit (by decide)) (by omega) (by omega))]); omega))
        have hF_μ15 : Fr [(0, 0, 4)] true μ μ15 := by rw [e_μ15]; exact Fr.put hF_μ (by decide +kernel)
        have v_μ15 : (μ15.1 0 4).toInt = ((μ.1 0 4).toInt + 1) := by rw [e_μ15, sF_v]; exact TI.e (n := ((μ.1 0 4).toInt + 1)) (TI.add TI.rf (TI.lit (by decide)) (by omega) (by omega))
        have hr_μ15 : μ15.2.2 = μ.2.2 := (by rw [e_μ15]; rfl : μ15.2.2 = μ.2.2).trans hr_μ
        have g16 := rgm_0_4 hI_μ15
        have g17 := rgm_0_3 hI_μ15
        have f18 : (μ15.1 0 3).toInt = (μ.1 0 3).toInt := congrArg Int32.toInt ((by rw [e_μ15]; rfl : μ15.1 0 3 = μ.1 0 3))
        exact ok_mono (ih a1 v14 a4 μ15 hI_μ15 (by (try rw [hr_μ15]); omega)) (fun q h => ⟨h.1, hF_μ15.trans h.2.1, by have h9 := h.2.2; (try dsimp only at h9 ⊢); omega⟩)
set_option maxHeartbeats 4000000 in
set_option maxRecDepth 100000 in
theorem k_X12_digits (a1 : Int32) (a2 : Int32) (μ : Mem) (hI_μ : IM μ) : ok (p_X12_digits a1 a2 μ) (fun q => IM q.2 ∧ Fr [(0, 0, 4)] true μ q.2 ∧ ((μ.1 0 4).toInt ≤ (q.2.1 0 4).toInt ∧ ((μ.1 0 4).toInt < (q.2.1 0 4).toInt ∨ (a1).toInt ≤ 0 ∨ (μ.1 0 3).toInt ≤ (μ.1 0 4).toInt ∨ ((μ.1 1 (μ.1 0 4).toNatClampNeg) &&& 255).toInt < 48 ∨ 57 < ((μ.1 1 (μ.1 0 4).toNatClampNeg) &&& 255).toInt))) := by
  have li0 : (0 : Int32).toInt = 0 := by decide
  have li1 : (1 : Int32).toInt = 1 := by decide
  have hF_μ : Fr [(0, 0, 4)] true μ μ := Fr.rf
  have hr_μ : μ.2.2 = μ.2.2 := rfl
  rw [p_X12_digits_eq]
  have lo_a1 := ti_lo a1
  have hi_a1 := ti_hi a1
  have lo_a2 := ti_lo a2
  have hi_a2 := ti_hi a2
  have g1 := rgm_0_4 hI_μ
  have g2 := rgm_0_3 hI_μ
  refine ok_bv (fun v3 ev3 => ?_)
  have tv3 : v3.toInt = (μ.1 0 4).toInt := congrArg Int32.toInt ev3
  obtain ⟨fu, hfu0, hfu⟩ := fuel_ex
  rw [hfu0]
  exact ok_mono (k_X12_digits_b8  fu a1 a2 v3 μ hI_μ (by omega)) (fun q h => ⟨h.1, hF_μ.trans h.2.1, by have h9 := h.2.2; (try dsimp only at h9 ⊢); omega⟩)
