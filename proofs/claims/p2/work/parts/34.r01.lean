set_option maxHeartbeats 4000000 in
set_option maxRecDepth 100000 in
theorem k_X12_four_b3 : ∀ (n : Nat) (a1 : Int32) (a2 : Int32) (μ : Mem), IM μ → (-8 ≤ (a2).toInt ∧ (a2).toInt ≤ 24 ∧ (a2).toInt % 8 = 0 ∧ 8 * (μ.1 0 3).toInt + (a2).toInt + 8 ≤ 6400 ∧ (a2).toInt + 8 < n) → ok (p_X12_four_b3 n a1 a2 μ) (fun q => IM q ∧ Fr [(0, 0, 3), (1, 1, 0)] true μ q ∧ (8 * (q.1 0 3).toInt = 8 * (μ.1 0 3).toInt + (a2).toInt + 8)) := by
  have lim8 : (-8 : Int32).toInt = -8 := by decide
  have li0 : (0 : Int32).toInt = 0 := by decide
  have li1 : (1 : Int32).toInt = 1 := by decide
  intro n
  induction n with
  | zero => intro a1 a2 μ hI_μ hc; exact absurd hc (by have lo_a1 := ti_lo a1; have hi_a1 := ti_hi a1; have lo_a2 := ti_lo a2; have hi_a2 := ti_hi a2; omega)
  | succ n ih =>
    intro a1 a2 μ hI_μ hc
    have hF_μ : Fr [(0, 0, 3), (1, 1, 0)] true μ μ := Fr.rf
    have hr_μ : μ.2.2 = μ.2.2 := rfl
    rw [p_X12_four_b3_s]
    have lo_a1 := ti_lo a1
    have hi_a1 := ti_hi a1
    have lo_a2 := ti_lo a2
    have hi_a2 := ti_hi a2
    have g2 := rgm_0_3 hI_μ
    refine ok_ite ?_ ?_
    · intro c3
      rw [ti_lt] at c3
      exact ok_some ⟨hI_μ, hF_μ, by (try dsimp only); omega⟩
    · intro c3
      rw [ti_lt] at c3
      refine ok_gd (inb_iff.mpr (by omega)) ?_
      refine ok_bv (fun μ4 e_μ4 => ?_)
      have hI_μ4 : IM μ4 := by rw [e_μ4]; exact IM_F hI_μ (rtma_1 _ _)
      have hF_μ4 : Fr [(0, 0, 3), (1, 1, 0)] true μ μ4 := by rw [e_μ4]; exact Fr.puta hF_μ (by decide +kernel)
      have hr_μ4 : μ4.2.2 = μ.2.2 := (by rw [e_μ4]; rfl : μ4.2.2 = μ.2.2).trans hr_μ
      have g5 := rgm_0_3 hI_μ4
      have f6 : (μ4.1 0 3).toInt = (μ.1 0 3).toInt := congrArg Int32.toInt ((by rw [e_μ4]; rfl : μ4.1 0 3 = μ.1 0 3))
      refine ok_bv (fun μ7 e_μ7 => ?_)
      have hI_μ7 : IM μ7 := by rw [e_μ7]; exact IM_F hI_μ4 (rpm_0_3 (by (try rw [TI.e (e := ((μ4.1 0 3) + (1 : Int32))) (n := ((μ4.1 0 3).toInt + 1)) (TI.add TI.rf (TI.lit (by decide)) (by omega) (by omega))]); omega))
      have hF_μ7 : Fr [(0, 0, 3), (1, 1, 0)] true μ μ7 := by rw [e_μ7]; exact Fr.put hF_μ4 (by decide +kernel)
      have v_μ7 : (μ7.1 0 3).toInt = ((μ4.1 0 3).toInt + 1) := by rw [e_μ7, sF_v]; exact TI.e (n := ((μ4.1 0 3).toInt + 1)) (TI.add TI.rf (TI.lit (by decide)) (by omega) (by omega))
      have hr_μ7 : μ7.2.2 = μ.2.2 := (by rw [e_μ7]; rfl : μ7.2.2 = μ4.2.2).trans hr_μ4
      refine ok_bv (fun v8 ev8 => ?_)
      first | have tv8 : v8.toInt = (a2.toInt + (-8)) := (congrArg Int32.toInt ev8).trans (TI.e (n := (a2.toInt + (-8))) (TI.add TI.rf (TI.lit (by decide)) (by omega) (by omega))) | skip
      have g9 := rgm_0_3 hI_μ7
      exact ok_mono (ih a1 v8 μ7 hI_μ7 (by (try rw [hr_μ7]); omega)) (fun q h => ⟨h.1, hF_μ7.trans h.2.1, by have h9 := h.2.2; (try dsimp only at h9 ⊢); omega⟩)
set_option maxHeartbeats 4000000 in
set_option maxRecDepth 100000 in
theorem k_X12_four (a1 : Int32) (μ : Mem) (hI_μ : IM μ) (hc : (μ.1 0 3).toInt ≤ 796) : ok (p_X12_four a1 μ) (fun q => IM q ∧ Fr [(0, 0, 3), (1, 1, 0)] true μ q ∧ ((q.1 0 3).toInt = (μ.1 0 3).toInt + 4)) := by
  have li0 : (0 : Int32).toInt = 0 := by decide
  have li1 : (1 : Int32).toInt = 1 := by decide
  have li24 : (24 : Int32).toInt = 24 := by decide
  have hF_μ : Fr [(0, 0, 3), (1, 1, 0)] true μ μ := Fr.rf
  have hr_μ : μ.2.2 = μ.2.2 := rfl
  rw [p_X12_four_eq]
  have lo_a1 := ti_lo a1
  have hi_a1 := ti_hi a1
  have g1 := rgm_0_3 hI_μ
  obtain ⟨fu, hfu0, hfu⟩ := fuel_ex
  rw [hfu0]
  exact ok_mono (k_X12_four_b3  fu a1 (24 : Int32) μ hI_μ (by omega)) (fun q h => ⟨h.1, hF_μ.trans h.2.1, by have h9 := h.2.2; (try dsimp only at h9 ⊢); omega⟩)

set_option maxHeartbeats 4000000 in
set_option maxRecDepth 100000 in
theorem k_X12_feed (a1 : Int32) (a2 : Int32) (a3 : Int32) (a4 : Int32) (a5 : Int32) (μ : Mem) (hI_μ : IM μ) : ok (p_X12_feed a1 a2 a3 a4 a5 μ) (fun q => IM q.2 ∧ Fr [(0, 0, 3), (1, 1, 0)] true μ q.2 ∧ (((q.1).toInt = -1 ∧ 800 < (μ.1 0 3).toInt + 20 ∧ (q.2.1 0 3).toInt = (μ.1 0 3).toInt) ∨ ((q.1).toInt = (q.2.1 0 3).toInt ∧ (q.2.1 0 3).toInt = (μ.1 0 3).toInt + 20 ∧ (μ.1 0 3).toInt + 20 ≤ 800))) := by
  have lim1 : (-1 : Int32).toInt = -1 := by decide
  have li0 : (0 : Int32).toInt = 0 := by decide
  have li1 : (1 : Int32).toInt = 1 := by decide
  have li20 : (20 : Int32).toInt = 20 := by decide
  have li800 : (800 : Int32).toInt = 800 := by decide
  have hF_μ : Fr [(0, 0, 3), (1, 1, 0)] true μ μ := Fr.rf
  have hr_μ : μ.2.2 = μ.2.2 := rfl
  rw [p_X12_feed_eq]
  have lo_a1 := ti_lo a1
  have hi_a1 := ti_hi a1
  have lo_a2 := ti_lo a2
  have hi_a2 := ti_hi a2
  have lo_a3 := ti_lo a3
  have hi_a3 := ti_hi a3
  have lo_a4 := ti_lo a4
  have hi_a4 := ti_hi a4
  have lo_a5 := ti_lo a5
  have hi_a5 := ti_hi a5
  have g1 := rgm_0_3 hI_μ
  refine ok_ite ?_ ?_
  · intro c2
    rw [ti_le] at c2
    try rw [TI.e (e := ((μ.1 0 3) + (20 : Int32))) (n := ((μ.1 0 3).toInt + 20)) (TI.add TI.rf (TI.lit (by decide)) (by omega) (by omega))] at c2
    refine ok_bw (k_X12_four a1 μ hI_μ (by omega)) ?_
    rintro μ3 ⟨hI_μ3, hC_μ3, p_μ3⟩
    have hF_μ3 : Fr [(0, 0, 3), (1, 1, 0)] true μ μ3 := hF_μ.trans (hC_μ3.mono (by decide +kernel) (by decide))
    have hr_μ3 : μ3.2.2 = μ.2.2 := (hC_μ3.2 rfl : μ3.2.2 = μ.2.2).trans hr_μ
    try simp only [hr_μ3, hr_μ] at p_μ3
    have g5 := rgm_0_3 hI_μ3
    refine ok_bw (k_X12_four a2 μ3 hI_μ3 (by (try rw [hr_μ3]); omega)) ?_
    rintro μ6 ⟨hI_μ6, hC_μ6, p_μ6⟩
    have hF_μ6 : Fr [(0, 0, 3), (1, 1, 0)] true μ μ6 := hF_μ3.trans (hC_μ6.mono (by decide +kernel) (by decide))
    have hr_μ6 : μ6.2.2 = μ.2.2 := (hC_μ6.2 rfl : μ6.2.2 = μ3.2.2).trans hr_μ3
    try simp only [hr_μ6, hr_μ3] at p_μ6
    have g8 := rgm_0_3 hI_μ6
    refine ok_bw (k_X12_four a3 μ6 hI_μ6 (by (try rw [hr_μ6]); omega)) ?_
    rintro μ9 ⟨hI_μ9, hC_μ9, p_μ9⟩
    have hF_μ9 : Fr [(0, 0, 3), (1, 1, 0)] true μ μ9 := hF_μ6.trans (hC_μ9.mono (by decide +kernel) (by decide))
    have hr_μ9 : μ9.2.2 = μ.2.2 := (hC_μ9.2 rfl : μ9.2.2 = μ6.2.2).trans hr_μ6
    try simp only [hr_μ9, hr_μ6] at p_μ9
    have g11 := rgm_0_3 hI_μ9
    refine ok_bw (k_X12_four a4 μ9 hI_μ9 (by (try rw [hr_μ9]); omega)) ?_
    rintro μ12 ⟨hI_μ12, hC_μ12, p_μ12⟩
    have hF_μ12 : Fr [(0, 0, 3), (1, 1, 0)] true μ μ12 := hF_μ9.trans (hC_μ12.mono (by decide +kernel) (by decide))
    have hr_μ12 : μ12.2.2 = μ.2.2 := (hC_μ12.2 rfl : μ12.2.2 = μ9.2.2).trans hr_μ9
    try simp only [hr_μ12, hr_μ9] at p_μ12
    have g14 := rgm_0_3 hI_μ12
    refine ok_bw (k_X12_four a5 μ12 hI_μ12 (by (try rw [hr_μ12]); omega)) ?_
    rintro μ15 ⟨hI_μ15, hC_μ15, p_μ15⟩
    have hF_μ15 : Fr [(0, 0, 3), (1, 1, 0)] true μ μ15 := hF_μ12.trans (hC_μ15.mono (by decide +kernel) (by decide))
    have hr_μ15 : μ15.2.2 = μ.2.2 := (hC_μ15.2 rfl : μ15.2.2 = μ12.2.2).trans hr_μ12
    try simp only [hr_μ15, hr_μ12] at p_μ15
    have g17 := rgm_0_3 hI_μ15
    exact ok_some ⟨hI_μ15, hF_μ15, by (try dsimp only); (try rw [hr_μ15]); omega⟩
  · intro c2
    rw [ti_le] at c2
    try rw [TI.e (e := ((μ.1 0 3) + (20 : Int32))) (n := ((μ.1 0 3).toInt + 20)) (TI.add TI.rf (TI.lit (by decide)) (by omega) (by omega))] at c2
    exact ok_some ⟨hI_μ, hF_μ, by (try dsimp only); omega⟩

set_option maxHeartbeats 4000000 in
set_option maxRecDepth 100000 in
theorem k_X12_end (a1 : Int32) (μ : Mem) (hI_μ : IM μ) : ok (p_X12_end a1 μ) (fun q => IM q.2 ∧ Fr [(0, 0, 3)] true μ q.2 ∧ ((((a1).toInt < 0 ∨ (μ.1 0 3).toInt < (a1).toInt) ∧ (q.1).toInt = -1 ∧ (q.2.1 0 3).toInt = (μ.1 0 3).toInt) ∨ (0 ≤ (a1).toInt ∧ (a1).toInt ≤ (μ.1 0 3).toInt ∧ (q.1).toInt = (a1).toInt ∧ (q.2.1 0 3).toInt = (a1).toInt))) := by
  have lim1 : (-1 : Int32).toInt = -1 := by decide
  have li0 : (0 : Int32).toInt = 0 := by decide
  have li1 : (1 : Int32).toInt = 1 := by decide
  have hF_μ : Fr [(0, 0, 3)] true μ μ := Fr.rf
  have hr_μ : μ.2.2 = μ.2.2 := rfl
  rw [p_X12_end_eq]
  have lo_a1 := ti_lo a1
  have hi_a1 := ti_hi a1
  have g1 := rgm_0_3 hI_μ
  refine ok_ite ?_ ?_
  · intro c2
    rw [ti_eq] at c2
    have y3 := tf_isIn a1 (0 : Int32) (μ.1 0 3)
    exact ok_some ⟨hI_μ, hF_μ, by (try dsimp only); omega⟩
  · intro c2
    rw [ti_eq] at c2
    have y4 := tf_isIn a1 (0 : Int32) (μ.1 0 3)
    refine ok_bv (fun μ5 e_μ5 => ?_)
    have hI_μ5 : IM μ5 := by rw [e_μ5]; exact IM_F hI_μ (rpm_0_3 (by omega))
    have hF_μ5 : Fr [(0, 0, 3)] true μ μ5 := by rw [e_μ5]; exact Fr.put hF_μ (by decide +kernel)
    have v_μ5 : (μ5.1 0 3).toInt = a1.toInt := by rw [e_μ5, sF_v]
    have hr_μ5 : μ5.2.2 = μ.2.2 := (by rw [e_μ5]; rfl : μ5.2.2 = μ.2.2).trans hr_μ
    have g6 := rgm_0_3 hI_μ5
    exact ok_some ⟨hI_μ5, hF_μ5, by (try dsimp only); (try rw [hr_μ5]); omega⟩

set_option maxHeartbeats 4000000 in
set_option maxRecDepth 100000 in
theorem k_X12_here  (μ : Mem) (hI_μ : IM μ) : ok (p_X12_here  μ) (fun q => μ = q.2 ∧ (-1 ≤ (q.1).toInt ∧ (q.1).toInt ≤ 255 ∧ (((μ.1 0 3).toInt ≤ (μ.1 0 4).toInt ∧ (q.1).toInt = -1) ∨ ((μ.1 0 4).toInt < (μ.1 0 3).toInt ∧ (q.1).toInt = ((μ.1 1 (μ.1 0 4).toNatClampNeg) &&& 255).toInt ∧ 0 ≤ (q.1).toInt)))) := by
  have lim1 : (-1 : Int32).toInt = -1 := by decide
  have li0 : (0 : Int32).toInt = 0 := by decide
  have li1 : (1 : Int32).toInt = 1 := by decide
  have hF_μ : Fr [] true μ μ := Fr.rf
  have hr_μ : μ.2.2 = μ.2.2 := rfl
  rw [p_X12_here_eq]
  have g1 := rgm_0_3 hI_μ
  have g2 := rgm_0_4 hI_μ
  refine ok_ite ?_ ?_
  · intro c3
    rw [ti_le] at c3
    have h255 := an_255 (μ.1 1 (μ.1 0 4).toNatClampNeg)
    exact ok_some ⟨rfl, by (try dsimp only); omega⟩
  · intro c3
    rw [ti_le] at c3
    refine ok_gd (inb_iff.mpr (by omega)) ?_
    have h255 := an_255 (μ.1 1 (μ.1 0 4).toNatClampNeg)
    exact ok_some ⟨rfl, by (try dsimp only); omega⟩

set_option maxHeartbeats 4000000 in
set_option maxRecDepth 100000 in
theorem k_X12_fails (a1 : Int32) (μ : Mem) (hI_μ : IM μ) : ok (p_X12_fails a1 μ) (fun q => IM q.2 ∧ Fr [(0, 0, 5)] true μ q.2 ∧ ((q.1).toInt = 0)) := by
  have li0 : (0 : Int32).toInt = 0 := by decide
  have li1 : (1 : Int32).toInt = 1 := by decide
  have hF_μ : Fr [(0, 0, 5)] true μ μ := Fr.rf
  have hr_μ : μ.2.2 = μ.2.2 := rfl
  rw [p_X12_fails_eq]
  have lo_a1 := ti_lo a1
  have hi_a1 := ti_hi a1
  refine ok_bv (fun μ1 e_μ1 => ?_)
  have hI_μ1 : IM μ1 := by rw [e_μ1]; exact IM_F hI_μ (rtm_0_5 _)
  have hF_μ1 : Fr [(0, 0, 5)] true μ μ1 := by rw [e_μ1]; exact Fr.put hF_μ (by decide +kernel)
  have v_μ1 : (μ1.1 0 5).toInt = a1.toInt := by rw [e_μ1, sF_v]
  have hr_μ1 : μ1.2.2 = μ.2.2 := (by rw [e_μ1]; rfl : μ1.2.2 = μ.2.2).trans hr_μ
  exact ok_some ⟨hI_μ1, hF_μ1, by (try dsimp only); (try rw [hr_μ1]); omega⟩

set_option maxHeartbeats 4000000 in
set_option maxRecDepth 100000 in
theorem k_X12_takes (a1 : Int32) (μ : Mem) (hI_μ : IM μ) (hc : (0 ≤ (a1).toInt ∨ (μ.1 0 4).toInt < (μ.1 0 3).toInt)) : ok (p_X12_takes a1 μ) (fun q => IM q.2 ∧ Fr [(0, 0, 4), (0, 0, 5)] true μ q.2 ∧ (((q.1).toInt = 0 ∨ (q.1).toInt = 1) ∧ (μ.1 0 4).toInt ≤ (q.2.1 0 4).toInt ∧ (q.2.1 0 4).toInt ≤ (μ.1 0 4).toInt + 1)) := by
  have li0 : (0 : Int32).toInt = 0 := by decide
  have li1 : (1 : Int32).toInt = 1 := by decide
  have hF_μ : Fr [(0, 0, 4), (0, 0, 5)] true μ μ := Fr.rf
  have hr_μ : μ.2.2 = μ.2.2 := rfl
  rw [p_X12_takes_eq]
  have lo_a1 := ti_lo a1
  have hi_a1 := ti_hi a1
  have g1 := rgm_0_4 hI_μ
  have g2 := rgm_0_3 hI_μ
  refine ok_bd (k_X12_here  μ hI_μ) ?_
  rintro r4 μ3 ⟨hq9, p_r4⟩
  obtain rfl : μ = μ3 := hq9
  dsimp only at p_r4
  have lo_r4 := ti_lo r4
  have hi_r4 := ti_hi r4
  refine ok_ite ?_ ?_
  · intro c5
    rw [ti_eq] at c5
    refine ok_bv (fun μ6 e_μ6 => ?_)
    have hI_μ6 : IM μ6 := by rw [e_μ6]; exact IM_F hI_μ (rpm_0_4 (by (try rw [TI.e (e := ((μ.1 0 4) + (1 : Int32))) (n := ((μ.1 0 4).toInt + 1)) (TI.add TI.rf (TI.lit (by decide)) (by omega) (by omega))]); omega))
    have hF_μ6 : Fr [(0, 0, 4), (0, 0, 5)] true μ μ6 := by rw [e_μ6]; exact Fr.put hF_μ (by decide +kernel)
    have v_μ6 : (μ6.1 0 4).toInt = ((μ.1 0 4).toInt + 1) := by rw [e_μ6, sF_v]; exact TI.e (n := ((μ.1 0 4).toInt + 1)) (TI.add TI.rf (TI.lit (by decide)) (by omega) (by omega))
    have hr_μ6 : μ6.2.2 = μ.2.2 := (by rw [e_μ6]; rfl : μ6.2.2 = μ.2.2).trans hr_μ
    have g7 := rgm_0_4 hI_μ6
    exact ok_some ⟨hI_μ6, hF_μ6, by (try dsimp only); (try rw [hr_μ6]); omega⟩
  · intro c5
    rw [ti_eq] at c5
    refine ok_bd (k_X12_fails (μ.1 0 4) μ hI_μ) ?_
    rintro r9 μ8 ⟨hI_μ8, hC_μ8, p_μ8⟩
    have hI_μ8 : IM μ8 := hI_μ8
    have hC_μ8 : Fr [(0, 0, 5)] true μ μ8 := hC_μ8
    dsimp only at p_μ8
    have lo_r9 := ti_lo r9
    have hi_r9 := ti_hi r9
    have hF_μ8 : Fr [(0, 0, 4), (0, 0, 5)] true μ μ8 := hF_μ.trans (hC_μ8.mono (by decide +kernel) (by decide))
    have hr_μ8 : μ8.2.2 = μ.2.2 := (hC_μ8.2 rfl : μ8.2.2 = μ.2.2).trans hr_μ
    refine ok_gd (isB_of (by omega)) ?_
    have g10 := rgm_0_4 hI_μ8
    have f11 : (μ8.1 0 4).toInt = (μ.1 0 4).toInt := congrArg Int32.toInt (hC_μ8.1 0 4 (by decide +kernel))
    exact ok_some ⟨hI_μ8, hF_μ8, by (try dsimp only); (try rw [hr_μ8]); omega⟩

set_option maxHeartbeats 4000000 in
set_option maxRecDepth 100000 in
theorem k_X12_beginText  (μ : Mem) (hI_μ : IM μ) : ok (p_X12_beginText  μ) (fun q => IM q ∧ Fr [(0, 0, 4), (0, 0, 5)] true μ q) := by
  have lim1 : (-1 : Int32).toInt = -1 := by decide
  have li0 : (0 : Int32).toInt = 0 := by decide
  have li1 : (1 : Int32).toInt = 1 := by decide
  have hF_μ : Fr [(0, 0, 4), (0, 0, 5)] true μ μ := Fr.rf
  have hr_μ : μ.2.2 = μ.2.2 := rfl
  rw [p_X12_beginText_eq]
  refine ok_bv (fun μ1 e_μ1 => ?_)
  have hI_μ1 : IM μ1 := by rw [e_μ1]; exact IM_F hI_μ (rpm_0_4 (by omega))
  have hF_μ1 : Fr [(0, 0, 4), (0, 0, 5)] true μ μ1 := by rw [e_μ1]; exact Fr.put hF_μ (by decide +kernel)
  have v_μ1 : (μ1.1 0 4).toInt = 0 := by rw [e_μ1, sF_v]; exact TI.e (n := 0) (TI.lit (by decide))
  have hr_μ1 : μ1.2.2 = μ.2.2 := (by rw [e_μ1]; rfl : μ1.2.2 = μ.2.2).trans hr_μ
  refine ok_bv (fun μ2 e_μ2 => ?_)
  have hI_μ2 : IM μ2 := by rw [e_μ2]; exact IM_F hI_μ1 (rtm_0_5 _)
  have hF_μ2 : Fr [(0, 0, 4), (0, 0, 5)] true μ μ2 := by rw [e_μ2]; exact Fr.put hF_μ1 (by decide +kernel)
  have v_μ2 : (μ2.1 0 5).toInt = (-1) := by rw [e_μ2, sF_v]; exact TI.e (n := (-1)) (TI.lit (by decide))
  have hr_μ2 : μ2.2.2 = μ.2.2 := (by rw [e_μ2]; rfl : μ2.2.2 = μ1.2.2).trans hr_μ1
  exact ok_some ⟨hI_μ2, hF_μ2⟩

set_option maxHeartbeats 4000000 in
set_option maxRecDepth 100000 in
theorem k_X12_beginsNumber  (μ : Mem) (hI_μ : IM μ) : ok (p_X12_beginsNumber  μ) (fun q => μ = q.2 ∧ (((q.1).toInt = 0 ∨ (q.1).toInt = 1))) := by
  have li0 : (0 : Int32).toInt = 0 := by decide
  have li1 : (1 : Int32).toInt = 1 := by decide
  have li45 : (45 : Int32).toInt = 45 := by decide
  have hF_μ : Fr [] true μ μ := Fr.rf
  have hr_μ : μ.2.2 = μ.2.2 := rfl
  rw [p_X12_beginsNumber_eq]
  have g3 := rgm_0_3 hI_μ
  have g4 := rgm_0_4 hI_μ
  refine ok_bd (k_X12_here  μ hI_μ) ?_
  rintro r2 μ1 ⟨hq9, p_r2⟩
  obtain rfl : μ = μ1 := hq9
  dsimp only at p_r2
  have lo_r2 := ti_lo r2
  have hi_r2 := ti_hi r2
  refine ok_ite ?_ ?_
  · intro c5
    rw [ti_eq] at c5
    have y6 := tf_isFigure r2
    refine ok_bd (k_X12_here  μ hI_μ) ?_
    rintro r8 μ7 ⟨hq9, p_r8⟩
    obtain rfl : μ = μ7 := hq9
    dsimp only at p_r8
    have lo_r8 := ti_lo r8
    have hi_r8 := ti_hi r8
    refine ok_ite ?_ ?_
    · intro c9
      rw [ti_eq] at c9
      exact ok_some ⟨rfl, by (try dsimp only); omega⟩
    · intro c9
      rw [ti_eq] at c9
      exact ok_some ⟨rfl, by (try dsimp only); omega⟩
  · intro c5
    rw [ti_eq] at c5
    have y10 := tf_isFigure r2
    exact ok_some ⟨rfl, by (try dsimp only); omega⟩

set_option maxHeartbeats 4000000 in
set_option maxRecDepth 100000 in
theorem k_X12_digits_b8 : ∀ (n : Nat) (a1 : Int32) (a3 : Int32) (a4 : Int32) (μ : Mem), IM μ → (0 ≤ (a4).toInt ∧ (a4).toInt ≤ (μ.1 0 4).toInt ∧ (μ.1 0 4).toInt ≤ 800 ∧ 801 - (μ.1 0 4).toInt < n) → ok (p_X12_digits_b8 n a1 a3 a4 μ) (fun q => IM q.2 ∧ Fr [(0, 0, 4)] true μ q.2 ∧ ((μ.1 0 4).toInt ≤ (q.2.1 0 4).toInt ∧ ((μ.1 0 4).toInt < (q.2.1 0 4).toInt ∨ (a1).toInt ≤ (μ.1 0 4).toInt - (a4).toInt ∨ (μ.1 0 3).toInt ≤ (μ.1 0 4).toInt ∨ ((μ.1 1 (μ.1 0 4).toNatClampNeg) &&& 255).toInt < 48 ∨ 57 < ((μ.1 1 (μ.1 0 4).toNatClampNeg) &&& 255).toInt))) := by
  have li0 : (0 : Int32).toInt = 0 := by decide
  have li1 : (1 : Int32).toInt = 1 := by decide
  have li10 : (10 : Int32).toInt = 10 := by decide
  have li48 : (48 : Int32).toInt = 48 := by decide
  intro n
  induction n with
  | zero => intro a1 a3 a4 μ hI_μ hc; exact absurd hc (by have lo_a1 := ti_lo a1; have hi_a1 := ti_hi a1; have lo_a3 := ti_lo a3; have hi_a3 := ti_hi a3; have lo_a4 := ti_lo a4; have hi_a4 := ti_hi a4; omega)
  | succ n ih =>
    intro a1 a3 a4 μ hI_μ hc
    have hF_μ : Fr [(0, 0, 4)] true μ μ := Fr.rf
    have hr_μ : μ.2.2 = μ.2.2 := rfl
    rw [p_X12_digits_b8_s]
    have lo_a1 := ti_lo a1
    have hi_a1 := ti_hi a1
    have lo_a3 := ti_lo a3
    have hi_a3 := ti_hi a3
    have lo_a4 := ti_lo a4
    have hi_a4 := ti_hi a4
    have g4 := rgm_0_4 hI_μ
    have g5 := rgm_0_3 hI_μ
    refine ok_bd (k_X12_here  μ hI_μ) ?_
    rintro r7 μ6 ⟨hq9, p_r7⟩
    obtain rfl : μ = μ6 := hq9
    dsimp only at p_r7
    have lo_r7 := ti_lo r7
    have hi_r7 := ti_hi r7
    refine ok_ite ?_ ?_
    · intro c8
      rw [ti_eq] at c8
      have y9 := tf_isFigure r7
      exact ok_some ⟨hI_μ, hF_μ, by (try dsimp only); omega⟩
    · intro c8
      rw [ti_eq] at c8
      have y10 := tf_isFigure r7
      refine ok_ite ?_ ?_
      · intro c11
        rw [ti_le] at c11
        try rw [TI.e (e := ((μ.1 0 4) - a4)) (n := ((μ.1 0 4).toInt - a4.toInt)) (TI.sub TI.rf TI.rf (by omega) (by omega))] at c11
        exact ok_some ⟨hI_μ, hF_μ, by (try dsimp only); omega⟩
      · intro c11
        rw [ti_le] at c11
        try rw [TI.e (e := ((μ.1 0 4) - a4)) (n := ((μ.1 0 4).toInt - a4.toInt)) (TI.sub TI.rf TI.rf (by omega) (by omega))] at c11
        refine ok_bd (k_X12_here  μ hI_μ) ?_
        rintro r13 μ12 ⟨hq9, p_r13⟩
        obtain rfl : μ = μ12 := hq9
        dsimp only at p_r13
        have lo_r13 := ti_lo r13
        have hi_r13 := ti_hi r13
        refine ok_bv (fun v14 ev14 => ?_)
        first | have tv14 : v14.toInt = ((((10 : Int32) * a3).toInt + r13.toInt) - 48) := (congrArg Int32.toInt ev14).trans (TI.e (n := ((((10 : Int32) * a3).toInt + r13.toInt) - 48)) (TI.sub (TI.add TI.rf TI.rf (by omega) (by omega)) (TI.lit (by decide)) (by omega) (by omega))) | skip
        refine ok_bv (fun μ15 e_μ15 => ?_)
        have hI_μ15 : IM μ15 := by rw [e_μ15]; exact IM_F hI_μ (rpm_0_4 (by (try rw [TI.e (e := ((μ.1 0 4) + (1 : Int32))) (n := ((μ.1 0 4).toInt + 1)) (TI.add TI.rf (TI.lit (by decide)) (by omega) (by omega))]); omega))
        have hF_μ15 : Fr [(0, 0, 4)] true μ μ15 := by rw [e_μ15]; exact Fr.put hF_μ (by decide +kernel)
        have v_μ15 : (μ15.1 0 4).toInt = ((μ.1 0 4).toInt + 1) := by rw [e_μ15, sF_v]; exact TI.e (n := ((μ.1 0 4).toInt + 1)) (TI.add TI.rf (TI.lit (by decide)) (by omega) (by omega))
        have hr_μ15 : μ15.2.2 = μ.2.2 := (by rw [e_μ15]; rfl : μ15.2.2 = μ.2.2).trans hr_μ
        have g16 := rgm_0_4 hI_μ15
        have g17 := rgm_0_3 hI_μ15
        have f18 : (μ15.1 0 3).toInt = (μ.1 0 3).toInt := congrArg Int32.toInt ((by rw [e_μ15]; rfl : μ15.1 0 3 = μ.1 0 3))
        exact ok_mono (ih a1 v14 a4 μ15 hI_μ15 (by (try rw [hr_μ15]); omega)) (fun q h => ⟨h.1, hF_μ15.trans h.2.1, by have h9 := h.2.2; (try dsimp only at h9 ⊢); omega⟩)
set_option maxHeartbeats 4000000 in
set_option maxRecDepth 100000 in
theorem k_X12_digits (a1 : Int32) (a2 : Int32) (μ : Mem) (hI_μ : IM μ) : ok (p_X12_digits a1 a2 μ) (fun q => IM q.2 ∧ Fr [(0, 0, 4)] true μ q.2 ∧ ((μ.1 0 4).toInt ≤ (q.2.1 0 4).toInt ∧ ((μ.1 0 4).toInt < (q.2.1 0 4).toInt ∨ (a1).toInt ≤ 0 ∨ (μ.1 0 3).toInt ≤ (μ.1 0 4).toInt ∨ ((μ.1 1 (μ.1 0 4).toNatClampNeg) &&& 255).toInt < 48 ∨ 57 < ((μ.1 1 (μ.1 0 4).toNatClampNeg) &&& 255).toInt))) := by
  have li0 : (0 : Int32).toInt = 0 := by decide
  have li1 : (1 : Int32).toInt = 1 := by decide
  have hF_μ : Fr [(0, 0, 4)] true μ μ := Fr.rf
  have hr_μ : μ.2.2 = μ.2.2 := rfl
  rw [p_X12_digits_eq]
  have lo_a1 := ti_lo a1
  have hi_a1 := ti_hi a1
  have lo_a2 := ti_lo a2
  have hi_a2 := ti_hi a2
  have g1 := rgm_0_4 hI_μ
  have g2 := rgm_0_3 hI_μ
  refine ok_bv (fun v3 ev3 => ?_)
  have tv3 : v3.toInt = (μ.1 0 4).toInt := congrArg Int32.toInt ev3
  obtain ⟨fu, hfu0, hfu⟩ := fuel_ex
  rw [hfu0]
  exact ok_mono (k_X12_digits_b8  fu a1 a2 v3 μ hI_μ (by omega)) (fun q h => ⟨h.1, hF_μ.trans h.2.1, by have h9 := h.2.2; (try dsimp only at h9 ⊢); omega⟩)

set_option maxHeartbeats 4000000 in
set_option maxRecDepth 100000 in
theorem k_X12_readNumber_b161 (a1 : Int32) (a2 : Int32) (k0 : UInt32) (μ : Mem) (hI_μ : IM μ) (hc : (k0 = 1092616192 ∨ k0 = 1120403456 ∨ k0 = 1148846080)) : ok (p_X12_readNumber_b161 a1 a2 k0 μ) (fun q => IM q.2 ∧ Fr [(0, 0, 4), (0, 0, 5), (0, 0, 6), (0, 0, 7)] true μ q.2 ∧ (((q.1).toInt = 0 ∨ (q.1).toInt = 1) ∧ (q.2.1 0 4).toInt = (μ.1 0 4).toInt)) := by
  have li0 : (0 : Int32).toInt = 0 := by decide
  have li1 : (1 : Int32).toInt = 1 := by decide
  have hF_μ : Fr [(0, 0, 4), (0, 0, 5), (0, 0, 6), (0, 0, 7)] true μ μ := Fr.rf
  have hr_μ : μ.2.2 = μ.2.2 := rfl
  rw [p_X12_readNumber_b161_eq]
  have lo_a1 := ti_lo a1
  have hi_a1 := ti_hi a1
  have lo_a2 := ti_lo a2
  have hi_a2 := ti_hi a2
  have g53 := rgm_0_4 hI_μ
  refine ok_bv (fun μ54 e_μ54 => ?_)
  have hI_μ54 : IM μ54 := by rw [e_μ54]; exact IM_F hI_μ (rtm_0_6 _)
  have hF_μ54 : Fr [(0, 0, 4), (0, 0, 5), (0, 0, 6), (0, 0, 7)] true μ μ54 := by rw [e_μ54]; exact Fr.put hF_μ (by decide +kernel)
  have v_μ54 : (μ54.1 0 6).toInt = 1 := by rw [e_μ54, sF_v]; exact TI.e (n := 1) (TI.lit (by decide))
  have hr_μ54 : μ54.2.2 = μ.2.2 := (by rw [e_μ54]; rfl : μ54.2.2 = μ.2.2).trans hr_μ
  refine ok_ite ?_ ?_
  · intro c55
    rw [ti_eq] at c55
    refine ok_gd (n32_dec _ hc) ?_
    refine ok_bv (fun μ57 e_μ57 => ?_)
    have hI_μ57 : IM μ57 := by rw [e_μ57]; exact IM_F hI_μ54 (rtm_0_7 _)
    have hF_μ57 : Fr [(0, 0, 4), (0, 0, 5), (0, 0, 6), (0, 0, 7)] true μ μ57 := by rw [e_μ57]; exact Fr.put hF_μ54 (by decide +kernel)
    have v_μ57 : (μ57.1 0 7).toInt = (s_X12_bitsOf (FP.fdiv (FP.i2f a2) k0)).toInt := by rw [e_μ57, sF_v]
    have hr_μ57 : μ57.2.2 = μ.2.2 := (by rw [e_μ57]; rfl : μ57.2.2 = μ54.2.2).trans hr_μ54
    have g58 := rgm_0_4 hI_μ57
    have f59 : (μ57.1 0 4).toInt = (μ.1 0 4).toInt := congrArg Int32.toInt (((by rw [e_μ57]; rfl : μ57.1 0 4 = μ54.1 0 4)).trans ((by rw [e_μ54]; rfl : μ54.1 0 4 = μ.1 0 4)))
    exact ok_some ⟨hI_μ57, hF_μ57, by (try dsimp only); (try rw [hr_μ57]); omega⟩
  · intro c55
    rw [ti_eq] at c55
    refine ok_gd (n32_dec _ hc) ?_
    refine ok_bv (fun μ61 e_μ61 => ?_)
    have hI_μ61 : IM μ61 := by rw [e_μ61]; exact IM_F hI_μ54 (rtm_0_7 _)
    have hF_μ61 : Fr [(0, 0, 4), (0, 0, 5), (0, 0, 6), (0, 0, 7)] true μ μ61 := by rw [e_μ61]; exact Fr.put hF_μ54 (by decide +kernel)
    have v_μ61 : (μ61.1 0 7).toInt = (s_X12_bitsOf (FP.fdiv (FP.i2f (-a2)) k0)).toInt := by rw [e_μ61, sF_v]
    have hr_μ61 : μ61.2.2 = μ.2.2 := (by rw [e_μ61]; rfl : μ61.2.2 = μ54.2.2).trans hr_μ54
    have g62 := rgm_0_4 hI_μ61
    have f63 : (μ61.1 0 4).toInt = (μ.1 0 4).toInt := congrArg Int32.toInt (((by rw [e_μ61]; rfl : μ61.1 0 4 = μ54.1 0 4)).trans ((by rw [e_μ54]; rfl : μ54.1 0 4 = μ.1 0 4)))
    exact ok_some ⟨hI_μ61, hF_μ61, by (try dsimp only); (try rw [hr_μ61]); omega⟩
set_option maxHeartbeats 4000000 in
set_option maxRecDepth 100000 in
theorem k_X12_readNumber_b71 (a1 : Int32) (a2 : Int32) (k0 : Int32) (μ : Mem) (hI_μ : IM μ) : ok (p_X12_readNumber_b71 a1 a2 k0 μ) (fun q => IM q.2 ∧ Fr [(0, 0, 4), (0, 0, 5), (0, 0, 6), (0, 0, 7)] true μ q.2 ∧ (((q.1).toInt = 0 ∨ (q.1).toInt = 1) ∧ (μ.1 0 4).toInt ≤ (q.2.1 0 4).toInt)) := by
  have li0 : (0 : Int32).toInt = 0 := by decide
  have li1 : (1 : Int32).toInt = 1 := by decide
  have li2 : (2 : Int32).toInt = 2 := by decide
  have li3 : (3 : Int32).toInt = 3 := by decide
  have li46 : (46 : Int32).toInt = 46 := by decide
  have hF_μ : Fr [(0, 0, 4), (0, 0, 5), (0, 0, 6), (0, 0, 7)] true μ μ := Fr.rf
  have hr_μ : μ.2.2 = μ.2.2 := rfl
  rw [p_X12_readNumber_b71_eq]
  have lo_a1 := ti_lo a1
  have hi_a1 := ti_hi a1
  have lo_a2 := ti_lo a2
  have hi_a2 := ti_hi a2
  have lo_k0 := ti_lo k0
  have hi_k0 := ti_hi k0
  have g26 := rgm_0_4 hI_μ
  refine ok_bv (fun μ27 e_μ27 => ?_)
  have hI_μ27 : IM μ27 := by rw [e_μ27]; exact IM_F hI_μ (rtm_0_7 _)
  have hF_μ27 : Fr [(0, 0, 4), (0, 0, 5), (0, 0, 6), (0, 0, 7)] true μ μ27 := by rw [e_μ27]; exact Fr.put hF_μ (by decide +kernel)
  have v_μ27 : (μ27.1 0 7).toInt = k0.toInt := by rw [e_μ27, sF_v]
  have hr_μ27 : μ27.2.2 = μ.2.2 := (by rw [e_μ27]; rfl : μ27.2.2 = μ.2.2).trans hr_μ
  have g30 := rgm_0_3 hI_μ27
  have g31 := rgm_0_4 hI_μ27
  have f32 : (μ27.1 0 4).toInt = (μ.1 0 4).toInt := congrArg Int32.toInt ((by rw [e_μ27]; rfl : μ27.1 0 4 = μ.1 0 4))
  refine ok_bd (k_X12_here  μ27 hI_μ27) ?_
  rintro r29 μ28 ⟨hq9, p_r29⟩
  obtain rfl : μ27 = μ28 := hq9
  dsimp only at p_r29
  have lo_r29 := ti_lo r29
  have hi_r29 := ti_hi r29
  try simp only [hr_μ27] at p_r29
  refine ok_ite ?_ ?_
  · intro c33
    rw [ti_eq] at c33
    refine ok_bv (fun μ34 e_μ34 => ?_)
    have hI_μ34 : IM μ34 := by rw [e_μ34]; exact IM_F hI_μ27 (rpm_0_4 (by (try rw [TI.e (e := ((μ27.1 0 4) + (1 : Int32))) (n := ((μ27.1 0 4).toInt + 1)) (TI.add TI.rf (TI.lit (by decide)) (by omega) (by omega))]); omega))
    have hF_μ34 : Fr [(0, 0, 4), (0, 0, 5), (0, 0, 6), (0, 0, 7)] true μ μ34 := by rw [e_μ34]; exact Fr.put hF_μ27 (by decide +kernel)
    have v_μ34 : (μ34.1 0 4).toInt = ((μ27.1 0 4).toInt + 1) := by rw [e_μ34, sF_v]; exact TI.e (n := ((μ27.1 0 4).toInt + 1)) (TI.add TI.rf (TI.lit (by decide)) (by omega) (by omega))
    have hr_μ34 : μ34.2.2 = μ.2.2 := (by rw [e_μ34]; rfl : μ34.2.2 = μ27.2.2).trans hr_μ27
    have g37 := rgm_0_3 hI_μ34
    have f38 : (μ34.1 0 3).toInt = (μ27.1 0 3).toInt := congrArg Int32.toInt ((by rw [e_μ34]; rfl : μ34.1 0 3 = μ27.1 0 3))
    have g39 := rgm_0_4 hI_μ34
    refine ok_bd (k_X12_here  μ34 hI_μ34) ?_
    rintro r36 μ35 ⟨hq9, p_r36⟩
    obtain rfl : μ34 = μ35 := hq9
    dsimp only at p_r36
    have lo_r36 := ti_lo r36
    have hi_r36 := ti_hi r36
    try simp only [hr_μ34] at p_r36
    refine ok_ite ?_ ?_
    · intro c40
      rw [ti_eq] at c40
      have y41 := tf_isFigure r36
      refine ok_bd (k_X12_fails (μ34.1 0 4) μ34 hI_μ34) ?_
      rintro r43 μ42 ⟨hI_μ42, hC_μ42, p_μ42⟩
      have hI_μ42 : IM μ42 := hI_μ42
      have hC_μ42 : Fr [(0, 0, 5)] true μ34 μ42 := hC_μ42
      dsimp only at p_μ42
      have lo_r43 := ti_lo r43
      have hi_r43 := ti_hi r43
      have hF_μ42 : Fr [(0, 0, 4), (0, 0, 5), (0, 0, 6), (0, 0, 7)] true μ μ42 := hF_μ34.trans (hC_μ42.mono (by decide +kernel) (by decide))
      have hr_μ42 : μ42.2.2 = μ.2.2 := (hC_μ42.2 rfl : μ42.2.2 = μ34.2.2).trans hr_μ34
      refine ok_gd (isB_of (by omega)) ?_
      have g44 := rgm_0_4 hI_μ42
      have f45 : (μ42.1 0 4).toInt = (μ34.1 0 4).toInt := congrArg Int32.toInt (hC_μ42.1 0 4 (by decide +kernel))
      exact ok_some ⟨hI_μ42, hF_μ42, by (try dsimp only); (try rw [hr_μ42]); omega⟩
    · intro c40
      rw [ti_eq] at c40
      have y47 := tf_isFigure r36
      refine ok_bv (fun v48 ev48 => ?_)
      have tv48 : v48.toInt = (μ34.1 0 4).toInt := congrArg Int32.toInt ev48
      refine ok_bd (k_X12_digits (3 : Int32) a2 μ34 hI_μ34) ?_
      rintro r50 μ49 ⟨hI_μ49, hC_μ49, p_μ49⟩
      have hI_μ49 : IM μ49 := hI_μ49
      have hC_μ49 : Fr [(0, 0, 4)] true μ34 μ49 := hC_μ49
      dsimp only at p_μ49
      have lo_r50 := ti_lo r50
      have hi_r50 := ti_hi r50
      have hF_μ49 : Fr [(0, 0, 4), (0, 0, 5), (0, 0, 6), (0, 0, 7)] true μ μ49 := hF_μ34.trans (hC_μ49.mono (by decide +kernel) (by decide))
      have hr_μ49 : μ49.2.2 = μ.2.2 := (hC_μ49.2 rfl : μ49.2.2 = μ34.2.2).trans hr_μ34
      try simp only [hr_μ49, hr_μ34] at p_μ49
      have g51 := rgm_0_4 hI_μ49
      refine ok_ite ?_ ?_
      · intro c52
        rw [ti_eq] at c52
        try rw [TI.e (e := ((μ49.1 0 4) - v48)) (n := ((μ49.1 0 4).toInt - v48.toInt)) (TI.sub TI.rf TI.rf (by omega) (by omega))] at c52
        exact ok_mono (k_X12_readNumber_b161  a1 r50 (1092616192) μ49 hI_μ49 (by first | exact Or.inl rfl | exact Or.inr (Or.inl rfl) | exact Or.inr (Or.inr rfl))) (fun q h => ⟨h.1, hF_μ49.trans h.2.1, by have h9 := h.2.2; (try dsimp only at h9 ⊢); omega⟩)
      · intro c52
        rw [ti_eq] at c52
        try rw [TI.e (e := ((μ49.1 0 4) - v48)) (n := ((μ49.1 0 4).toInt - v48.toInt)) (TI.sub TI.rf TI.rf (by omega) (by omega))] at c52
        refine ok_ite ?_ ?_
        · intro c64
          rw [ti_eq] at c64
          try rw [TI.e (e := ((μ49.1 0 4) - v48)) (n := ((μ49.1 0 4).toInt - v48.toInt)) (TI.sub TI.rf TI.rf (by omega) (by omega))] at c64
          exact ok_mono (k_X12_readNumber_b161  a1 r50 (1120403456) μ49 hI_μ49 (by first | exact Or.inl rfl | exact Or.inr (Or.inl rfl) | exact Or.inr (Or.inr rfl))) (fun q h => ⟨h.1, hF_μ49.trans h.2.1, by have h9 := h.2.2; (try dsimp only at h9 ⊢); omega⟩)
        · intro c64
          rw [ti_eq] at c64
          try rw [TI.e (e := ((μ49.1 0 4) - v48)) (n := ((μ49.1 0 4).toInt - v48.toInt)) (TI.sub TI.rf TI.rf (by omega) (by omega))] at c64
          exact ok_mono (k_X12_readNumber_b161  a1 r50 (1148846080) μ49 hI_μ49 (by first | exact Or.inl rfl | exact Or.inr (Or.inl rfl) | exact Or.inr (Or.inr rfl))) (fun q h => ⟨h.1, hF_μ49.trans h.2.1, by have h9 := h.2.2; (try dsimp only at h9 ⊢); omega⟩)
  · intro c33
    rw [ti_eq] at c33
    exact ok_some ⟨hI_μ27, hF_μ27, by (try dsimp only); (try rw [hr_μ27]); omega⟩
set_option maxHeartbeats 4000000 in
set_option maxRecDepth 100000 in
theorem k_X12_readNumber_b29 (a1 : Int32) (μ : Mem) (hI_μ : IM μ) : ok (p_X12_readNumber_b29 a1 μ) (fun q => IM q.2 ∧ Fr [(0, 0, 4), (0, 0, 5), (0, 0, 6), (0, 0, 7)] true μ q.2 ∧ (((q.1).toInt = 0 ∨ (q.1).toInt = 1) ∧ (μ.1 0 4).toInt ≤ (q.2.1 0 4).toInt ∧ ((q.1).toInt = 0 ∨ (μ.1 0 4).toInt < (q.2.1 0 4).toInt))) := by
  have li0 : (0 : Int32).toInt = 0 := by decide
  have li1 : (1 : Int32).toInt = 1 := by decide
  have li5 : (5 : Int32).toInt = 5 := by decide
  have hF_μ : Fr [(0, 0, 4), (0, 0, 5), (0, 0, 6), (0, 0, 7)] true μ μ := Fr.rf
  have hr_μ : μ.2.2 = μ.2.2 := rfl
  rw [p_X12_readNumber_b29_eq]
  have lo_a1 := ti_lo a1
  have hi_a1 := ti_hi a1
  have g9 := rgm_0_4 hI_μ
  have g12 := rgm_0_3 hI_μ
  refine ok_bd (k_X12_here  μ hI_μ) ?_
  rintro r11 μ10 ⟨hq9, p_r11⟩
  obtain rfl : μ = μ10 := hq9
  dsimp only at p_r11
  have lo_r11 := ti_lo r11
  have hi_r11 := ti_hi r11
  refine ok_ite ?_ ?_
  · intro c13
    rw [ti_eq] at c13
    have y14 := tf_isFigure r11
    refine ok_bd (k_X12_fails (μ.1 0 4) μ hI_μ) ?_
    rintro r16 μ15 ⟨hI_μ15, hC_μ15, p_μ15⟩
    have hI_μ15 : IM μ15 := hI_μ15
    have hC_μ15 : Fr [(0, 0, 5)] true μ μ15 := hC_μ15
    dsimp only at p_μ15
    have lo_r16 := ti_lo r16
    have hi_r16 := ti_hi r16
    have hF_μ15 : Fr [(0, 0, 4), (0, 0, 5), (0, 0, 6), (0, 0, 7)] true μ μ15 := hF_μ.trans (hC_μ15.mono (by decide +kernel) (by decide))
    have hr_μ15 : μ15.2.2 = μ.2.2 := (hC_μ15.2 rfl : μ15.2.2 = μ.2.2).trans hr_μ
    refine ok_gd (isB_of (by omega)) ?_
    have g17 := rgm_0_4 hI_μ15
    have f18 : (μ15.1 0 4).toInt = (μ.1 0 4).toInt := congrArg Int32.toInt (hC_μ15.1 0 4 (by decide +kernel))
    exact ok_some ⟨hI_μ15, hF_μ15, by (try dsimp only); (try rw [hr_μ15]); omega⟩
  · intro c13
    rw [ti_eq] at c13
    have y20 := tf_isFigure r11
    refine ok_bd (k_X12_digits (5 : Int32) (0 : Int32) μ hI_μ) ?_
    rintro r22 μ21 ⟨hI_μ21, hC_μ21, p_μ21⟩
    have hI_μ21 : IM μ21 := hI_μ21
    have hC_μ21 : Fr [(0, 0, 4)] true μ μ21 := hC_μ21
    dsimp only at p_μ21
    have lo_r22 := ti_lo r22
    have hi_r22 := ti_hi r22
    have hF_μ21 : Fr [(0, 0, 4), (0, 0, 5), (0, 0, 6), (0, 0, 7)] true μ μ21 := hF_μ.trans (hC_μ21.mono (by decide +kernel) (by decide))
    have hr_μ21 : μ21.2.2 = μ.2.2 := (hC_μ21.2 rfl : μ21.2.2 = μ.2.2).trans hr_μ
    try simp only [hr_μ21, hr_μ] at p_μ21
    have g23 := rgm_0_4 hI_μ21
    refine ok_bv (fun μ24 e_μ24 => ?_)
    have hI_μ24 : IM μ24 := by rw [e_μ24]; exact IM_F hI_μ21 (rtm_0_6 _)
    have hF_μ24 : Fr [(0, 0, 4), (0, 0, 5), (0, 0, 6), (0, 0, 7)] true μ μ24 := by rw [e_μ24]; exact Fr.put hF_μ21 (by decide +kernel)
    have v_μ24 : (μ24.1 0 6).toInt = 0 := by rw [e_μ24, sF_v]; exact TI.e (n := 0) (TI.lit (by decide))
    have hr_μ24 : μ24.2.2 = μ.2.2 := (by rw [e_μ24]; rfl : μ24.2.2 = μ21.2.2).trans hr_μ21
    refine ok_ite ?_ ?_
    · intro c25
      rw [ti_eq] at c25
      have g65 := rgm_0_4 hI_μ24
      have f66 : (μ24.1 0 4).toInt = (μ21.1 0 4).toInt := congrArg Int32.toInt ((by rw [e_μ24]; rfl : μ24.1 0 4 = μ21.1 0 4))
      exact ok_mono (k_X12_readNumber_b71  a1 r22 r22 μ24 hI_μ24) (fun q h => ⟨h.1, hF_μ24.trans h.2.1, by have h9 := h.2.2; (try dsimp only at h9 ⊢); omega⟩)
    · intro c25
      rw [ti_eq] at c25
      have g67 := rgm_0_4 hI_μ24
      have f68 : (μ24.1 0 4).toInt = (μ21.1 0 4).toInt := congrArg Int32.toInt ((by rw [e_μ24]; rfl : μ24.1 0 4 = μ21.1 0 4))
      exact ok_mono (k_X12_readNumber_b71  a1 r22 (-r22) μ24 hI_μ24) (fun q h => ⟨h.1, hF_μ24.trans h.2.1, by have h9 := h.2.2; (try dsimp only at h9 ⊢); omega⟩)
set_option maxHeartbeats 4000000 in
set_option maxRecDepth 100000 in
theorem k_X12_readNumber_b14 (k0 : Int32) (μ : Mem) (hI_μ : IM μ) (hc : ((k0).toInt = 0 ∨ (μ.1 0 4).toInt < (μ.1 0 3).toInt)) : ok (p_X12_readNumber_b14 k0 μ) (fun q => IM q.2 ∧ Fr [(0, 0, 4), (0, 0, 5), (0, 0, 6), (0, 0, 7)] true μ q.2 ∧ (((q.1).toInt = 0 ∨ (q.1).toInt = 1) ∧ (μ.1 0 4).toInt ≤ (q.2.1 0 4).toInt ∧ ((q.1).toInt = 0 ∨ (μ.1 0 4).toInt < (q.2.1 0 4).toInt))) := by
  have li0 : (0 : Int32).toInt = 0 := by decide
  have li1 : (1 : Int32).toInt = 1 := by decide
  have hF_μ : Fr [(0, 0, 4), (0, 0, 5), (0, 0, 6), (0, 0, 7)] true μ μ := Fr.rf
  have hr_μ : μ.2.2 = μ.2.2 := rfl
  rw [p_X12_readNumber_b14_eq]
  have lo_k0 := ti_lo k0
  have hi_k0 := ti_hi k0
  have g6 := rgm_0_4 hI_μ
  have g7 := rgm_0_3 hI_μ
  refine ok_ite ?_ ?_
  · intro c8
    rw [ti_eq] at c8
    exact ok_mono (k_X12_readNumber_b29  k0 μ hI_μ) (fun q h => ⟨h.1, hF_μ.trans h.2.1, by have h9 := h.2.2; (try dsimp only at h9 ⊢); omega⟩)
  · intro c8
    rw [ti_eq] at c8
    refine ok_bv (fun μ69 e_μ69 => ?_)
    have hI_μ69 : IM μ69 := by rw [e_μ69]; exact IM_F hI_μ (rpm_0_4 (by (try rw [TI.e (e := ((μ.1 0 4) + (1 : Int32))) (n := ((μ.1 0 4).toInt + 1)) (TI.add TI.rf (TI.lit (by decide)) (by omega) (by omega))]); omega))
    have hF_μ69 : Fr [(0, 0, 4), (0, 0, 5), (0, 0, 6), (0, 0, 7)] true μ μ69 := by rw [e_μ69]; exact Fr.put hF_μ (by decide +kernel)
    have v_μ69 : (μ69.1 0 4).toInt = ((μ.1 0 4).toInt + 1) := by rw [e_μ69, sF_v]; exact TI.e (n := ((μ.1 0 4).toInt + 1)) (TI.add TI.rf (TI.lit (by decide)) (by omega) (by omega))
    have hr_μ69 : μ69.2.2 = μ.2.2 := (by rw [e_μ69]; rfl : μ69.2.2 = μ.2.2).trans hr_μ
    have g70 := rgm_0_4 hI_μ69
    exact ok_mono (k_X12_readNumber_b29  k0 μ69 hI_μ69) (fun q h => ⟨h.1, hF_μ69.trans h.2.1, by have h9 := h.2.2; (try dsimp only at h9 ⊢); omega⟩)
set_option maxHeartbeats 4000000 in
set_option maxRecDepth 100000 in
theorem k_X12_readNumber  (μ : Mem) (hI_μ : IM μ) : ok (p_X12_readNumber  μ) (fun q => IM q.2 ∧ Fr [(0, 0, 4), (0, 0, 5), (0, 0, 6), (0, 0, 7)] true μ q.2 ∧ (((q.1).toInt = 0 ∨ (q.1).toInt = 1) ∧ (μ.1 0 4).toInt ≤ (q.2.1 0 4).toInt ∧ ((q.1).toInt = 0 ∨ (μ.1 0 4).toInt < (q.2.1 0 4).toInt))) := by
  have li0 : (0 : Int32).toInt = 0 := by decide
  have li1 : (1 : Int32).toInt = 1 := by decide
  have li45 : (45 : Int32).toInt = 45 := by decide
  have hF_μ : Fr [(0, 0, 4), (0, 0, 5), (0, 0, 6), (0, 0, 7)] true μ μ := Fr.rf
  have hr_μ : μ.2.2 = μ.2.2 := rfl
  rw [p_X12_readNumber_eq]
  have g1 := rgm_0_4 hI_μ
  have g4 := rgm_0_3 hI_μ
  refine ok_bd (k_X12_here  μ hI_μ) ?_
  rintro r3 μ2 ⟨hq9, p_r3⟩
  obtain rfl : μ = μ2 := hq9
  dsimp only at p_r3
  have lo_r3 := ti_lo r3
  have hi_r3 := ti_hi r3
  refine ok_ite ?_ ?_
  · intro c5
    rw [ti_eq] at c5
    exact ok_mono (k_X12_readNumber_b14  (1 : Int32) μ hI_μ (by omega)) (fun q h => ⟨h.1, hF_μ.trans h.2.1, by have h9 := h.2.2; (try dsimp only at h9 ⊢); omega⟩)
  · intro c5
    rw [ti_eq] at c5
    exact ok_mono (k_X12_readNumber_b14  (0 : Int32) μ hI_μ (by omega)) (fun q h => ⟨h.1, hF_μ.trans h.2.1, by have h9 := h.2.2; (try dsimp only at h9 ⊢); omega⟩)

set_option maxHeartbeats 4000000 in
set_option maxRecDepth 100000 in
theorem k_X12_lay (a1 : Int32) (a2 : Int32) (a3 : Int32) (μ : Mem) (hI_μ : IM μ) (hc : (μ.1 0 28).toInt < 800) : ok (p_X12_lay a1 a2 a3 μ) (fun q => IM q.2 ∧ Fr [(0, 0, 28), (1, 16, 0), (1, 17, 0), (1, 18, 0)] true μ q.2 ∧ ((q.1).toInt = 1 ∧ (q.2.1 0 28).toInt = (μ.1 0 28).toInt + 1)) := by
  have li0 : (0 : Int32).toInt = 0 := by decide
  have li1 : (1 : Int32).toInt = 1 := by decide
  have hF_μ : Fr [(0, 0, 28), (1, 16, 0), (1, 17, 0), (1, 18, 0)] true μ μ := Fr.rf
  have hr_μ : μ.2.2 = μ.2.2 := rfl
  rw [p_X12_lay_eq]
  have lo_a1 := ti_lo a1
  have hi_a1 := ti_hi a1
  have lo_a2 := ti_lo a2
  have hi_a2 := ti_hi a2
  have lo_a3 := ti_lo a3
  have hi_a3 := ti_hi a3
  have g1 := rgm_0_28 hI_μ
  refine ok_gd (inb_iff.mpr (by omega)) ?_
  refine ok_bv (fun μ2 e_μ2 => ?_)
  have hI_μ2 : IM μ2 := by rw [e_μ2]; exact IM_F hI_μ (rtma_16 _ _)
  have hF_μ2 : Fr [(0, 0, 28), (1, 16, 0), (1, 17, 0), (1, 18, 0)] true μ μ2 := by rw [e_μ2]; exact Fr.puta hF_μ (by decide +kernel)
  have hr_μ2 : μ2.2.2 = μ.2.2 := (by rw [e_μ2]; rfl : μ2.2.2 = μ.2.2).trans hr_μ
  have g3 := rgm_0_28 hI_μ2
  have f4 : (μ2.1 0 28).toInt = (μ.1 0 28).toInt := congrArg Int32.toInt ((by rw [e_μ2]; rfl : μ2.1 0 28 = μ.1 0 28))
  refine ok_gd (inb_iff.mpr (by omega)) ?_
  refine ok_bv (fun μ5 e_μ5 => ?_)
  have hI_μ5 : IM μ5 := by rw [e_μ5]; exact IM_F hI_μ2 (rtma_17 _ _)
  have hF_μ5 : Fr [(0, 0, 28), (1, 16, 0), (1, 17, 0), (1, 18, 0)] true μ μ5 := by rw [e_μ5]; exact Fr.puta hF_μ2 (by decide +kernel)
  have hr_μ5 : μ5.2.2 = μ.2.2 := (by rw [e_μ5]; rfl : μ5.2.2 = μ2.2.2).trans hr_μ2
  have g6 := rgm_0_28 hI_μ5
  have f7 : (μ5.1 0 28).toInt = (μ2.1 0 28).toInt := congrArg Int32.toInt ((by rw [e_μ5]; rfl : μ5.1 0 28 = μ2.1 0 28))
  refine ok_gd (inb_iff.mpr (by omega)) ?_
  refine ok_bv (fun μ8 e_μ8 => ?_)
  have hI_μ8 : IM μ8 := by rw [e_μ8]; exact IM_F hI_μ5 (rtma_18 _ _)
  have hF_μ8 : Fr [(0, 0, 28), (1, 16, 0), (1, 17, 0), (1, 18, 0)] true μ μ8 := by rw [e_μ8]; exact Fr.puta hF_μ5 (by decide +kernel)
  have hr_μ8 : μ8.2.2 = μ.2.2 := (by rw [e_μ8]; rfl : μ8.2.2 = μ5.2.2).trans hr_μ5
  have g9 := rgm_0_28 hI_μ8
  have f10 : (μ8.1 0 28).toInt = (μ5.1 0 28).toInt := congrArg Int32.toInt ((by rw [e_μ8]; rfl : μ8.1 0 28 = μ5.1 0 28))
  refine ok_bv (fun μ11 e_μ11 => ?_)
  have hI_μ11 : IM μ11 := by rw [e_μ11]; exact IM_F hI_μ8 (rpm_0_28 (by (try rw [TI.e (e := ((μ8.1 0 28) + (1 : Int32))) (n := ((μ8.1 0 28).toInt + 1)) (TI.add TI.rf (TI.lit (by decide)) (by omega) (by omega))]); omega))
  have hF_μ11 : Fr [(0, 0, 28), (1, 16, 0), (1, 17, 0), (1, 18, 0)] true μ μ11 := by rw [e_μ11]; exact Fr.put hF_μ8 (by decide +kernel)
  have v_μ11 : (μ11.1 0 28).toInt = ((μ8.1 0 28).toInt + 1) := by rw [e_μ11, sF_v]; exact TI.e (n := ((μ8.1 0 28).toInt + 1)) (TI.add TI.rf (TI.lit (by decide)) (by omega) (by omega))
  have hr_μ11 : μ11.2.2 = μ.2.2 := (by rw [e_μ11]; rfl : μ11.2.2 = μ8.2.2).trans hr_μ8
  have g12 := rgm_0_28 hI_μ11
  exact ok_some ⟨hI_μ11, hF_μ11, by (try dsimp only); (try rw [hr_μ11]); omega⟩

set_option maxHeartbeats 4000000 in
set_option maxRecDepth 100000 in
theorem k_X12_openThing  (μ : Mem) (hI_μ : IM μ) (hc : (μ.1 0 32).toInt < 20 ∧ 1 ≤ (μ.1 0 28).toInt) : ok (p_X12_openThing  μ) (fun q => IM q ∧ Fr [(0, 0, 32), (1, 19, 0), (1, 20, 0)] true μ q ∧ ((q.1 0 32).toInt = (μ.1 0 32).toInt + 1)) := by
  have li0 : (0 : Int32).toInt = 0 := by decide
  have li1 : (1 : Int32).toInt = 1 := by decide
  have hF_μ : Fr [(0, 0, 32), (1, 19, 0), (1, 20, 0)] true μ μ := Fr.rf
  have hr_μ : μ.2.2 = μ.2.2 := rfl
  rw [p_X12_openThing_eq]
  have g1 := rgm_0_32 hI_μ
  have g2 := rgm_0_28 hI_μ
  refine ok_gd (inb_iff.mpr (by omega)) ?_
  refine ok_bv (fun μ3 e_μ3 => ?_)
  have hI_μ3 : IM μ3 := by rw [e_μ3]; exact IM_F hI_μ (rpm_19 (by (try rw [TI.e (e := ((μ.1 0 28) - (1 : Int32))) (n := ((μ.1 0 28).toInt - 1)) (TI.sub TI.rf (TI.lit (by decide)) (by omega) (by omega))]); omega))
  have hF_μ3 : Fr [(0, 0, 32), (1, 19, 0), (1, 20, 0)] true μ μ3 := by rw [e_μ3]; exact Fr.puta hF_μ (by decide +kernel)
  have hr_μ3 : μ3.2.2 = μ.2.2 := (by rw [e_μ3]; rfl : μ3.2.2 = μ.2.2).trans hr_μ
  have g4 := rgm_0_32 hI_μ3
  have f5 : (μ3.1 0 32).toInt = (μ.1 0 32).toInt := congrArg Int32.toInt ((by rw [e_μ3]; rfl : μ3.1 0 32 = μ.1 0 32))
  refine ok_gd (inb_iff.mpr (by omega)) ?_
  refine ok_bv (fun μ6 e_μ6 => ?_)
  have hI_μ6 : IM μ6 := by rw [e_μ6]; exact IM_F hI_μ3 (rtma_20 _ _)
  have hF_μ6 : Fr [(0, 0, 32), (1, 19, 0), (1, 20, 0)] true μ μ6 := by rw [e_μ6]; exact Fr.puta hF_μ3 (by decide +kernel)
  have hr_μ6 : μ6.2.2 = μ.2.2 := (by rw [e_μ6]; rfl : μ6.2.2 = μ3.2.2).trans hr_μ3
  have g7 := rgm_0_32 hI_μ6
  have f8 : (μ6.1 0 32).toInt = (μ3.1 0 32).toInt := congrArg Int32.toInt ((by rw [e_μ6]; rfl : μ6.1 0 32 = μ3.1 0 32))
  refine ok_bv (fun μ9 e_μ9 => ?_)
  have hI_μ9 : IM μ9 := by rw [e_μ9]; exact IM_F hI_μ6 (rpm_0_32 (by (try rw [TI.e (e := ((μ6.1 0 32) + (1 : Int32))) (n := ((μ6.1 0 32).toInt + 1)) (TI.add TI.rf (TI.lit (by decide)) (by omega) (by omega))]); omega))
  have hF_μ9 : Fr [(0, 0, 32), (1, 19, 0), (1, 20, 0)] true μ μ9 := by rw [e_μ9]; exact Fr.put hF_μ6 (by decide +kernel)
  have v_μ9 : (μ9.1 0 32).toInt = ((μ6.1 0 32).toInt + 1) := by rw [e_μ9, sF_v]; exact TI.e (n := ((μ6.1 0 32).toInt + 1)) (TI.add TI.rf (TI.lit (by decide)) (by omega) (by omega))
  have hr_μ9 : μ9.2.2 = μ.2.2 := (by rw [e_μ9]; rfl : μ9.2.2 = μ6.2.2).trans hr_μ6
  have g10 := rgm_0_32 hI_μ9
  exact ok_some ⟨hI_μ9, hF_μ9, by (try dsimp only); (try rw [hr_μ9]); omega⟩
