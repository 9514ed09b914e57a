set_option maxHeartbeats 4000000 in
set_option maxRecDepth 100000 in
theorem k_X12_four_b3 : ∀ (n : Nat) (a1 : Int32) (a2 : Int32) (μ : Mem), IM μ → (-8 ≤ (a2).toInt ∧ (a2).toInt ≤ 24 ∧ (a2).toInt % 8 = 0 ∧ 8 * (μ.1 0 3).toInt + (a2).toInt + 8 ≤ 6400 ∧ (a2).toInt + 8 < n) → ok (p_X12_four_b3 n a1 a2 μ) (fun q => IM q ∧ Fr [(0, 0, 3), (1, 1, 0)] true μ q ∧ (8 * (q.1 0 3).toInt = 8 * (μ.1 0 3).toInt + (a2).toInt + 8)) := by
  have lim8 : (-8 : Int32).toInt = -8 := by decide
  have li0 : (0 : Int32).toInt = 0 := by decide
  have li1 : (1 : Int32).toInt = 1 := by decide
  intro n
  induction n with
  | zero => intro a1 a2 μ hI_μ hc; exact absurd hc (by have lo_a1 := ti_lo a1; have hi_a1 := ti_hi a1; have lo_a2 := ti_lo a2; have hi_a2 := ti_hi a2; omega)
  | succ n ih =>
    intro a1 a2 μ hI_μ hc
    have hF_μ : Fr [(0, 0, 3), (1, 1, 0)] true μ μ := Fr.rf
    have hr_μ : μ.2.2 = μ.2.2 := rfl
    rw [p_X12_four_b3_s]
    have lo_a1 := ti_lo a1
    have hi_a1 := ti_hi a1
    have lo_a2 := ti_lo a2
    have hi_a2 := ti_hi a2
    have g2 := rgm_0_3 hI_μ
    refine ok_ite ?_ ?_
    · intro c3
      rw [ti_lt] at c3
      exact ok_some ⟨hI_μ, hF_μ, by (try dsimp only); omega⟩
    · intro c3
      rw [ti_lt] at c3
      refine ok_gd (inb_iff.mpr (by omega)) ?_
      refine ok_bv (fun μ4 e_μ4 => ?_)
      have hI_μ4 : IM μ4 := by rw [e_μ4]; exact IM_F hI_μ (rtma_1 _ _)
      have hF_μ4 : Fr [(0, 0, 3), (1, 1, 0)] true μ μ4 := by rw [e_μ4]; exact Fr.puta hF_μ (by decide +kernel)
      have hr_μ4 : μ4.2.2 = μ.2.2 := (by rw [e_μ4]; rfl : μ4.2.2 = μ.2.2).trans hr_μ
      have g5 := rgm_0_3 hI_μ4
      have f6 : (μ4.1 0 3).toInt = (μ.1 0 3).toInt := congrArg Int32.toInt ((by rw [e_μ4]; rfl : μ4.1 0 3 = μ.1 0 3))
      refine ok_bv (fun μ7 e_μ7 => ?_)
      have hI_μ7 : IM μ7 := by rw [e_μ7]; exact IM_F hI_μ4 (rpm_0_3 (by (try rw [TI.e (e := ((μ4.1 0 3) + (1 : Int32))) (n := ((μ4.1 0 3).toInt + 1)) (TI.add TI.rf (TI.lit (by decide)) (by omega) (by omega))]); omega))
      have hF_μ7 : Fr [(0, 0, 3), (1, 1, 0)] true μ μ7 := by rw [e_μ7]; exact Fr.put hF_μ4 (by decide +kernel)
      have v_μ7 : (μ7.1 0 3).toInt = ((μ4.1 0 3).toInt + 1) := by rw [e_μ7, sF_v]; exact TI.e (n := ((μ4.1 0 3).toInt + 1)) (TI.add TI.rf (TI.lit (by decide)) (by omega) (by omega))
      have hr_μ7 : μ7.2.2 = μ.2.2 := (by rw [e_μ7]; rfl : μ7.2.2 = μ4.2.2).trans hr_μ4
      refine ok_bv (fun v8 ev8 => ?_)
      first | have tv8 : v8.toInt = (a2.toInt + (-8)) := (congrArg Int32.toInt ev8).trans (TI.e (n := (a2.toInt + (-8))) (TI.add TI.rf (TI.lit (by decide)) (by omega) (by omega))) | skip
      have g9 := rgm_0_3 hI_μ7
      exact ok_mono (ih a1 v8 μ7 hI_μ7 (by (try rw [hr_μ7]); omega)) (fun q h => ⟨h.1, hF_μ7.trans h.2.1, by have h9 := h.2.2; (try dsimp only at h9 ⊢); omega⟩)
set_option maxHeartbeats 4000000 in
set_option maxRecDepth 100000 in
theorem k_X12_four (a1 : Int32) (μ : Mem) (hI_μ : IM μ) (hc : (μ.1 0 3).toInt ≤ 796) : ok (p_X12_four a1 μ) (fun q => IM q ∧ Fr [(0, 0, 3), (1, 1, 0)] true μ q ∧ ((q.1 0 3).toInt = (μ.1 0 3).toInt + 4)) := by
  have li0 : (0 : Int32).toInt = 0 := by decide
  have li1 : (1 : Int32).toInt = 1 := by decide
  have li24 : (24 : Int32).toInt = 24 := by decide
  have hF_μ : Fr [(0, 0, 3), (1, 1, 0)] true μ μ := Fr.rf
  have hr_μ : μ.2.2 = μ.2.2 := rfl
  rw [p_X12_four_eq]
  have lo_a1 := ti_lo a1
  have hi_a1 := ti_hi a1
  have g1 := rgm_0_3 hI_μ
  obtain ⟨fu, hfu0, hfu⟩ := fuel_ex
  rw [hfu0]
  exact ok_mono (k_X12_four_b3  fu a1 (24 : Int32) μ hI_μ (by omega)) (fun q h => ⟨h.1, hF_μ.trans h.2.1, by have h9 := h.2.2; (try dsimp only at h9 ⊢); omega⟩)

set_option maxHeartbeats 4000000 in
set_option maxRecDepth 100000 in
theorem k_X12_feed (a1 : Int32) (a2 : Int32) (a3 : Int32) (a4 : Int32) (a5 : Int32) (μ : Mem) (hI_μ : IM μ) : ok (p_X12_feed a1 a2 a3 a4 a5 μ) (fun q => IM q.2 ∧ Fr [(0, 0, 3), (1, 1, 0)] true μ q.2 ∧ (((q.1).toInt = -1 ∧ 800 < (μ.1 0 3).toInt + 20 ∧ (q.2.1 0 3).toInt = (μ.1 0 3).toInt) ∨ ((q.1).toInt = (q.2.1 0 3).toInt ∧ (q.2.1 0 3).toInt = (μ.1 0 3).toInt + 20 ∧ (μ.1 0 3).toInt + 20 ≤ 800))) := by
  have lim1 : (-1 : Int32).toInt = -1 := by decide
  have li0 : (0 : Int32).toInt = 0 := by decide
  have li1 : (1 : Int32).toInt = 1 := by decide
  have li20 : (20 : Int32).toInt = 20 := by decide
  have li800 : (800 : Int32).toInt = 800 := by decide
  have hF_μ : Fr [(0, 0, 3), (1, 1, 0)] true μ μ := Fr.rf
  have hr_μ : μ.2.2 = μ.2.2 := rfl
  rw [p_X12_feed_eq]
  have lo_a1 := ti_lo a1
  have hi_a1 := ti_hi a1
  have lo_a2 := ti_lo a2
  have hi_a2 := ti_hi a2
  have lo_a3 := ti_lo a3
  have hi_a3 := ti_hi a3
  have lo_a4 := ti_lo a4
  have hi_a4 := ti_hi a4
  have lo_a5 := ti_lo a5
  have hi_a5 := ti_hi a5
  have g1 := rgm_0_3 hI_μ
  refine ok_ite ?_ ?_
  · intro c2
    rw [ti_le] at c2
    try rw [TI.e (e := ((μ.1 0 3) + (20 : Int32))) (n := ((μ.1 0 3).toInt + 20)) (TI.add TI.rf (TI.lit (by decide)) (by omega) (by omega))] at c2
    refine ok_bw (k_X12_four a1 μ hI_μ (by omega)) ?_
    rintro μ3 ⟨hI_μ3, hC_μ3, p_μ3⟩
    have hF_μ3 : Fr [(0, 0, 3), (1, 1, 0)] true μ μ3 := hF_μ.trans (hC_μ3.mono (by decide +kernel) (by decide))
    have hr_μ3 : μ3.2.2 = μ.2.2 := (hC_μ3.2 rfl : μ3.2.2 = μ.2.2).trans hr_μ
    try simp only [hr_μ3, hr_μ] at p_μ3
    have g7 := rgm_0_3 hI_μ3
    refine ok_bw (k_X12_four a2 μ3 hI_μ3 (by (try rw [hr_μ3]); omega)) ?_
    rintro μ5 ⟨hI_μ5, hC_μ5, p_μ5⟩
    have hF_μ5 : Fr [(0, 0, 3), (1, 1, 0)] true μ μ5 := hF_μ3.trans (hC_μ5.mono (by decide +kernel) (by decide))
    have hr_μ5 : μ5.2.2 = μ.2.2 := (hC_μ5.2 rfl : μ5.2.2 = μ3.2.2).trans hr_μ3
    try simp only [hr_μ5, hr_μ3] at p_μ5
    have g10 := rgm_0_3 hI_μ5
    refine ok_bw (k_X12_four a3 μ5 hI_μ5 (by (try rw [hr_μ5]); omega)) ?_
    rintro μ8 ⟨hI_μ8, hC_μ8, p_μ8⟩
    have hF_μ8 : Fr [(0, 0, 3), (1, 1, 0)] true μ μ8 := hF_μ5.trans (hC_μ8.mono (by decide +kernel) (by decide))
    have hr_μ8 : μ8.2.2 = μ.2.2 := (hC_μ8.2 rfl : μ8.2.2 = μ5.2.2).trans hr_μ5
    try simp only [hr_μ8, hr_μ5] at p_μ8
    have g13 := rgm_0_3 hI_μ8
    refine ok_bw (k_X12_four a4 μ8 hI_μ8 (by (try rw [hr_μ8]); omega)) ?_
    rintro μ11 ⟨hI_μ11, hC_μ11, p_μ11⟩
    have hF_μ11 : Fr [(0, 0, 3), (1, 1, 0)] true μ μ11 := hF_μ8.trans (hC_μ11.mono (by decide +kernel) (by decide))
    have hr_μ11 : μ11.2.2 = μ.2.2 := (hC_μ11.2 rfl : μ11.2.2 = μ8.2.2).trans hr_μ8
    try simp only [hr_μ11, hr_μ8] at p_μ11
    have g16 := rgm_0_3 hI_μ11
    refine ok_bw (k_X12_four a5 μ11 hI_μ11 (by (try rw [hr_μ11]); omega)) ?_
    rintro μ14 ⟨hI_μ14, hC_μ14, p_μ14⟩
    have hF_μ14 : Fr [(0, 0, 3), (1, 1, 0)] true μ μ14 := hF_μ11.trans (hC_μ14.mono (by decide +kernel) (by decide))
    have hr_μ14 : μ14.2.2 = μ.2.2 := (hC_μ14.2 rfl : μ14.2.2 = μ11.2.2).trans hr_μ11
    try simp only [hr_μ14, hr_μ11] at p_μ14
    have g17 := rgm_0_3 hI_μ14
    exact ok_some ⟨hI_μ14, hF_μ14, by (try dsimp only); (try rw [hr_μ14]); omega⟩
  · intro c2
    rw [ti_le] at c2
    try rw [TI.e (e := ((μ.1 0 3) + (20 : Int32))) (n := ((μ.1 0 3).toInt + 20)) (TI.add TI.rf (TI.lit (by decide)) (by omega) (by omega))] at c2
    exact ok_some ⟨hI_μ, hF_μ, by (try dsimp only); omega⟩

set_option maxHeartbeats 4000000 in
set_option maxRecDepth 100000 in
theorem k_X12_end (a1 : Int32) (μ : Mem) (hI_μ : IM μ) : ok (p_X12_end a1 μ) (fun q => IM q.2 ∧ Fr [(0, 0, 3)] true μ q.2 ∧ ((((a1).toInt < 0 ∨ (μ.1 0 3).toInt < (a1).toInt) ∧ (q.1).toInt = -1 ∧ (q.2.1 0 3).toInt = (μ.1 0 3).toInt) ∨ (0 ≤ (a1).toInt ∧ (a1).toInt ≤ (μ.1 0 3).toInt ∧ (q.1).toInt = (a1).toInt ∧ (q.2.1 0 3).toInt = (a1).toInt))) := by
  have lim1 : (-1 : Int32).toInt = -1 := by decide
  have li0 : (0 : Int32).toInt = 0 := by decide
  have li1 : (1 : Int32).toInt = 1 := by decide
  have hF_μ : Fr [(0, 0, 3)] true μ μ := Fr.rf
  have hr_μ : μ.2.2 = μ.2.2 := rfl
  rw [p_X12_end_eq]
  have lo_a1 := ti_lo a1
  have hi_a1 := ti_hi a1
  have g1 := rgm_0_3 hI_μ
  refine ok_ite ?_ ?_
  · intro c2
    rw [ti_eq] at c2
    have y3 := tf_isIn a1 (0 : Int32) (μ.1 0 3)
    exact ok_some ⟨hI_μ, hF_μ, by (try dsimp only); omega⟩
  · intro c2
    rw [ti_eq] at c2
    have y4 := tf_isIn a1 (0 : Int32) (μ.1 0 3)
    refine ok_bv (fun μ5 e_μ5 => ?_)
    have hI_μ5 : IM μ5 := by rw [e_μ5]; exact IM_F hI_μ (rpm_0_3 (by omega))
    have hF_μ5 : Fr [(0, 0, 3)] true μ μ5 := by rw [e_μ5]; exact Fr.put hF_μ (by decide +kernel)
    have v_μ5 : (μ5.1 0 3).toInt = a1.toInt := by rw [e_μ5, sF_v]
    have hr_μ5 : μ5.2.2 = μ.2.2 := (by rw [e_μ5]; rfl : μ5.2.2 = μ.2.2).trans hr_μ
    have g6 := rgm_0_3 hI_μ5
    exact ok_some ⟨hI_μ5, hF_μ5, by (try dsimp only); (try rw [hr_μ5]); omega⟩

set_option maxHeartbeats 4000000 in
set_option maxRecDepth 100000 in
theorem k_X12_here  (μ : Mem) (hI_μ : IM μ) : ok (p_X12_here  μ) (fun q => μ = q.2 ∧ (-1 ≤ (q.1).toInt ∧ (q.1).toInt ≤ 255 ∧ ((q.1).toInt = -1 ∨ (μ.1 0 4).toInt < (μ.1 0 3).toInt) ∧ (0 ≤ (q.1).toInt ∨ (μ.1 0 3).toInt ≤ (μ.1 0 4).toInt))) := by
  have lim1 : (-1 : Int32).toInt = -1 := by decide
  have li0 : (0 : Int32).toInt = 0 := by decide
  have li1 : (1 : Int32).toInt = 1 := by decide
  have hF_μ : Fr [] true μ μ := Fr.rf
  have hr_μ : μ.2.2 = μ.2.2 := rfl
  rw [p_X12_here_eq]
  have g1 := rgm_0_4 hI_μ
  have g2 := rgm_0_3 hI_μ
  refine ok_ite ?_ ?_
  · intro c3
    rw [ti_le] at c3
    have h255 := an_255 (μ.1 1 (μ.1 0 4).toNatClampNeg)
    exact ok_some ⟨rfl, by (try dsimp only); omega⟩
  · intro c3
    rw [ti_le] at c3
    refine ok_gd (inb_iff.mpr (by omega)) ?_
    have h255 := an_255 (μ.1 1 (μ.1 0 4).toNatClampNeg)
    exact ok_some ⟨rfl, by (try dsimp only); omega⟩

set_option maxHeartbeats 4000000 in
set_option maxRecDepth 100000 in
theorem k_X12_fails (a1 : Int32) (μ : Mem) (hI_μ : IM μ) : ok (p_X12_fails a1 μ) (fun q => IM q.2 ∧ Fr [(0, 0, 5)] true μ q.2 ∧ ((q.1).toInt = 0)) := by
  have li0 : (0 : Int32).toInt = 0 := by decide
  have li1 : (1 : Int32).toInt = 1 := by decide
  have hF_μ : Fr [(0, 0, 5)] true μ μ := Fr.rf
  have hr_μ : μ.2.2 = μ.2.2 := rfl
  rw [p_X12_fails_eq]
  have lo_a1 := ti_lo a1
  have hi_a1 := ti_hi a1
  refine ok_bv (fun μ1 e_μ1 => ?_)
  have hI_μ1 : IM μ1 := by rw [e_μ1]; exact IM_F hI_μ (rtm_0_5 _)
  have hF_μ1 : Fr [(0, 0, 5)] true μ μ1 := by rw [e_μ1]; exact Fr.put hF_μ (by decide +kernel)
  have v_μ1 : (μ1.1 0 5).toInt = a1.toInt := by rw [e_μ1, sF_v]
  have hr_μ1 : μ1.2.2 = μ.2.2 := (by rw [e_μ1]; rfl : μ1.2.2 = μ.2.2).trans hr_μ
  exact ok_some ⟨hI_μ1, hF_μ1, by (try dsimp only); (try rw [hr_μ1]); omega⟩

set_option maxHeartbeats 4000000 in
set_option maxRecDepth 100000 in
theorem k_X12_takes (a1 : Int32) (μ : Mem) (hI_μ : IM μ) (hc : (0 ≤ (a1).toInt ∨ (μ.1 0 4).toInt < (μ.1 0 3).toInt)) : ok (p_X12_takes a1 μ) (fun q => IM q.2 ∧ Fr [(0, 0, 4), (0, 0, 5)] true μ q.2 ∧ (((q.1).toInt = 0 ∨ (q.1).toInt = 1) ∧ (μ.1 0 4).toInt ≤ (q.2.1 0 4).toInt ∧ (q.2.1 0 4).toInt ≤ (μ.1 0 4).toInt + 1)) := by
  have li0 : (0 : Int32).toInt = 0 := by decide
  have li1 : (1 : Int32).toInt = 1 := by decide
  have hF_μ : Fr [(0, 0, 4), (0, 0, 5)] true μ μ := Fr.rf
  have hr_μ : μ.2.2 = μ.2.2 := rfl
  rw [p_X12_takes_eq]
  have lo_a1 := ti_lo a1
  have hi_a1 := ti_hi a1
  have g1 := rgm_0_4 hI_μ
  have g2 := rgm_0_3 hI_μ
  refine ok_bd (k_X12_here  μ hI_μ) ?_
  rintro r4 μ3 ⟨hq9, p_r4⟩
  obtain rfl : μ = μ3 := hq9
  dsimp only at p_r4
  have lo_r4 := ti_lo r4
  have hi_r4 := ti_hi r4
  refine ok_ite ?_ ?_
  · intro c5
    rw [ti_eq] at c5
    refine ok_bv (fun μ6 e_μ6 => ?_)
    have hI_μ6 : IM μ6 := by rw [e_μ6]; exact IM_F hI_μ (rpm_0_4 (by (try rw [TI.e (e := ((μ.1 0 4) + (1 : Int32))) (n := ((μ.1 0 4).toInt + 1)) (TI.add TI.rf (TI.lit (by decide)) (by omega) (by omega))]); omega))
    have hF_μ6 : Fr [(0, 0, 4), (0, 0, 5)] true μ μ6 := by rw [e_μ6]; exact Fr.put hF_μ (by decide +kernel)
    have v_μ6 : (μ6.1 0 4).toInt = ((μ.1 0 4).toInt + 1) := by rw [e_μ6, sF_v]; exact TI.e (n := ((μ.1 0 4).toInt + 1)) (TI.add TI.rf (TI.lit (by decide)) (by omega) (by omega))
    have hr_μ6 : μ6.2.2 = μ.2.2 := (by rw [e_μ6]; rfl : μ6.2.2 = μ.2.2).trans hr_μ
    have g7 := rgm_0_4 hI_μ6
    exact ok_some ⟨hI_μ6, hF_μ6, by (try dsimp only); (try rw [hr_μ6]); omega⟩
  · intro c5
    rw [ti_eq] at c5
    refine ok_bd (k_X12_fails (μ.1 0 4) μ hI_μ) ?_
    rintro r9 μ8 ⟨hI_μ8, hC_μ8, p_μ8⟩
    have hI_μ8 : IM μ8 := hI_μ8
    have hC_μ8 : Fr [(0, 0, 5)] true μ μ8 := hC_μ8
    dsimp only at p_μ8
    have lo_r9 := ti_lo r9
    have hi_r9 := ti_hi r9
    have hF_μ8 : Fr [(0, 0, 4), (0, 0, 5)] true μ μ8 := hF_μ.trans (hC_μ8.mono (by decide +kernel) (by decide))
    have hr_μ8 : μ8.2.2 = μ.2.2 := (hC_μ8.2 rfl : μ8.2.2 = μ.2.2).trans hr_μ
    refine ok_gd (isB_of (by omega)) ?_
    have g10 := rgm_0_4 hI_μ8
    have f11 : (μ8.1 0 4).toInt = (μ.1 0 4).toInt := congrArg Int32.toInt (hC_μ8.1 0 4 (by decide +kernel))
    exact ok_some ⟨hI_μ8, hF_μ8, by (try dsimp only); (try rw [hr_μ8]); omega⟩

set_option maxHeartbeats 4000000 in
set_option maxRecDepth 100000 in
theorem k_X12_beginText  (μ : Mem) (hI_μ : IM μ) : ok (p_X12_beginText  μ) (fun q => IM q ∧ Fr [(0, 0, 4), (0, 0, 5)] true μ q) := by
  have lim1 : (-1 : Int32).toInt = -1 := by decide
  have li0 : (0 : Int32).toInt = 0 := by decide
  have li1 : (1 : Int32).toInt = 1 := by decide
  have hF_μ : Fr [(0, 0, 4), (0, 0, 5)] true μ μ := Fr.rf
  have hr_μ : μ.2.2 = μ.2.2 := rfl
  rw [p_X12_beginText_eq]
  refine ok_bv (fun μ1 e_μ1 => ?_)
  have hI_μ1 : IM μ1 := by rw [e_μ1]; exact IM_F hI_μ (rpm_0_4 (by omega))
  have hF_μ1 : Fr [(0, 0, 4), (0, 0, 5)] true μ μ1 := by rw [e_μ1]; exact Fr.put hF_μ (by decide +kernel)
  have v_μ1 : (μ1.1 0 4).toInt = 0 := by rw [e_μ1, sF_v]; exact TI.e (n := 0) (TI.lit (by decide))
  have hr_μ1 : μ1.2.2 = μ.2.2 := (by rw [e_μ1]; rfl : μ1.2.2 = μ.2.2).trans hr_μ
  refine ok_bv (fun μ2 e_μ2 => ?_)
  have hI_μ2 : IM μ2 := by rw [e_μ2]; exact IM_F hI_μ1 (rtm_0_5 _)
  have hF_μ2 : Fr [(0, 0, 4), (0, 0, 5)] true μ μ2 := by rw [e_μ2]; exact Fr.put hF_μ1 (by decide +kernel)
  have v_μ2 : (μ2.1 0 5).toInt = (-1) := by rw [e_μ2, sF_v]; exact TI.e (n := (-1)) (TI.lit (by decide))
  have hr_μ2 : μ2.2.2 = μ.2.2 := (by rw [e_μ2]; rfl : μ2.2.2 = μ1.2.2).trans hr_μ1
  exact ok_some ⟨hI_μ2, hF_μ2⟩

set_option maxHeartbeats 4000000 in
set_option maxRecDepth 100000 in
theorem k_X12_beginsNumber  (μ : Mem) (hI_μ : IM μ) : ok (p_X12_beginsNumber  μ) (fun q => μ = q.2 ∧ (((q.1).toInt = 0 ∨ (q.1).toInt = 1))) := by
  have li0 : (0 : Int32).toInt = 0 := by decide
  have li1 : (1 : Int32).toInt = 1 := by decide
  have li45 : (45 : Int32).toInt = 45 := by decide
  have hF_μ : Fr [] true μ μ := Fr.rf
  have hr_μ : μ.2.2 = μ.2.2 := rfl
  rw [p_X12_beginsNumber_eq]
  have g3 := rgm_0_4 hI_μ
  have g4 := rgm_0_3 hI_μ
  refine ok_bd (k_X12_here  μ hI_μ) ?_
  rintro r2 μ1 ⟨hq9, p_r2⟩
  obtain rfl : μ = μ1 := hq9
  dsimp only at p_r2
  have lo_r2 := ti_lo r2
  have hi_r2 := ti_hi r2
  refine ok_ite ?_ ?_
  · intro c5
    rw [ti_eq] at c5
    have y6 := tf_isFigure r2
    refine ok_bd (k_X12_here  μ hI_μ) ?_
    rintro r8 μ7 ⟨hq9, p_r8⟩
    obtain rfl : μ = μ7 := hq9
    dsimp only at p_r8
    have lo_r8 := ti_lo r8
    have hi_r8 := ti_hi r8
    refine ok_ite ?_ ?_
    · intro c9
      rw [ti_eq] at c9
      exact ok_some ⟨rfl, by (try dsimp only); omega⟩
    · intro c9
      rw [ti_eq] at c9
      exact ok_some ⟨rfl, by (try dsimp only); omega⟩
  · intro c5
    rw [ti_eq] at c5
    have y10 := tf_isFigure r2
    exact ok_some ⟨rfl, by (try dsimp only); omega⟩

set_option maxHeartbeats 4000000 in
set_option maxRecDepth 100000 in
theorem k_X12_digits_b8 : ∀ (n : Nat) (a1 : Int32) (a3 : Int32) (a4 : Int32) (μ : Mem), IM μ → (0 ≤ (a4).toInt ∧ (a4).toInt ≤ (μ.1 0 4).toInt ∧ (μ.1 0 4).toInt ≤ 800 ∧ 801 - (μ.1 0 4).toInt < n) → ok (p_X12_digits_b8 n a1 a3 a4 μ) (fun q => IM q.2 ∧ Fr [(0, 0, 4)] true μ q.2 ∧ ((μ.1 0 4).toInt ≤ (q.2.1 0 4).toInt ∧ ((μ.1 0 4).toInt = (q.2.1 0 4).toInt ∨ (μ.1 0 4).toInt < (q.2.1 0 4).toInt ∨ (a1).toInt ≤ 0))) := by
  have li0 : (0 : Int32).toInt = 0 := by decide
  have li1 : (1 : Int32).toInt = 1 := by decide
  have li10 : (10 : Int32).toInt = 10 := by decide
  have li48 : (48 : Int32).toInt = 48 := by decide
  intro n
  induction n with
  | zero => intro a1 a3 a4 μ hI_μ hc; exact absurd hc (by have lo_a1 := ti_lo a1; have hi_a1 := ti_hi a1; have lo_a3 := ti_lo a3; have hi_a3 := ti_hi a3; have lo_a4 := ti_lo a4; have hi_a4 := ti_hi a4; omega)
  | succ n ih =>
    intro a1 a3 a4 μ hI_μ hc
    have hF_μ : Fr [(0, 0, 4)] true μ μ := Fr.rf
    have hr_μ : μ.2.2 = μ.2.2 := rfl
    rw [p_X12_digits_b8_s]
    have lo_a1 := ti_lo a1
    have hi_a1 := ti_hi a1
    have lo_a3 := ti_lo a3
    have hi_a3 := ti_hi a3
    have lo_a4 := ti_lo a4
    have hi_a4 := ti_hi a4
    have g3 := rgm_0_4 hI_μ
    have g6 := rgm_0_3 hI_μ
    refine ok_bd (k_X12_here  μ hI_μ) ?_
    rintro r5 μ4 ⟨hq9, p_r5⟩
    obtain rfl : μ = μ4 := hq9
    dsimp only at p_r5
    have lo_r5 := ti_lo r5
    have hi_r5 := ti_hi r5
    refine ok_ite ?_ ?_
    · intro c7
      rw [ti_eq] at c7
      have y8 := tf_isFigure r5
      exact ok_some ⟨hI_μ, hF_μ, by (try dsimp only); omega⟩
    · intro c7
      rw [ti_eq] at c7
      have y9 := tf_isFigure r5
      refine ok_ite ?_ ?_
      · intro c10
        rw [ti_le] at c10
        try rw [TI.e (e := ((μ.1 0 4) - a4)) (n := ((μ.1 0 4).toInt - a4.toInt)) (TI.sub TI.rf TI.rf (by omega) (by omega))] at c10
        exact ok_some ⟨hI_μ, hF_μ, by (try dsimp only); omega⟩
      · intro c10
        rw [ti_le] at c10
        try rw [TI.e (e := ((μ.1 0 4) - a4)) (n := ((μ.1 0 4).toInt - a4.toInt)) (TI.sub TI.rf TI.rf (by omega) (by omega))] at c10
        refine ok_bd (k_X12_here  μ hI_μ) ?_
        rintro r12 μ11 ⟨hq9, p_r12⟩
        obtain rfl : μ = μ11 := hq9
        dsimp only at p_r12
        have lo_r12 := ti_lo r12
        have hi_r12 := ti_hi r12
        refine ok_bv (fun v13 ev13 => ?_)
        first | have tv13 : v13.toInt = ((((10 : Int32) * a3).toInt + r12.toInt) - 48) := (congrArg Int32.toInt ev13).trans (TI.e (n := ((((10 : Int32) * a3).toInt + r12.toInt) - 48)) (TI.sub (TI.add TI.rf TI.rf (by omega) (by omega)) (TI.lit (by decide)) (by omega) (by omega))) | skip
        refine ok_bv (fun μ14 e_μ14 => ?_)
        have hI_μ14 : IM μ14 := by rw [e_μ14]; exact IM_F hI_μ (rpm_0_4 (by (try rw [TI.e (e := ((μ.1 0 4) + (1 : Int32))) (n := ((μ.1 0 4).toInt + 1)) (TI.add TI.rf (TI.lit (by decide)) (by omega) (by omega))]); omega))
        have hF_μ14 : Fr [(0, 0, 4)] true μ μ14 := by rw [e_μ14]; exact Fr.put hF_μ (by decide +kernel)
        have v_μ14 : (μ14.1 0 4).toInt = ((μ.1 0 4).toInt + 1) := by rw [e_μ14, sF_v]; exact TI.e (n := ((μ.1 0 4).toInt + 1)) (TI.add TI.rf (TI.lit (by decide)) (by omega) (by omega))
        have hr_μ14 : μ14.2.2 = μ.2.2 := (by rw [e_μ14]; rfl : μ14.2.2 = μ.2.2).trans hr_μ
        have g15 := rgm_0_4 hI_μ14
        exact ok_mono (ih a1 v13 a4 μ14 hI_μ14 (by (try rw [hr_μ14]); omega)) (fun q h => ⟨h.1, hF_μ14.trans h.2.1, by have h9 := h.2.2; (try dsimp only at h9 ⊢); omega⟩)
set_option maxHeartbeats 4000000 in
set_option maxRecDepth 100000 in
theorem k_X12_digits (a1 : Int32) (a2 : Int32) (μ : Mem) (hI_μ : IM μ) : ok (p_X12_digits a1 a2 μ) (fun q => IM q.2 ∧ Fr [(0, 0, 4)] true μ q.2 ∧ ((μ.1 0 4).toInt ≤ (q.2.1 0 4).toInt ∧ ((μ.1 0 4).toInt = (q.2.1 0 4).toInt ∨ (μ.1 0 4).toInt < (q.2.1 0 4).toInt ∨ (a1).toInt ≤ 0))) := by
  have li0 : (0 : Int32).toInt = 0 := by decide
  have li1 : (1 : Int32).toInt = 1 := by decide
  have hF_μ : Fr [(0, 0, 4)] true μ μ := Fr.rf
  have hr_μ : μ.2.2 = μ.2.2 := rfl
  rw [p_X12_digits_eq]
  have lo_a1 := ti_lo a1
  have hi_a1 := ti_hi a1
  have lo_a2 := ti_lo a2
  have hi_a2 := ti_hi a2
  have g1 := rgm_0_4 hI_μ
  refine ok_bv (fun v2 ev2 => ?_)
  have tv2 : v2.toInt = (μ.1 0 4).toInt := congrArg Int32.toInt ev2
  obtain ⟨fu, hfu0, hfu⟩ := fuel_ex
  rw [hfu0]
  exact ok_mono (k_X12_digits_b8  fu a1 a2 v2 μ hI_μ (by omega)) (fun q h => ⟨h.1, hF_μ.trans h.2.1, by have h9 := h.2.2; (try dsimp only at h9 ⊢); omega⟩)

set_option maxHeartbeats 4000000 in
set_option maxRecDepth 100000 in
theorem k_X12_lay (a1 : Int32) (a2 : Int32) (a3 : Int32) (μ : Mem) (hI_μ : IM μ) (hc : (μ.1 0 28).toInt < 800) : ok (p_X12_lay a1 a2 a3 μ) (fun q => IM q.2 ∧ Fr [(0, 0, 28), (1, 16, 0), (1, 17, 0), (1, 18, 0)] true μ q.2 ∧ ((q.1).toInt = 1 ∧ (q.2.1 0 28).toInt = (μ.1 0 28).toInt + 1)) := by
  have li0 : (0 : Int32).toInt = 0 := by decide
  have li1 : (1 : Int32).toInt = 1 := by decide
  have hF_μ : Fr [(0, 0, 28), (1, 16, 0), (1, 17, 0), (1, 18, 0)] true μ μ := Fr.rf
  have hr_μ : μ.2.2 = μ.2.2 := rfl
  rw [p_X12_lay_eq]
  have lo_a1 := ti_lo a1
  have hi_a1 := ti_hi a1
  have lo_a2 := ti_lo a2
  have hi_a2 := ti_hi a2
  have lo_a3 := ti_lo a3
  have hi_a3 := ti_hi a3
  have g1 := rgm_0_28 hI_μ
  refine ok_gd (inb_iff.mpr (by omega)) ?_
  refine ok_bv (fun μ2 e_μ2 => ?_)
  have hI_μ2 : IM μ2 := by rw [e_μ2]; exact IM_F hI_μ (rtma_16 _ _)
  have hF_μ2 : Fr [(0, 0, 28), (1, 16, 0), (1, 17, 0), (1, 18, 0)] true μ μ2 := by rw [e_μ2]; exact Fr.puta hF_μ (by decide +kernel)
  have hr_μ2 : μ2.2.2 = μ.2.2 := (by rw [e_μ2]; rfl : μ2.2.2 = μ.2.2).trans hr_μ
  have g3 := rgm_0_28 hI_μ2
  have f4 : (μ2.1 0 28).toInt = (μ.1 0 28).toInt := congrArg Int32.toInt ((by rw [e_μ2]; rfl : μ2.1 0 28 = μ.1 0 28))
  refine ok_gd (inb_iff.mpr (by omega)) ?_
  refine ok_bv (fun μ5 e_μ5 => ?_)
  have hI_μ5 : IM μ5 := by rw [e_μ5]; exact IM_F hI_μ2 (rtma_17 _ _)
  have hF_μ5 : Fr [(0, 0, 28), (1, 16, 0), (1, 17, 0), (1, 18, 0)] true μ μ5 := by rw [e_μ5]; exact Fr.puta hF_μ2 (by decide +kernel)
  have hr_μ5 : μ5.2.2 = μ.2.2 := (by rw [e_μ5]; rfl : μ5.2.2 = μ2.2.2).trans hr_μ2
  have g6 := rgm_0_28 hI_μ5
  have f7 : (μ5.1 0 28).toInt = (μ2.1 0 28).toInt := congrArg Int32.toInt ((by rw [e_μ5]; rfl : μ5.1 0 28 = μ2.1 0 28))
  refine ok_gd (inb_iff.mpr (by omega)) ?_
  refine ok_bv (fun μ8 e_μ8 => ?_)
  have hI_μ8 : IM μ8 := by rw [e_μ8]; exact IM_F hI_μ5 (rtma_18 _ _)
  have hF_μ8 : Fr [(0, 0, 28), (1, 16, 0), (1, 17, 0), (1, 18, 0)] true μ μ8 := by rw [e_μ8]; exact Fr.puta hF_μ5 (by decide +kernel)
  have hr_μ8 : μ8.2.2 = μ.2.2 := (by rw [e_μ8]; rfl : μ8.2.2 = μ5.2.2).trans hr_μ5
  have g9 := rgm_0_28 hI_μ8
  have f10 : (μ8.1 0 28).toInt = (μ5.1 0 28).toInt := congrArg Int32.toInt ((by rw [e_μ8]; rfl : μ8.1 0 28 = μ5.1 0 28))
  refine ok_bv (fun μ11 e_μ11 => ?_)
  have hI_μ11 : IM μ11 := by rw [e_μ11]; exact IM_F hI_μ8 (rpm_0_28 (by (try rw [TI.e (e := ((μ8.1 0 28) + (1 : Int32))) (n := ((μ8.1 0 28).toInt + 1)) (TI.add TI.rf (TI.lit (by decide)) (by omega) (by omega))]); omega))
  have hF_μ11 : Fr [(0, 0, 28), (1, 16, 0), (1, 17, 0), (1, 18, 0)] true μ μ11 := by rw [e_μ11]; exact Fr.put hF_μ8 (by decide +kernel)
  have v_μ11 : (μ11.1 0 28).toInt = ((μ8.1 0 28).toInt + 1) := by rw [e_μ11, sF_v]; exact TI.e (n := ((μ8.1 0 28).toInt + 1)) (TI.add TI.rf (TI.lit (by decide)) (by omega) (by omega))
  have hr_μ11 : μ11.2.2 = μ.2.2 := (by rw [e_μ11]; rfl : μ11.2.2 = μ8.2.2).trans hr_μ8
  have g12 := rgm_0_28 hI_μ11
  exact ok_some ⟨hI_μ11, hF_μ11, by (try dsimp only); (try rw [hr_μ11]); omega⟩

set_option maxHeartbeats 4000000 in
set_option maxRecDepth 100000 in
theorem k_X12_openThing  (μ : Mem) (hI_μ : IM μ) (hc : (μ.1 0 32).toInt < 20 ∧ 1 ≤ (μ.1 0 28).toInt) : ok (p_X12_openThing  μ) (fun q => IM q ∧ Fr [(0, 0, 32), (1, 19, 0), (1, 20, 0)] true μ q ∧ ((q.1 0 32).toInt = (μ.1 0 32).toInt + 1)) := by
  have li0 : (0 : Int32).toInt = 0 := by decide
  have li1 : (1 : Int32).toInt = 1 := by decide
  have hF_μ : Fr [(0, 0, 32), (1, 19, 0), (1, 20, 0)] true μ μ := Fr.rf
  have hr_μ : μ.2.2 = μ.2.2 := rfl
  rw [p_X12_openThing_eq]
  have g1 := rgm_0_32 hI_μ
  have g2 := rgm_0_28 hI_μ
  refine ok_gd (inb_iff.mpr (by omega)) ?_
  refine ok_bv (fun μ3 e_μ3 => ?_)
  have hI_μ3 : IM μ3 := by rw [e_μ3]; exact IM_F hI_μ (rpm_19 (by (try rw [TI.e (e := ((μ.1 0 28) - (1 : Int32))) (n := ((μ.1 0 28).toInt - 1)) (TI.sub TI.rf (TI.lit (by decide)) (by omega) (by omega))]); omega))
  have hF_μ3 : Fr [(0, 0, 32), (1, 19, 0), (1, 20, 0)] true μ μ3 := by rw [e_μ3]; exact Fr.puta hF_μ (by decide +kernel)
  have hr_μ3 : μ3.2.2 = μ.2.2 := (by rw [e_μ3]; rfl : μ3.2.2 = μ.2.2).trans hr_μ
  have g4 := rgm_0_32 hI_μ3
  have f5 : (μ3.1 0 32).toInt = (μ.1 0 32).toInt := congrArg Int32.toInt ((by rw [e_μ3]; rfl : μ3.1 0 32 = μ.1 0 32))
  refine ok_gd (inb_iff.mpr (by omega)) ?_
  refine ok_bv (fun μ6 e_μ6 => ?_)
  have hI_μ6 : IM μ6 := by rw [e_μ6]; exact IM_F hI_μ3 (rtma_20 _ _)
  have hF_μ6 : Fr [(0, 0, 32), (1, 19, 0), (1, 20, 0)] true μ μ6 := by rw [e_μ6]; exact Fr.puta hF_μ3 (by decide +kernel)
  have hr_μ6 : μ6.2.2 = μ.2.2 := (by rw [e_μ6]; rfl : μ6.2.2 = μ3.2.2).trans hr_μ3
  have g7 := rgm_0_32 hI_μ6
  have f8 : (μ6.1 0 32).toInt = (μ3.1 0 32).toInt := congrArg Int32.toInt ((by rw [e_μ6]; rfl : μ6.1 0 32 = μ3.1 0 32))
  refine ok_bv (fun μ9 e_μ9 => ?_)
  have hI_μ9 : IM μ9 := by rw [e_μ9]; exact IM_F hI_μ6 (rpm_0_32 (by (try rw [TI.e (e := ((μ6.1 0 32) + (1 : Int32))) (n := ((μ6.1 0 32).toInt + 1)) (TI.add TI.rf (TI.lit (by decide)) (by omega) (by omega))]); omega))
  have hF_μ9 : Fr [(0, 0, 32), (1, 19, 0), (1, 20, 0)] true μ μ9 := by rw [e_μ9]; exact Fr.put hF_μ6 (by decide +kernel)
  have v_μ9 : (μ9.1 0 32).toInt = ((μ6.1 0 32).toInt + 1) := by rw [e_μ9, sF_v]; exact TI.e (n := ((μ6.1 0 32).toInt + 1)) (TI.add TI.rf (TI.lit (by decide)) (by omega) (by omega))
  have hr_μ9 : μ9.2.2 = μ.2.2 := (by rw [e_μ9]; rfl : μ9.2.2 = μ6.2.2).trans hr_μ6
  have g10 := rgm_0_32 hI_μ9
  exact ok_some ⟨hI_μ9, hF_μ9, by (try dsimp only); (try rw [hr_μ9]); omega⟩

set_option maxHeartbeats 4000000 in
set_option maxRecDepth 100000 in
theorem k_X12_layOpen (a1 : Int32) (a2 : Int32) (a3 : Int32) (μ : Mem) (hI_μ : IM μ) (hc : (μ.1 0 4).toInt < 800 ∧ (μ.1 0 28).toInt ≤ (μ.1 0 4).toInt ∧ (μ.1 0 32).toInt < 20) : ok (p_X12_layOpen a1 a2 a3 μ) (fun q => IM q.2 ∧ Fr [(0, 0, 28), (0, 0, 32), (0, 0, 4), (1, 16, 0), (1, 17, 0), (1, 18, 0), (1, 19, 0), (1, 20, 0)] true μ q.2 ∧ ((q.1).toInt = 1 ∧ (q.2.1 0 4).toInt = (μ.1 0 4).toInt + 1 ∧ (q.2.1 0 28).toInt = (μ.1 0 28).toInt + 1 ∧ (q.2.1 0 32).toInt = (μ.1 0 32).toInt + 1)) := by
  have li0 : (0 : Int32).toInt = 0 := by decide
  have li1 : (1 : Int32).toInt = 1 := by decide
  have hF_μ : Fr [(0, 0, 28), (0, 0, 32), (0, 0, 4), (1, 16, 0), (1, 17, 0), (1, 18, 0), (1, 19, 0), (1, 20, 0)] true μ μ := Fr.rf
  have hr_μ : μ.2.2 = μ.2.2 := rfl
  rw [p_X12_layOpen_eq]
  have lo_a1 := ti_lo a1
  have hi_a1 := ti_hi a1
  have lo_a2 := ti_lo a2
  have hi_a2 := ti_hi a2
  have lo_a3 := ti_lo a3
  have hi_a3 := ti_hi a3
  have g1 := rgm_0_4 hI_μ
  have g2 := rgm_0_28 hI_μ
  have g3 := rgm_0_32 hI_μ
  refine ok_bv (fun μ4 e_μ4 => ?_)
  have hI_μ4 : IM μ4 := by rw [e_μ4]; exact IM_F hI_μ (rpm_0_4 (by (try rw [TI.e (e := ((μ.1 0 4) + (1 : Int32))) (n := ((μ.1 0 4).toInt + 1)) (TI.add TI.rf (TI.lit (by decide)) (by omega) (by omega))]); omega))
  have hF_μ4 : Fr [(0, 0, 28), (0, 0, 32), (0, 0, 4), (1, 16, 0), (1, 17, 0), (1, 18, 0), (1, 19, 0), (1, 20, 0)] true μ μ4 := by rw [e_μ4]; exact Fr.put hF_μ (by decide +kernel)
  have v_μ4 : (μ4.1 0 4).toInt = ((μ.1 0 4).toInt + 1) := by rw [e_μ4, sF_v]; exact TI.e (n := ((μ.1 0 4).toInt + 1)) (TI.add TI.rf (TI.lit (by decide)) (by omega) (by omega))
  have hr_μ4 : μ4.2.2 = μ.2.2 := (by rw [e_μ4]; rfl : μ4.2.2 = μ.2.2).trans hr_μ
  have g7 := rgm_0_28 hI_μ4
  have f8 : (μ4.1 0 28).toInt = (μ.1 0 28).toInt := congrArg Int32.toInt ((by rw [e_μ4]; rfl : μ4.1 0 28 = μ.1 0 28))
  refine ok_bd (k_X12_lay a1 a2 a3 μ4 hI_μ4 (by (try rw [hr_μ4]); omega)) ?_
  rintro r6 μ5 ⟨hI_μ5, hC_μ5, p_μ5⟩
  have hI_μ5 : IM μ5 := hI_μ5
  have hC_μ5 : Fr [(0, 0, 28), (1, 16, 0), (1, 17, 0), (1, 18, 0)] true μ4 μ5 := hC_μ5
  dsimp only at p_μ5
  have lo_r6 := ti_lo r6
  have hi_r6 := ti_hi r6
  have hF_μ5 : Fr [(0, 0, 28), (0, 0, 32), (0, 0, 4), (1, 16, 0), (1, 17, 0), (1, 18, 0), (1, 19, 0), (1, 20, 0)] true μ μ5 := hF_μ4.trans (hC_μ5.mono (by decide +kernel) (by decide))
  have hr_μ5 : μ5.2.2 = μ.2.2 := (hC_μ5.2 rfl : μ5.2.2 = μ4.2.2).trans hr_μ4
  try simp only [hr_μ5, hr_μ4] at p_μ5
  have g11 := rgm_0_32 hI_μ5
  have f12 : (μ5.1 0 32).toInt = (μ.1 0 32).toInt := congrArg Int32.toInt ((hC_μ5.1 0 32 (by decide +kernel)).trans ((by rw [e_μ4]; rfl : μ4.1 0 32 = μ.1 0 32)))
  have g13 := rgm_0_28 hI_μ5
  refine ok_bw (k_X12_openThing  μ5 hI_μ5 (by (try rw [hr_μ5]); omega)) ?_
  rintro μ9 ⟨hI_μ9, hC_μ9, p_μ9⟩
  have hF_μ9 : Fr [(0, 0, 28), (0, 0, 32), (0, 0, 4), (1, 16, 0), (1, 17, 0), (1, 18, 0), (1, 19, 0), (1, 20, 0)] true μ μ9 := hF_μ5.trans (hC_μ9.mono (by decide +kernel) (by decide))
  have hr_μ9 : μ9.2.2 = μ.2.2 := (hC_μ9.2 rfl : μ9.2.2 = μ5.2.2).trans hr_μ5
  try simp only [hr_μ9, hr_μ5] at p_μ9
  refine ok_gd (isB_of (by omega)) ?_
  have g14 := rgm_0_4 hI_μ9
  have f15 : (μ9.1 0 4).toInt = (μ4.1 0 4).toInt := congrArg Int32.toInt ((hC_μ9.1 0 4 (by decide +kernel)).trans (hC_μ5.1 0 4 (by decide +kernel)))
  have g16 := rgm_0_28 hI_μ9
  have f17 : (μ9.1 0 28).toInt = (μ5.1 0 28).toInt := congrArg Int32.toInt (hC_μ9.1 0 28 (by decide +kernel))
  have g18 := rgm_0_32 hI_μ9
  exact ok_some ⟨hI_μ9, hF_μ9, by (try dsimp only); (try rw [hr_μ9]); omega⟩

set_option maxHeartbeats 4000000 in
set_option maxRecDepth 100000 in
theorem k_X12_readPlace  (μ : Mem) (hI_μ : IM μ) (hc : (μ.1 0 4).toInt < 800) : ok (p_X12_readPlace  μ) (fun q => IM q.2 ∧ Fr [(0, 0, 4), (0, 0, 5)] true μ q.2 ∧ (((q.1).toInt = 0 ∨ (q.1).toInt = 1) ∧ (q.2.1 0 4).toInt = (μ.1 0 4).toInt + 1 ∧ ((q.1).toInt = 0 ∨ (q.2.1 0 4).toInt < (μ.1 0 3).toInt))) := by
  have li0 : (0 : Int32).toInt = 0 := by decide
  have li1 : (1 : Int32).toInt = 1 := by decide
  have li48 : (48 : Int32).toInt = 48 := by decide
  have li55 : (55 : Int32).toInt = 55 := by decide
  have hF_μ : Fr [(0, 0, 4), (0, 0, 5)] true μ μ := Fr.rf
  have hr_μ : μ.2.2 = μ.2.2 := rfl
  rw [p_X12_readPlace_eq]
  have g1 := rgm_0_4 hI_μ
  have g2 := rgm_0_3 hI_μ
  refine ok_bv (fun μ3 e_μ3 => ?_)
  have hI_μ3 : IM μ3 := by rw [e_μ3]; exact IM_F hI_μ (rpm_0_4 (by (try rw [TI.e (e := ((μ.1 0 4) + (1 : Int32))) (n := ((μ.1 0 4).toInt + 1)) (TI.add TI.rf (TI.lit (by decide)) (by omega) (by omega))]); omega))
  have hF_μ3 : Fr [(0, 0, 4), (0, 0, 5)] true μ μ3 := by rw [e_μ3]; exact Fr.put hF_μ (by decide +kernel)
  have v_μ3 : (μ3.1 0 4).toInt = ((μ.1 0 4).toInt + 1) := by rw [e_μ3, sF_v]; exact TI.e (n := ((μ.1 0 4).toInt + 1)) (TI.add TI.rf (TI.lit (by decide)) (by omega) (by omega))
  have hr_μ3 : μ3.2.2 = μ.2.2 := (by rw [e_μ3]; rfl : μ3.2.2 = μ.2.2).trans hr_μ
  have g6 := rgm_0_4 hI_μ3
  have g7 := rgm_0_3 hI_μ3
  have f8 : (μ3.1 0 3).toInt = (μ.1 0 3).toInt := congrArg Int32.toInt ((by rw [e_μ3]; rfl : μ3.1 0 3 = μ.1 0 3))
  refine ok_bd (k_X12_here  μ3 hI_μ3) ?_
  rintro r5 μ4 ⟨hq9, p_r5⟩
  obtain rfl : μ3 = μ4 := hq9
  dsimp only at p_r5
  have lo_r5 := ti_lo r5
  have hi_r5 := ti_hi r5
  try simp only [hr_μ3] at p_r5
  refine ok_ite ?_ ?_
  · intro c9
    rw [ti_eq] at c9
    have y10 := tf_isIn r5 (48 : Int32) (55 : Int32)
    refine ok_bd (k_X12_fails (μ3.1 0 4) μ3 hI_μ3) ?_
    rintro r12 μ11 ⟨hI_μ11, hC_μ11, p_μ11⟩
    have hI_μ11 : IM μ11 := hI_μ11
    have hC_μ11 : Fr [(0, 0, 5)] true μ3 μ11 := hC_μ11
    dsimp only at p_μ11
    have lo_r12 := ti_lo r12
    have hi_r12 := ti_hi r12
    have hF_μ11 : Fr [(0, 0, 4), (0, 0, 5)] true μ μ11 := hF_μ3.trans (hC_μ11.mono (by decide +kernel) (by decide))
    have hr_μ11 : μ11.2.2 = μ.2.2 := (hC_μ11.2 rfl : μ11.2.2 = μ3.2.2).trans hr_μ3
    refine ok_ite ?_ ?_
    · intro c13
      rw [ti_eq] at c13
      have g14 := rgm_0_4 hI_μ11
      have f15 : (μ11.1 0 4).toInt = (μ3.1 0 4).toInt := congrArg Int32.toInt (hC_μ11.1 0 4 (by decide +kernel))
      have g16 := rgm_0_3 hI_μ11
      have f17 : (μ11.1 0 3).toInt = (μ3.1 0 3).toInt := congrArg Int32.toInt (hC_μ11.1 0 3 (by decide +kernel))
      exact ok_some ⟨hI_μ11, hF_μ11, by (try dsimp only); (try rw [hr_μ11]); omega⟩
    · intro c13
      rw [ti_eq] at c13
      have g18 := rgm_0_4 hI_μ11
      have f19 : (μ11.1 0 4).toInt = (μ3.1 0 4).toInt := congrArg Int32.toInt (hC_μ11.1 0 4 (by decide +kernel))
      have g20 := rgm_0_3 hI_μ11
      have f21 : (μ11.1 0 3).toInt = (μ3.1 0 3).toInt := congrArg Int32.toInt (hC_μ11.1 0 3 (by decide +kernel))
      exact ok_some ⟨hI_μ11, hF_μ11, by (try dsimp only); (try rw [hr_μ11]); omega⟩
  · intro c9
    rw [ti_eq] at c9
    have y22 := tf_isIn r5 (48 : Int32) (55 : Int32)
    exact ok_some ⟨hI_μ3, hF_μ3, by (try dsimp only); (try rw [hr_μ3]); omega⟩

set_option maxHeartbeats 4000000 in
set_option maxRecDepth 100000 in
theorem k_X12_layRead (a1 : Int32) (a2 : Int32) (μ : Mem) (hI_μ : IM μ) (hc : (μ.1 0 36).toInt < 30) : ok (p_X12_layRead a1 a2 μ) (fun q => IM q ∧ Fr [(0, 0, 36), (1, 22, 0), (1, 23, 0)] true μ q ∧ ((q.1 0 36).toInt = (μ.1 0 36).toInt + 1)) := by
  have li0 : (0 : Int32).toInt = 0 := by decide
  have li1 : (1 : Int32).toInt = 1 := by decide
  have hF_μ : Fr [(0, 0, 36), (1, 22, 0), (1, 23, 0)] true μ μ := Fr.rf
  have hr_μ : μ.2.2 = μ.2.2 := rfl
  rw [p_X12_layRead_eq]
  have lo_a1 := ti_lo a1
  have hi_a1 := ti_hi a1
  have lo_a2 := ti_lo a2
  have hi_a2 := ti_hi a2
  have g1 := rgm_0_36 hI_μ
  refine ok_gd (inb_iff.mpr (by omega)) ?_
  refine ok_bv (fun μ2 e_μ2 => ?_)
  have hI_μ2 : IM μ2 := by rw [e_μ2]; exact IM_F hI_μ (rtma_22 _ _)
  have hF_μ2 : Fr [(0, 0, 36), (1, 22, 0), (1, 23, 0)] true μ μ2 := by rw [e_μ2]; exact Fr.puta hF_μ (by decide +kernel)
  have hr_μ2 : μ2.2.2 = μ.2.2 := (by rw [e_μ2]; rfl : μ2.2.2 = μ.2.2).trans hr_μ
  have g3 := rgm_0_36 hI_μ2
  have f4 : (μ2.1 0 36).toInt = (μ.1 0 36).toInt := congrArg Int32.toInt ((by rw [e_μ2]; rfl : μ2.1 0 36 = μ.1 0 36))
  refine ok_gd (inb_iff.mpr (by omega)) ?_
  refine ok_bv (fun μ5 e_μ5 => ?_)
  have hI_μ5 : IM μ5 := by rw [e_μ5]; exact IM_F hI_μ2 (rtma_23 _ _)
  have hF_μ5 : Fr [(0, 0, 36), (1, 22, 0), (1, 23, 0)] true μ μ5 := by rw [e_μ5]; exact Fr.puta hF_μ2 (by decide +kernel)
  have hr_μ5 : μ5.2.2 = μ.2.2 := (by rw [e_μ5]; rfl : μ5.2.2 = μ2.2.2).trans hr_μ2
  have g6 := rgm_0_36 hI_μ5
  have f7 : (μ5.1 0 36).toInt = (μ2.1 0 36).toInt := congrArg Int32.toInt ((by rw [e_μ5]; rfl : μ5.1 0 36 = μ2.1 0 36))
  refine ok_bv (fun μ8 e_μ8 => ?_)
  have hI_μ8 : IM μ8 := by rw [e_μ8]; exact IM_F hI_μ5 (rpm_0_36 (by (try rw [TI.e (e := ((μ5.1 0 36) + (1 : Int32))) (n := ((μ5.1 0 36).toInt + 1)) (TI.add TI.rf (TI.lit (by decide)) (by omega) (by omega))]); omega))
  have hF_μ8 : Fr [(0, 0, 36), (1, 22, 0), (1, 23, 0)] true μ μ8 := by rw [e_μ8]; exact Fr.put hF_μ5 (by decide +kernel)
  have v_μ8 : (μ8.1 0 36).toInt = ((μ5.1 0 36).toInt + 1) := by rw [e_μ8, sF_v]; exact TI.e (n := ((μ5.1 0 36).toInt + 1)) (TI.add TI.rf (TI.lit (by decide)) (by omega) (by omega))
  have hr_μ8 : μ8.2.2 = μ.2.2 := (by rw [e_μ8]; rfl : μ8.2.2 = μ5.2.2).trans hr_μ5
  have g9 := rgm_0_36 hI_μ8
  exact ok_some ⟨hI_μ8, hF_μ8, by (try dsimp only); (try rw [hr_μ8]); omega⟩

set_option maxHeartbeats 4000000 in
set_option maxRecDepth 100000 in
theorem k_X12_closeAll_b2 : ∀ (n : Nat) (a2 : Int32) (μ : Mem), IM μ → (0 ≤ (a2).toInt ∧ (a2).toInt ≤ 30 ∧ (a2).toInt < n) → ok (p_X12_closeAll_b2 n a2 μ) (fun q => IM q.2 ∧ Fr [(0, 0, 4), (0, 0, 5), (1, 24, 0)] true μ q.2 ∧ (0 ≤ (q.1).toInt ∧ (q.1).toInt ≤ (a2).toInt ∧ (μ.1 0 4).toInt ≤ (q.2.1 0 4).toInt)) := by
  have lim1 : (-1 : Int32).toInt = -1 := by decide
  have li0 : (0 : Int32).toInt = 0 := by decide
  have li1 : (1 : Int32).toInt = 1 := by decide
  have li44 : (44 : Int32).toInt = 44 := by decide
  have li93 : (93 : Int32).toInt = 93 := by decide
  intro n
  induction n with
  | zero => intro a2 μ hI_μ hc; exact absurd hc (by have lo_a2 := ti_lo a2; have hi_a2 := ti_hi a2; omega)
  | succ n ih =>
    intro a2 μ hI_μ hc
    have hF_μ : Fr [(0, 0, 4), (0, 0, 5), (1, 24, 0)] true μ μ := Fr.rf
    have hr_μ : μ.2.2 = μ.2.2 := rfl
    rw [p_X12_closeAll_b2_s]
    have lo_a2 := ti_lo a2
    have hi_a2 := ti_hi a2
    have g2 := rgm_0_4 hI_μ
    refine ok_ite ?_ ?_
    · intro c3
      rw [ti_le] at c3
      exact ok_some ⟨hI_μ, hF_μ, by (try dsimp only); omega⟩
    · intro c3
      rw [ti_le] at c3
      refine ok_bv (fun v4 ev4 => ?_)
      first | have tv4 : v4.toInt = (a2.toInt - 1) := (congrArg Int32.toInt ev4).trans (TI.e (n := (a2.toInt - 1)) (TI.sub TI.rf (TI.lit (by decide)) (by omega) (by omega))) | skip
      refine ok_gd (inb_iff.mpr (by omega)) ?_
      refine ok_gd (inb_iff.mpr (by omega)) ?_
      refine ok_bv (fun μ5 e_μ5 => ?_)
      have hI_μ5 : IM μ5 := by rw [e_μ5]; exact IM_F hI_μ (rtma_24 _ _)
      have hF_μ5 : Fr [(0, 0, 4), (0, 0, 5), (1, 24, 0)] true μ μ5 := by rw [e_μ5]; exact Fr.puta hF_μ (by decide +kernel)
      have hr_μ5 : μ5.2.2 = μ.2.2 := (by rw [e_μ5]; rfl : μ5.2.2 = μ.2.2).trans hr_μ
      refine ok_gd (inb_iff.mpr (by (try rw [TI.e (e := (a2 - (1 : Int32))) (n := (a2.toInt - 1)) (TI.sub TI.rf (TI.lit (by decide)) (by omega) (by omega))]); omega)) ?_
      refine ok_ite ?_ ?_
      · intro c6
        rw [ti_eq] at c6
        have g9 := rgm_0_4 hI_μ5
        have f10 : (μ5.1 0 4).toInt = (μ.1 0 4).toInt := congrArg Int32.toInt ((by rw [e_μ5]; rfl : μ5.1 0 4 = μ.1 0 4))
        have g11 := rgm_0_3 hI_μ5
        refine ok_bd (k_X12_takes (44 : Int32) μ5 hI_μ5 (by (try rw [hr_μ5]); omega)) ?_
        rintro r8 μ7 ⟨hI_μ7, hC_μ7, p_μ7⟩
        have hI_μ7 : IM μ7 := hI_μ7
        have hC_μ7 : Fr [(0, 0, 4), (0, 0, 5)] true μ5 μ7 := hC_μ7
        dsimp only at p_μ7
        have lo_r8 := ti_lo r8
        have hi_r8 := ti_hi r8
        have hF_μ7 : Fr [(0, 0, 4), (0, 0, 5), (1, 24, 0)] true μ μ7 := hF_μ5.trans (hC_μ7.mono (by decide +kernel) (by decide))
        have hr_μ7 : μ7.2.2 = μ.2.2 := (hC_μ7.2 rfl : μ7.2.2 = μ5.2.2).trans hr_μ5
        try simp only [hr_μ7, hr_μ5] at p_μ7
        have g12 := rgm_0_4 hI_μ7
        exact ok_some ⟨hI_μ7, hF_μ7, by (try dsimp only); (try rw [hr_μ7]); omega⟩
      · intro c6
        rw [ti_eq] at c6
        have g15 := rgm_0_4 hI_μ5
        have f16 : (μ5.1 0 4).toInt = (μ.1 0 4).toInt := congrArg Int32.toInt ((by rw [e_μ5]; rfl : μ5.1 0 4 = μ.1 0 4))
        have g17 := rgm_0_3 hI_μ5
        refine ok_bd (k_X12_takes (93 : Int32) μ5 hI_μ5 (by (try rw [hr_μ5]); omega)) ?_
        rintro r14 μ13 ⟨hI_μ13, hC_μ13, p_μ13⟩
        have hI_μ13 : IM μ13 := hI_μ13
        have hC_μ13 : Fr [(0, 0, 4), (0, 0, 5)] true μ5 μ13 := hC_μ13
        dsimp only at p_μ13
        have lo_r14 := ti_lo r14
        have hi_r14 := ti_hi r14
        have hF_μ13 : Fr [(0, 0, 4), (0, 0, 5), (1, 24, 0)] true μ μ13 := hF_μ5.trans (hC_μ13.mono (by decide +kernel) (by decide))
        have hr_μ13 : μ13.2.2 = μ.2.2 := (hC_μ13.2 rfl : μ13.2.2 = μ5.2.2).trans hr_μ5
        try simp only [hr_μ13, hr_μ5] at p_μ13
        refine ok_ite ?_ ?_
        · intro c18
          rw [ti_eq] at c18
          have g19 := rgm_0_4 hI_μ13
          exact ok_some ⟨hI_μ13, hF_μ13, by (try dsimp only); (try rw [hr_μ13]); omega⟩
        · intro c18
          rw [ti_eq] at c18
          refine ok_bv (fun v20 ev20 => ?_)
          first | have tv20 : v20.toInt = (a2.toInt + (-1)) := (congrArg Int32.toInt ev20).trans (TI.e (n := (a2.toInt + (-1))) (TI.add TI.rf (TI.lit (by decide)) (by omega) (by omega))) | skip
          have g21 := rgm_0_4 hI_μ13
          exact ok_mono (ih v20 μ13 hI_μ13 (by (try rw [hr_μ13]); omega)) (fun q h => ⟨h.1, hF_μ13.trans h.2.1, by have h9 := h.2.2; (try dsimp only at h9 ⊢); omega⟩)
set_option maxHeartbeats 4000000 in
set_option maxRecDepth 100000 in
theorem k_X12_closeAll (a1 : Int32) (μ : Mem) (hI_μ : IM μ) (hc : 0 ≤ (a1).toInt ∧ (a1).toInt ≤ 30) : ok (p_X12_closeAll a1 μ) (fun q => IM q.2 ∧ Fr [(0, 0, 4), (0, 0, 5), (1, 24, 0)] true μ q.2 ∧ (0 ≤ (q.1).toInt ∧ (q.1).toInt ≤ (a1).toInt ∧ (μ.1 0 4).toInt ≤ (q.2.1 0 4).toInt)) := by
  have li0 : (0 : Int32).toInt = 0 := by decide
  have li1 : (1 : Int32).toInt = 1 := by decide
  have hF_μ : Fr [(0, 0, 4), (0, 0, 5), (1, 24, 0)] true μ μ := Fr.rf
  have hr_μ : μ.2.2 = μ.2.2 := rfl
  rw [p_X12_closeAll_eq]
  have lo_a1 := ti_lo a1
  have hi_a1 := ti_hi a1
  have g1 := rgm_0_4 hI_μ
  obtain ⟨fu, hfu0, hfu⟩ := fuel_ex
  rw [hfu0]
  exact ok_mono (k_X12_closeAll_b2  fu a1 μ hI_μ (by omega)) (fun q h => ⟨h.1, hF_μ.trans h.2.1, by have h9 := h.2.2; (try dsimp only at h9 ⊢); omega⟩)

set_option maxHeartbeats 4000000 in
set_option maxRecDepth 100000 in
theorem k_X12_fault  (μ : Mem) (hI_μ : IM μ) : ok (p_X12_fault  μ) (fun q => μ = q.2) := by
  have li0 : (0 : Int32).toInt = 0 := by decide
  have li1 : (1 : Int32).toInt = 1 := by decide
  have hF_μ : Fr [] true μ μ := Fr.rf
  have hr_μ : μ.2.2 = μ.2.2 := rfl
  rw [p_X12_fault_eq]
  have g1 := ti_lo (μ.1 0 5)
  have g1h := ti_hi (μ.1 0 5)
  exact ok_some rfl

set_option maxHeartbeats 4000000 in
set_option maxRecDepth 100000 in
theorem k_X12_set_b51 (a1 : Int32) (a2 : Int32) (k0 : Int32) (μ : Mem) (hI_μ : IM μ) (hc : ((k0).toInt = 0 ∨ (0 ≤ (a1).toInt ∧ (a1).toInt ≤ 2))) : ok (p_X12_set_b51 a1 a2 k0 μ) (fun q => IM q.2 ∧ Fr [(0, 0, 95), (1, 29, 0)] true μ q.2 ∧ (((q.1).toInt = 0 ∨ (q.1).toInt = 1))) := by
  have li0 : (0 : Int32).toInt = 0 := by decide
  have li1 : (1 : Int32).toInt = 1 := by decide
  have hF_μ : Fr [(0, 0, 95), (1, 29, 0)] true μ μ := Fr.rf
  have hr_μ : μ.2.2 = μ.2.2 := rfl
  rw [p_X12_set_b51_eq]
  have lo_a1 := ti_lo a1
  have hi_a1 := ti_hi a1
  have lo_a2 := ti_lo a2
  have hi_a2 := ti_hi a2
  have lo_k0 := ti_lo k0
  have hi_k0 := ti_hi k0
  refine ok_ite ?_ ?_
  · intro c2
    rw [ti_eq] at c2
    exact ok_some ⟨hI_μ, hF_μ, by (try dsimp only); omega⟩
  · intro c2
    rw [ti_eq] at c2
    refine ok_gd (inb_iff.mpr (by omega)) ?_
    refine ok_bv (fun μ3 e_μ3 => ?_)
    have hI_μ3 : IM μ3 := by rw [e_μ3]; exact IM_F hI_μ (rtma_29 _ _)
    have hF_μ3 : Fr [(0, 0, 95), (1, 29, 0)] true μ μ3 := by rw [e_μ3]; exact Fr.puta hF_μ (by decide +kernel)
    have hr_μ3 : μ3.2.2 = μ.2.2 := (by rw [e_μ3]; rfl : μ3.2.2 = μ.2.2).trans hr_μ
    refine ok_bv (fun μ4 e_μ4 => ?_)
    have hI_μ4 : IM μ4 := by rw [e_μ4]; exact IM_F hI_μ3 (rtm_0_95 _)
    have hF_μ4 : Fr [(0, 0, 95), (1, 29, 0)] true μ μ4 := by rw [e_μ4]; exact Fr.put hF_μ3 (by decide +kernel)
    have v_μ4 : (μ4.1 0 95).toInt = 0 := by rw [e_μ4, sF_v]; exact TI.e (n := 0) (TI.lit (by decide))
    have hr_μ4 : μ4.2.2 = μ.2.2 := (by rw [e_μ4]; rfl : μ4.2.2 = μ3.2.2).trans hr_μ3
    exact ok_some ⟨hI_μ4, hF_μ4, by (try dsimp only); (try rw [hr_μ4]); omega⟩
set_option maxHeartbeats 4000000 in
set_option maxRecDepth 100000 in
theorem k_X12_set_b50 (a1 : Int32) (a2 : Int32) (μ : Mem) (hI_μ : IM μ) : ok (p_X12_set_b50 a1 a2 μ) (fun q => IM q.2 ∧ Fr [(0, 0, 95), (1, 29, 0)] true μ q.2 ∧ (((q.1).toInt = 0 ∨ (q.1).toInt = 1))) := by
  have li0 : (0 : Int32).toInt = 0 := by decide
  have li1 : (1 : Int32).toInt = 1 := by decide
  have hF_μ : Fr [(0, 0, 95), (1, 29, 0)] true μ μ := Fr.rf
  have hr_μ : μ.2.2 = μ.2.2 := rfl
  rw [p_X12_set_b50_eq]
  have lo_a1 := ti_lo a1
  have hi_a1 := ti_hi a1
  have lo_a2 := ti_lo a2
  have hi_a2 := ti_hi a2
  exact ok_mono (k_X12_set_b51  a1 a2 (0 : Int32) μ hI_μ (by omega)) (fun q h => ⟨h.1, hF_μ.trans h.2.1, h.2.2⟩)
set_option maxHeartbeats 4000000 in
set_option maxRecDepth 100000 in
theorem k_X12_set (a1 : Int32) (a2 : Int32) (μ : Mem) (hI_μ : IM μ) : ok (p_X12_set a1 a2 μ) (fun q => IM q.2 ∧ Fr [(0, 0, 95), (1, 29, 0)] true μ q.2 ∧ (((q.1).toInt = 0 ∨ (q.1).toInt = 1))) := by
  have li0 : (0 : Int32).toInt = 0 := by decide
  have li1 : (1 : Int32).toInt = 1 := by decide
  have li2 : (2 : Int32).toInt = 2 := by decide
  have li10 : (10 : Int32).toInt = 10 := by decide
  have li300 : (300 : Int32).toInt = 300 := by decide
  have hF_μ : Fr [(0, 0, 95), (1, 29, 0)] true μ μ := Fr.rf
  have hr_μ : μ.2.2 = μ.2.2 := rfl
  rw [p_X12_set_eq]
  have lo_a1 := ti_lo a1
  have hi_a1 := ti_hi a1
  have lo_a2 := ti_lo a2
  have hi_a2 := ti_hi a2
  refine ok_ite ?_ ?_
  · intro c1
    rw [ti_eq] at c1
    exact ok_mono (k_X12_set_b51  a1 a2 (s_X12_isIn a2 (0 : Int32) (12 : Int32)) μ hI_μ (by omega)) (fun q h => ⟨h.1, hF_μ.trans h.2.1, h.2.2⟩)
  · intro c1
    rw [ti_eq] at c1
    refine ok_ite ?_ ?_
    · intro c5
      rw [ti_eq] at c5
      exact ok_mono (k_X12_set_b51  a1 a2 (s_X12_isIn a2 (1 : Int32) (6 : Int32)) μ hI_μ (by omega)) (fun q h => ⟨h.1, hF_μ.trans h.2.1, h.2.2⟩)
    · intro c5
      rw [ti_eq] at c5
      refine ok_ite ?_ ?_
      · intro c6
        rw [ti_eq] at c6
        refine ok_ite ?_ ?_
        · intro c7
          rw [ti_eq] at c7
          have y8 := tf_isIn a2 (10 : Int32) (300 : Int32)
          exact ok_mono (k_X12_set_b50  a1 a2 μ hI_μ) (fun q h => ⟨h.1, hF_μ.trans h.2.1, h.2.2⟩)
        · intro c7
          rw [ti_eq] at c7
          have y9 := tf_isIn a2 (10 : Int32) (300 : Int32)
          exact ok_mono (k_X12_set_b51  a1 a2 (1 : Int32) μ hI_μ (by omega)) (fun q h => ⟨h.1, hF_μ.trans h.2.1, h.2.2⟩)
      · intro c6
        rw [ti_eq] at c6
        exact ok_mono (k_X12_set_b50  a1 a2 μ hI_μ) (fun q h => ⟨h.1, hF_μ.trans h.2.1, h.2.2⟩)
