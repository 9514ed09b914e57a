set_option maxHeartbeats 4000000 in
set_option maxRecDepth 100000 in
theorem k_X11_feedFour_b3 : ∀ (n : Nat) (a1 : Int32) (a2 : Int32) (μ : Mem), IX μ → (-8 ≤ (a2).toInt ∧ (a2).toInt ≤ 24 ∧ (a2).toInt % 8 = 0 ∧ 8 * (μ.1 0 1).toInt + (a2).toInt + 8 ≤ 6400 ∧ (a2).toInt + 8 < n) → ok (p_X11_feedFour_b3 n a1 a2 μ) (fun q => IX q ∧ Fr [(0, 0, 1), (1, 1, 0)] true μ q ∧ (8 * (q.1 0 1).toInt = 8 * (μ.1 0 1).toInt + (a2).toInt + 8)) := by
  have lim8 : (-8 : Int32).toInt = -8 := by decide
  have li0 : (0 : Int32).toInt = 0 := by decide
  have li1 : (1 : Int32).toInt = 1 := by decide
  have li800 : (800 : Int32).toInt = 800 := by decide
  intro n
  induction n with
  | zero => intro a1 a2 μ hI_μ hc; exact absurd hc (by have lo_a1 := ti_lo a1; have hi_a1 := ti_hi a1; have lo_a2 := ti_lo a2; have hi_a2 := ti_hi a2; omega)
  | succ n ih =>
    intro a1 a2 μ hI_μ hc
    have hF_μ : Fr [(0, 0, 1), (1, 1, 0)] true μ μ := Fr.rf
    have hr_μ : μ.2.2 = μ.2.2 := rfl
    rw [p_X11_feedFour_b3_s]
    have lo_a1 := ti_lo a1
    have hi_a1 := ti_hi a1
    have lo_a2 := ti_lo a2
    have hi_a2 := ti_hi a2
    have g2 := rg_0_1 hI_μ
    refine ok_ite ?_ ?_
    · intro c3
      rw [ti_lt] at c3
      exact ok_some ⟨hI_μ, hF_μ, by (try dsimp only); omega⟩
    · intro c3
      rw [ti_lt] at c3
      refine ok_ite ?_ ?_
      · intro c4
        rw [ti_le] at c4
        exact ok_some ⟨hI_μ, hF_μ, by (try dsimp only); omega⟩
      · intro c4
        rw [ti_le] at c4
        refine ok_bv (fun v5 ev5 => ?_)
        have tv5 : v5.toInt = (((a1.toUInt32 >>> (a2.toUInt32 &&& Int32.toUInt32 31)).toInt32) &&& (255 : Int32)).toInt := congrArg Int32.toInt ev5
        refine ok_gd (inb_iff.mpr (by omega)) ?_
        refine ok_bv (fun μ6 e_μ6 => ?_)
        have hI_μ6 : IX μ6 := by rw [e_μ6]; exact IX_F hI_μ (rta_1 _ _)
        have hF_μ6 : Fr [(0, 0, 1), (1, 1, 0)] true μ μ6 := by rw [e_μ6]; exact Fr.puta hF_μ (by decide +kernel)
        have hr_μ6 : μ6.2.2 = μ.2.2 := (by rw [e_μ6]; rfl : μ6.2.2 = μ.2.2).trans hr_μ
        try rw [hr_μ6]
        have g7 := rg_0_1 hI_μ6
        have f8 : (μ6.1 0 1).toInt = (μ.1 0 1).toInt := congrArg Int32.toInt ((by rw [e_μ6]; rfl : μ6.1 0 1 = μ.1 0 1))
        refine ok_bv (fun μ9 e_μ9 => ?_)
        have hI_μ9 : IX μ9 := by rw [e_μ9]; exact IX_F hI_μ6 (rp_0_1 (by (try rw [TI.e (e := ((μ6.1 0 1) + (1 : Int32))) (n := ((μ6.1 0 1).toInt + 1)) (TI.add TI.rf (TI.lit (by decide)) (by omega) (by omega))]); omega))
        have hF_μ9 : Fr [(0, 0, 1), (1, 1, 0)] true μ μ9 := by rw [e_μ9]; exact Fr.put hF_μ6 (by decide +kernel)
        have v_μ9 : (μ9.1 0 1).toInt = ((μ6.1 0 1).toInt + 1) := by rw [e_μ9, sF_v]; exact TI.e (n := ((μ6.1 0 1).toInt + 1)) (TI.add TI.rf (TI.lit (by decide)) (by omega) (by omega))
        have hr_μ9 : μ9.2.2 = μ.2.2 := (by rw [e_μ9]; rfl : μ9.2.2 = μ6.2.2).trans hr_μ6
        try rw [hr_μ9]
        refine ok_bv (fun v10 ev10 => ?_)
        first | have tv10 : v10.toInt = (a2.toInt + (-8)) := (congrArg Int32.toInt ev10).trans (TI.e (n := (a2.toInt + (-8))) (TI.add TI.rf (TI.lit (by decide)) (by omega) (by omega))) | skip
        have g11 := rg_0_1 hI_μ9
        exact ok_mono (ih a1 v10 μ9 hI_μ9 (by (try rw [hr_μ9]); omega)) (fun q h => ⟨h.1, hF_μ9.trans h.2.1, by have h9 := h.2.2; (try dsimp only at h9 ⊢); omega⟩)
set_option maxHeartbeats 4000000 in
set_option maxRecDepth 100000 in
theorem k_X11_feedFour (a1 : Int32) (μ : Mem) (hI_μ : IX μ) (hc : (μ.1 0 1).toInt ≤ 796) : ok (p_X11_feedFour a1 μ) (fun q => IX q ∧ Fr [(0, 0, 1), (1, 1, 0)] true μ q ∧ ((q.1 0 1).toInt = (μ.1 0 1).toInt + 4)) := by
  have li0 : (0 : Int32).toInt = 0 := by decide
  have li1 : (1 : Int32).toInt = 1 := by decide
  have li24 : (24 : Int32).toInt = 24 := by decide
  have hF_μ : Fr [(0, 0, 1), (1, 1, 0)] true μ μ := Fr.rf
  have hr_μ : μ.2.2 = μ.2.2 := rfl
  rw [p_X11_feedFour_eq]
  have lo_a1 := ti_lo a1
  have hi_a1 := ti_hi a1
  have g1 := rg_0_1 hI_μ
  obtain ⟨fu, hfu0, hfu⟩ := fuel_ex
  rw [hfu0]
  exact ok_mono (k_X11_feedFour_b3  fu a1 (24 : Int32) μ hI_μ (by omega)) (fun q h => ⟨h.1, hF_μ.trans h.2.1, by have h9 := h.2.2; (try dsimp only at h9 ⊢); omega⟩)

set_option maxHeartbeats 4000000 in
set_option maxRecDepth 100000 in
theorem k_X11_feed (a1 : Int32) (a2 : Int32) (a3 : Int32) (a4 : Int32) (a5 : Int32) (μ : Mem) (hI_μ : IX μ) : ok (p_X11_feed a1 a2 a3 a4 a5 μ) (fun q => IX q.2 ∧ Fr [(0, 0, 1), (1, 1, 0)] true μ q.2 ∧ (((q.1).toInt = -1 ∧ 800 < (μ.1 0 1).toInt + 20 ∧ (q.2.1 0 1).toInt = (μ.1 0 1).toInt) ∨ ((q.1).toInt = (q.2.1 0 1).toInt ∧ (q.2.1 0 1).toInt = (μ.1 0 1).toInt + 20 ∧ (μ.1 0 1).toInt + 20 ≤ 800))) := by
  have lim1 : (-1 : Int32).toInt = -1 := by decide
  have li0 : (0 : Int32).toInt = 0 := by decide
  have li1 : (1 : Int32).toInt = 1 := by decide
  have li20 : (20 : Int32).toInt = 20 := by decide
  have li800 : (800 : Int32).toInt = 800 := by decide
  have hF_μ : Fr [(0, 0, 1), (1, 1, 0)] true μ μ := Fr.rf
  have hr_μ : μ.2.2 = μ.2.2 := rfl
  rw [p_X11_feed_eq]
  have lo_a1 := ti_lo a1
  have hi_a1 := ti_hi a1
  have lo_a2 := ti_lo a2
  have hi_a2 := ti_hi a2
  have lo_a3 := ti_lo a3
  have hi_a3 := ti_hi a3
  have lo_a4 := ti_lo a4
  have hi_a4 := ti_hi a4
  have lo_a5 := ti_lo a5
  have hi_a5 := ti_hi a5
  have g1 := rg_0_1 hI_μ
  refine ok_ite ?_ ?_
  · intro c2
    rw [ti_le] at c2
    try rw [TI.e (e := ((μ.1 0 1) + (20 : Int32))) (n := ((μ.1 0 1).toInt + 20)) (TI.add TI.rf (TI.lit (by decide)) (by omega) (by omega))] at c2
    refine ok_bw (k_X11_feedFour a1 μ hI_μ (by omega)) ?_
    rintro μ3 ⟨hI_μ3, hC_μ3, p_μ3⟩
    have hF_μ3 : Fr [(0, 0, 1), (1, 1, 0)] true μ μ3 := hF_μ.trans (hC_μ3.mono (by decide +kernel) (by decide))
    have hr_μ3 : μ3.2.2 = μ.2.2 := (hC_μ3.2 rfl : μ3.2.2 = μ.2.2).trans hr_μ
    try rw [hr_μ3]
    try simp only [hr_μ3, hr_μ] at p_μ3
    have g5 := rg_0_1 hI_μ3
    refine ok_bw (k_X11_feedFour a2 μ3 hI_μ3 (by (try rw [hr_μ3]); omega)) ?_
    rintro μ6 ⟨hI_μ6, hC_μ6, p_μ6⟩
    have hF_μ6 : Fr [(0, 0, 1), (1, 1, 0)] true μ μ6 := hF_μ3.trans (hC_μ6.mono (by decide +kernel) (by decide))
    have hr_μ6 : μ6.2.2 = μ.2.2 := (hC_μ6.2 rfl : μ6.2.2 = μ3.2.2).trans hr_μ3
    try rw [hr_μ6]
    try simp only [hr_μ6, hr_μ3] at p_μ6
    have g8 := rg_0_1 hI_μ6
    refine ok_bw (k_X11_feedFour a3 μ6 hI_μ6 (by (try rw [hr_μ6]); omega)) ?_
    rintro μ9 ⟨hI_μ9, hC_μ9, p_μ9⟩
    have hF_μ9 : Fr [(0, 0, 1), (1, 1, 0)] true μ μ9 := hF_μ6.trans (hC_μ9.mono (by decide +kernel) (by decide))
    have hr_μ9 : μ9.2.2 = μ.2.2 := (hC_μ9.2 rfl : μ9.2.2 = μ6.2.2).trans hr_μ6
    try rw [hr_μ9]
    try simp only [hr_μ9, hr_μ6] at p_μ9
    have g11 := rg_0_1 hI_μ9
    refine ok_bw (k_X11_feedFour a4 μ9 hI_μ9 (by (try rw [hr_μ9]); omega)) ?_
    rintro μ12 ⟨hI_μ12, hC_μ12, p_μ12⟩
    have hF_μ12 : Fr [(0, 0, 1), (1, 1, 0)] true μ μ12 := hF_μ9.trans (hC_μ12.mono (by decide +kernel) (by decide))
    have hr_μ12 : μ12.2.2 = μ.2.2 := (hC_μ12.2 rfl : μ12.2.2 = μ9.2.2).trans hr_μ9
    try rw [hr_μ12]
    try simp only [hr_μ12, hr_μ9] at p_μ12
    have g14 := rg_0_1 hI_μ12
    refine ok_bw (k_X11_feedFour a5 μ12 hI_μ12 (by (try rw [hr_μ12]); omega)) ?_
    rintro μ15 ⟨hI_μ15, hC_μ15, p_μ15⟩
    have hF_μ15 : Fr [(0, 0, 1), (1, 1, 0)] true μ μ15 := hF_μ12.trans (hC_μ15.mono (by decide +kernel) (by decide))
    have hr_μ15 : μ15.2.2 = μ.2.2 := (hC_μ15.2 rfl : μ15.2.2 = μ12.2.2).trans hr_μ12
    try rw [hr_μ15]
    try simp only [hr_μ15, hr_μ12] at p_μ15
    have g17 := rg_0_1 hI_μ15
    exact ok_some ⟨hI_μ15, hF_μ15, by (try dsimp only); (try rw [hr_μ15]); omega⟩
  · intro c2
    rw [ti_le] at c2
    try rw [TI.e (e := ((μ.1 0 1) + (20 : Int32))) (n := ((μ.1 0 1).toInt + 20)) (TI.add TI.rf (TI.lit (by decide)) (by omega) (by omega))] at c2
    exact ok_some ⟨hI_μ, hF_μ, by (try dsimp only); omega⟩

set_option maxHeartbeats 4000000 in
set_option maxRecDepth 100000 in
theorem k_X11_end (a1 : Int32) (μ : Mem) (hI_μ : IX μ) : ok (p_X11_end a1 μ) (fun q => IX q.2 ∧ Fr [(0, 0, 1)] true μ q.2 ∧ ((((a1).toInt < 0 ∨ (μ.1 0 1).toInt < (a1).toInt) ∧ (q.1).toInt = -1 ∧ (q.2.1 0 1).toInt = (μ.1 0 1).toInt) ∨ (0 ≤ (a1).toInt ∧ (a1).toInt ≤ (μ.1 0 1).toInt ∧ (q.1).toInt = (a1).toInt ∧ (q.2.1 0 1).toInt = (a1).toInt))) := by
  have lim1 : (-1 : Int32).toInt = -1 := by decide
  have li0 : (0 : Int32).toInt = 0 := by decide
  have li1 : (1 : Int32).toInt = 1 := by decide
  have hF_μ : Fr [(0, 0, 1)] true μ μ := Fr.rf
  have hr_μ : μ.2.2 = μ.2.2 := rfl
  rw [p_X11_end_eq]
  have lo_a1 := ti_lo a1
  have hi_a1 := ti_hi a1
  have g1 := rg_0_1 hI_μ
  refine ok_ite ?_ ?_
  · intro c2
    rw [ti_lt] at c2
    exact ok_some ⟨hI_μ, hF_μ, by (try dsimp only); omega⟩
  · intro c2
    rw [ti_lt] at c2
    refine ok_ite ?_ ?_
    · intro c3
      rw [ti_le] at c3
      refine ok_bv (fun μ4 e_μ4 => ?_)
      have hI_μ4 : IX μ4 := by rw [e_μ4]; exact IX_F hI_μ (rp_0_1 (by omega))
      have hF_μ4 : Fr [(0, 0, 1)] true μ μ4 := by rw [e_μ4]; exact Fr.put hF_μ (by decide +kernel)
      have v_μ4 : (μ4.1 0 1).toInt = a1.toInt := by rw [e_μ4, sF_v]
      have hr_μ4 : μ4.2.2 = μ.2.2 := (by rw [e_μ4]; rfl : μ4.2.2 = μ.2.2).trans hr_μ
      try rw [hr_μ4]
      have g5 := rg_0_1 hI_μ4
      exact ok_some ⟨hI_μ4, hF_μ4, by (try dsimp only); (try rw [hr_μ4]); omega⟩
    · intro c3
      rw [ti_le] at c3
      exact ok_some ⟨hI_μ, hF_μ, by (try dsimp only); omega⟩

set_option maxHeartbeats 4000000 in
set_option maxRecDepth 100000 in
theorem k_X4_begin (a1 : Int32) (μ : Mem) (hI_μ : IX μ) (hc : 0 ≤ (a1).toInt) : ok (p_X4_begin a1 μ) (fun q => IX q ∧ Fr [(0, 16, 1), (0, 16, 2), (0, 16, 3)] true μ q) := by
  have lim1 : (-1 : Int32).toInt = -1 := by decide
  have li0 : (0 : Int32).toInt = 0 := by decide
  have li1 : (1 : Int32).toInt = 1 := by decide
  have li800 : (800 : Int32).toInt = 800 := by decide
  have hF_μ : Fr [(0, 16, 1), (0, 16, 2), (0, 16, 3)] true μ μ := Fr.rf
  have hr_μ : μ.2.2 = μ.2.2 := rfl
  rw [p_X4_begin_eq]
  have lo_a1 := ti_lo a1
  have hi_a1 := ti_hi a1
  refine ok_bv (fun μ1 e_μ1 => ?_)
  have hI_μ1 : IX μ1 := by rw [e_μ1]; exact IX_F hI_μ (rp_16_1 (by (try rw [TI.e (e := (imin a1 (800 : Int32))) (n := (min a1.toInt 800)) (TI.min TI.rf (TI.lit (by decide)))]); omega))
  have hF_μ1 : Fr [(0, 16, 1), (0, 16, 2), (0, 16, 3)] true μ μ1 := by rw [e_μ1]; exact Fr.put hF_μ (by decide +kernel)
  have v_μ1 : (μ1.1 16 1).toInt = (min a1.toInt 800) := by rw [e_μ1, sF_v]; exact TI.e (n := (min a1.toInt 800)) (TI.min TI.rf (TI.lit (by decide)))
  have hr_μ1 : μ1.2.2 = μ.2.2 := (by rw [e_μ1]; rfl : μ1.2.2 = μ.2.2).trans hr_μ
  try rw [hr_μ1]
  refine ok_bv (fun μ2 e_μ2 => ?_)
  have hI_μ2 : IX μ2 := by rw [e_μ2]; exact IX_F hI_μ1 (rt_16_2 _)
  have hF_μ2 : Fr [(0, 16, 1), (0, 16, 2), (0, 16, 3)] true μ μ2 := by rw [e_μ2]; exact Fr.put hF_μ1 (by decide +kernel)
  have v_μ2 : (μ2.1 16 2).toInt = 0 := by rw [e_μ2, sF_v]; exact TI.e (n := 0) (TI.lit (by decide))
  have hr_μ2 : μ2.2.2 = μ.2.2 := (by rw [e_μ2]; rfl : μ2.2.2 = μ1.2.2).trans hr_μ1
  try rw [hr_μ2]
  refine ok_bv (fun μ3 e_μ3 => ?_)
  have hI_μ3 : IX μ3 := by rw [e_μ3]; exact IX_F hI_μ2 (rt_16_3 _)
  have hF_μ3 : Fr [(0, 16, 1), (0, 16, 2), (0, 16, 3)] true μ μ3 := by rw [e_μ3]; exact Fr.put hF_μ2 (by decide +kernel)
  have v_μ3 : (μ3.1 16 3).toInt = (-1) := by rw [e_μ3, sF_v]; exact TI.e (n := (-1)) (TI.lit (by decide))
  have hr_μ3 : μ3.2.2 = μ.2.2 := (by rw [e_μ3]; rfl : μ3.2.2 = μ2.2.2).trans hr_μ2
  try rw [hr_μ3]
  exact ok_some ⟨hI_μ3, hF_μ3⟩

set_option maxHeartbeats 4000000 in
set_option maxRecDepth 100000 in
theorem k_X11_takeTape  (μ : Mem) (hI_μ : IX μ) : ok (p_X11_takeTape  μ) (fun q => IX q ∧ Fr [(0, 0, 1), (0, 16, 1), (0, 16, 2), (0, 16, 3)] true μ q ∧ ((q.1 0 1).toInt = 0)) := by
  have li0 : (0 : Int32).toInt = 0 := by decide
  have li1 : (1 : Int32).toInt = 1 := by decide
  have hF_μ : Fr [(0, 0, 1), (0, 16, 1), (0, 16, 2), (0, 16, 3)] true μ μ := Fr.rf
  have hr_μ : μ.2.2 = μ.2.2 := rfl
  rw [p_X11_takeTape_eq]
  have g1 := rg_0_1 hI_μ
  refine ok_bw (k_X4_begin (μ.1 0 1) μ hI_μ (by omega)) ?_
  rintro μ2 ⟨hI_μ2, hC_μ2⟩
  have hF_μ2 : Fr [(0, 0, 1), (0, 16, 1), (0, 16, 2), (0, 16, 3)] true μ μ2 := hF_μ.trans (hC_μ2.mono (by decide +kernel) (by decide))
  have hr_μ2 : μ2.2.2 = μ.2.2 := (hC_μ2.2 rfl : μ2.2.2 = μ.2.2).trans hr_μ
  try rw [hr_μ2]
  refine ok_bv (fun μ4 e_μ4 => ?_)
  have hI_μ4 : IX μ4 := by rw [e_μ4]; exact IX_F hI_μ2 (rp_0_1 (by omega))
  have hF_μ4 : Fr [(0, 0, 1), (0, 16, 1), (0, 16, 2), (0, 16, 3)] true μ μ4 := by rw [e_μ4]; exact Fr.put hF_μ2 (by decide +kernel)
  have v_μ4 : (μ4.1 0 1).toInt = 0 := by rw [e_μ4, sF_v]; exact TI.e (n := 0) (TI.lit (by decide))
  have hr_μ4 : μ4.2.2 = μ.2.2 := (by rw [e_μ4]; rfl : μ4.2.2 = μ2.2.2).trans hr_μ2
  try rw [hr_μ4]
  have g5 := rg_0_1 hI_μ4
  exact ok_some ⟨hI_μ4, hF_μ4, by (try dsimp only); (try rw [hr_μ4]); omega⟩

set_option maxHeartbeats 4000000 in
set_option maxRecDepth 100000 in
theorem k_X3_clear_b17 : ∀ (n : Nat) (a0 : Nat) (q0 : sh 0 a0 = (0, 2)) (a1 : Int32) (μ : Mem), IX μ → (0 ≤ (a1).toInt ∧ (a1).toInt ≤ 72 ∧ 72 - (a1).toInt < n) → ok (p_X3_clear_b17 n a0 a1 μ) (fun q => IX q ∧ Fr [(2, 2, 0), (2, 2, 1), (2, 2, 2), (3, 2, 3)] true μ q) := by
  have lim1 : (-1 : Int32).toInt = -1 := by decide
  have li0 : (0 : Int32).toInt = 0 := by decide
  have li1 : (1 : Int32).toInt = 1 := by decide
  have li72 : (72 : Int32).toInt = 72 := by decide
  intro n
  induction n with
  | zero => intro a0 q0 a1 μ hI_μ hc; exact absurd hc (by have lo_a1 := ti_lo a1; have hi_a1 := ti_hi a1; omega)
  | succ n ih =>
    intro a0 q0 a1 μ hI_μ hc
    have hF_μ : Fr [(2, 2, 0), (2, 2, 1), (2, 2, 2), (3, 2, 3)] true μ μ := Fr.rf
    have hr_μ : μ.2.2 = μ.2.2 := rfl
    rw [p_X3_clear_b17_s]
    have lo_a1 := ti_lo a1
    have hi_a1 := ti_hi a1
    refine ok_ite ?_ ?_
    · intro c4
      rw [ti_le] at c4
      exact ok_some ⟨hI_μ, hF_μ⟩
    · intro c4
      rw [ti_le] at c4
      refine ok_gd (inb_iff.mpr (by omega)) ?_
      refine ok_bv (fun μ5 e_μ5 => ?_)
      have hI_μ5 : IX μ5 := by rw [e_μ5]; exact IX_F hI_μ (rtr_2_3 q0 _ _)
      have hF_μ5 : Fr [(2, 2, 0), (2, 2, 1), (2, 2, 2), (3, 2, 3)] true μ μ5 := by rw [e_μ5]; exact Fr.putr (ci := 2) (off := 3) hF_μ (by decide +kernel) q0
      have hr_μ5 : μ5.2.2 = μ.2.2 := (by rw [e_μ5]; rfl : μ5.2.2 = μ.2.2).trans hr_μ
      refine ok_bv (fun v6 ev6 => ?_)
      first | have tv6 : v6.toInt = (a1.toInt + 1) := (congrArg Int32.toInt ev6).trans (TI.e (n := (a1.toInt + 1)) (TI.add TI.rf (TI.lit (by decide)) (by omega) (by omega))) | have tv6 : v6.toInt ≤ a1.toInt + 1 := by rw [ev6]; exact ti_inc _ | skip
      exact ok_mono (ih a0 q0 v6 μ5 hI_μ5 (by (try rw [hr_μ5]); omega)) (fun q h => ⟨h.1, hF_μ5.trans h.2⟩)
set_option maxHeartbeats 4000000 in
set_option maxRecDepth 100000 in
theorem k_X3_clear (a0 : Nat) (q0 : sh 0 a0 = (0, 2)) (μ : Mem) (hI_μ : IX μ) : ok (p_X3_clear a0 μ) (fun q => IX q ∧ Fr [(2, 2, 0), (2, 2, 1), (2, 2, 2), (3, 2, 3)] true μ q) := by
  have li0 : (0 : Int32).toInt = 0 := by decide
  have li1 : (1 : Int32).toInt = 1 := by decide
  have hF_μ : Fr [(2, 2, 0), (2, 2, 1), (2, 2, 2), (3, 2, 3)] true μ μ := Fr.rf
  have hr_μ : μ.2.2 = μ.2.2 := rfl
  rw [p_X3_clear_eq]
  refine ok_bv (fun μ1 e_μ1 => ?_)
  have hI_μ1 : IX μ1 := by rw [e_μ1]; exact IX_F hI_μ (rpc_2_0 q0 (by omega))
  have hF_μ1 : Fr [(2, 2, 0), (2, 2, 1), (2, 2, 2), (3, 2, 3)] true μ μ1 := by rw [e_μ1]; exact Fr.putc (ci := 2) hF_μ (by decide +kernel) q0
  have v_μ1 : (μ1.1 a0 0).toInt = 0 := by rw [e_μ1, sF_v]; exact TI.e (n := 0) (TI.lit (by decide))
  have hr_μ1 : μ1.2.2 = μ.2.2 := (by rw [e_μ1]; rfl : μ1.2.2 = μ.2.2).trans hr_μ
  refine ok_bv (fun μ2 e_μ2 => ?_)
  have hI_μ2 : IX μ2 := by rw [e_μ2]; exact IX_F hI_μ1 (rtc_2_1 q0 _)
  have hF_μ2 : Fr [(2, 2, 0), (2, 2, 1), (2, 2, 2), (3, 2, 3)] true μ μ2 := by rw [e_μ2]; exact Fr.putc (ci := 2) hF_μ1 (by decide +kernel) q0
  have v_μ2 : (μ2.1 a0 1).toInt = 0 := by rw [e_μ2, sF_v]; exact TI.e (n := 0) (TI.lit (by decide))
  have hr_μ2 : μ2.2.2 = μ.2.2 := (by rw [e_μ2]; rfl : μ2.2.2 = μ1.2.2).trans hr_μ1
  refine ok_bv (fun μ3 e_μ3 => ?_)
  have hI_μ3 : IX μ3 := by rw [e_μ3]; exact IX_F hI_μ2 (rpc_2_2 q0 (by omega))
  have hF_μ3 : Fr [(2, 2, 0), (2, 2, 1), (2, 2, 2), (3, 2, 3)] true μ μ3 := by rw [e_μ3]; exact Fr.putc (ci := 2) hF_μ2 (by decide +kernel) q0
  have v_μ3 : (μ3.1 a0 2).toInt = 0 := by rw [e_μ3, sF_v]; exact TI.e (n := 0) (TI.lit (by decide))
  have hr_μ3 : μ3.2.2 = μ.2.2 := (by rw [e_μ3]; rfl : μ3.2.2 = μ2.2.2).trans hr_μ2
  obtain ⟨fu, hfu0, hfu⟩ := fuel_ex
  rw [hfu0]
  exact ok_mono (k_X3_clear_b17  fu a0 q0 (0 : Int32) μ3 hI_μ3 (by (try rw [hr_μ3]); omega)) (fun q h => ⟨h.1, hF_μ3.trans h.2⟩)

set_option maxHeartbeats 4000000 in
set_option maxRecDepth 100000 in
theorem k_X4_isWell  (μ : Mem) (hI_μ : IX μ) : ok (p_X4_isWell  μ) (fun q => μ = q.2 ∧ ((q.1).toInt = 0 ∨ (q.1).toInt = 1)) := by
  have lim1 : (-1 : Int32).toInt = -1 := by decide
  have li0 : (0 : Int32).toInt = 0 := by decide
  have li1 : (1 : Int32).toInt = 1 := by decide
  have hF_μ : Fr [] true μ μ := Fr.rf
  have hr_μ : μ.2.2 = μ.2.2 := rfl
  rw [p_X4_isWell_eq]
  have g1 := ti_lo (μ.1 16 3)
  have g1h := ti_hi (μ.1 16 3)
  refine ok_ite ?_ ?_
  · intro c2
    rw [ti_eq] at c2
    exact ok_some ⟨rfl, by (try dsimp only); omega⟩
  · intro c2
    rw [ti_eq] at c2
    exact ok_some ⟨rfl, by (try dsimp only); omega⟩

set_option maxHeartbeats 4000000 in
set_option maxRecDepth 100000 in
theorem k_X4_here  (μ : Mem) (hI_μ : IX μ) : ok (p_X4_here  μ) (fun q => μ = q.2) := by
  have lim1 : (-1 : Int32).toInt = -1 := by decide
  have li0 : (0 : Int32).toInt = 0 := by decide
  have li1 : (1 : Int32).toInt = 1 := by decide
  have hF_μ : Fr [] true μ μ := Fr.rf
  have hr_μ : μ.2.2 = μ.2.2 := rfl
  rw [p_X4_here_eq]
  have g1 := ti_lo (μ.1 16 2)
  have g1h := ti_hi (μ.1 16 2)
  refine ok_ite ?_ ?_
  · intro c2
    rw [ti_lt] at c2
    exact ok_some rfl
  · intro c2
    rw [ti_lt] at c2
    have g3 := rg_16_1 hI_μ
    refine ok_ite ?_ ?_
    · intro c4
      rw [ti_le] at c4
      exact ok_some rfl
    · intro c4
      rw [ti_le] at c4
      refine ok_gd (inb_iff.mpr (by omega)) ?_
      exact ok_some rfl

set_option maxHeartbeats 4000000 in
set_option maxRecDepth 100000 in
theorem k_X4_fail (a1 : Int32) (μ : Mem) (hI_μ : IX μ) : ok (p_X4_fail a1 μ) (fun q => IX q ∧ Fr [(0, 16, 3)] true μ q) := by
  have lim1 : (-1 : Int32).toInt = -1 := by decide
  have li0 : (0 : Int32).toInt = 0 := by decide
  have li1 : (1 : Int32).toInt = 1 := by decide
  have hF_μ : Fr [(0, 16, 3)] true μ μ := Fr.rf
  have hr_μ : μ.2.2 = μ.2.2 := rfl
  rw [p_X4_fail_eq]
  have lo_a1 := ti_lo a1
  have hi_a1 := ti_hi a1
  have g1 := ti_lo (μ.1 16 3)
  have g1h := ti_hi (μ.1 16 3)
  refine ok_ite ?_ ?_
  · intro c2
    rw [ti_eq] at c2
    refine ok_bv (fun μ3 e_μ3 => ?_)
    have hI_μ3 : IX μ3 := by rw [e_μ3]; exact IX_F hI_μ (rt_16_3 _)
    have hF_μ3 : Fr [(0, 16, 3)] true μ μ3 := by rw [e_μ3]; exact Fr.put hF_μ (by decide +kernel)
    have v_μ3 : (μ3.1 16 3).toInt = a1.toInt := by rw [e_μ3, sF_v]
    have hr_μ3 : μ3.2.2 = μ.2.2 := (by rw [e_μ3]; rfl : μ3.2.2 = μ.2.2).trans hr_μ
    try rw [hr_μ3]
    exact ok_some ⟨hI_μ3, hF_μ3⟩
  · intro c2
    rw [ti_eq] at c2
    exact ok_some ⟨hI_μ, hF_μ⟩

set_option maxHeartbeats 4000000 in
set_option maxRecDepth 100000 in
theorem k_X4_take (a1 : Int32) (μ : Mem) (hI_μ : IX μ) : ok (p_X4_take a1 μ) (fun q => IX q.2 ∧ Fr [(0, 16, 2), (0, 16, 3)] true μ q.2 ∧ ((q.1).toInt = 0 ∨ (q.1).toInt = 1)) := by
  have li0 : (0 : Int32).toInt = 0 := by decide
  have li1 : (1 : Int32).toInt = 1 := by decide
  have hF_μ : Fr [(0, 16, 2), (0, 16, 3)] true μ μ := Fr.rf
  have hr_μ : μ.2.2 = μ.2.2 := rfl
  rw [p_X4_take_eq]
  have lo_a1 := ti_lo a1
  have hi_a1 := ti_hi a1
  refine ok_bd (k_X4_isWell  μ hI_μ) ?_
  rintro r2 μ1 ⟨hq9, p_r2⟩
  obtain rfl : μ = μ1 := hq9
  dsimp only at p_r2
  have lo_r2 := ti_lo r2
  have hi_r2 := ti_hi r2
  refine ok_ite ?_ ?_
  · intro c3
    rw [ti_eq] at c3
    exact ok_some ⟨hI_μ, hF_μ, by (try dsimp only); omega⟩
  · intro c3
    rw [ti_eq] at c3
    refine ok_bd (k_X4_here  μ hI_μ) ?_
    rintro r5 μ4 hq9
    obtain rfl : μ = μ4 := hq9
    have lo_r5 := ti_lo r5
    have hi_r5 := ti_hi r5
    refine ok_ite ?_ ?_
    · intro c6
      rw [ti_eq] at c6
      have g7 := ti_lo (μ.1 16 2)
      have g7h := ti_hi (μ.1 16 2)
      refine ok_bv (fun μ8 e_μ8 => ?_)
      have hI_μ8 : IX μ8 := by rw [e_μ8]; exact IX_F hI_μ (rt_16_2 _)
      have hF_μ8 : Fr [(0, 16, 2), (0, 16, 3)] true μ μ8 := by rw [e_μ8]; exact Fr.put hF_μ (by decide +kernel)
      have hr_μ8 : μ8.2.2 = μ.2.2 := (by rw [e_μ8]; rfl : μ8.2.2 = μ.2.2).trans hr_μ
      try rw [hr_μ8]
      exact ok_some ⟨hI_μ8, hF_μ8, by (try dsimp only); (try rw [hr_μ8]); omega⟩
    · intro c6
      rw [ti_eq] at c6
      have g9 := ti_lo (μ.1 16 2)
      have g9h := ti_hi (μ.1 16 2)
      refine ok_bw (k_X4_fail (μ.1 16 2) μ hI_μ) ?_
      rintro μ10 ⟨hI_μ10, hC_μ10⟩
      have hF_μ10 : Fr [(0, 16, 2), (0, 16, 3)] true μ μ10 := hF_μ.trans (hC_μ10.mono (by decide +kernel) (by decide))
      have hr_μ10 : μ10.2.2 = μ.2.2 := (hC_μ10.2 rfl : μ10.2.2 = μ.2.2).trans hr_μ
      try rw [hr_μ10]
      exact ok_some ⟨hI_μ10, hF_μ10, by (try dsimp only); (try rw [hr_μ10]); omega⟩

set_option maxHeartbeats 4000000 in
set_option maxRecDepth 100000 in
theorem k_X4_slotOf_b32 {n7 : Nat} (K7 : Int32 → Int32 → Mem → Option (Int32 × Mem)) (hK7 : ∀ (z1 : Int32) (z2 : Int32) (μ1 : Mem), IX μ1 → (-1 ≤ (z2).toInt ∧ (z2).toInt + 1 < n7) → ok (K7 z1 z2 μ1) (fun q => μ1 = q.2)) (a1 : Int32) (a2 : Int32) (μ : Mem) (hI_μ : IX μ) (hc : 0 ≤ (a2).toInt ∧ (a2).toInt + 1 < n7 + 1) : ok (p_X4_slotOf_b32 K7 a1 a2 μ) (fun q => μ = q.2) := by
  have lim1 : (-1 : Int32).toInt = -1 := by decide
  have li0 : (0 : Int32).toInt = 0 := by decide
  have li1 : (1 : Int32).toInt = 1 := by decide
  have hF_μ : Fr [] true μ μ := Fr.rf
  have hr_μ : μ.2.2 = μ.2.2 := rfl
  rw [p_X4_slotOf_b32_eq]
  have lo_a1 := ti_lo a1
  have hi_a1 := ti_hi a1
  have lo_a2 := ti_lo a2
  have hi_a2 := ti_hi a2
  refine ok_bv (fun v5 ev5 => ?_)
  first | have tv5 : v5.toInt = (a2.toInt + (-1)) := (congrArg Int32.toInt ev5).trans (TI.e (n := (a2.toInt + (-1))) (TI.add TI.rf (TI.lit (by decide)) (by omega) (by omega))) | skip
  exact ok_mono (hK7 a1 v5 μ hI_μ (by omega)) (fun q h => h)
set_option maxHeartbeats 4000000 in
set_option maxRecDepth 100000 in
theorem k_X4_slotOf_b7 : ∀ (n : Nat) (a1 : Int32) (a2 : Int32) (μ : Mem), IX μ → (-1 ≤ (a2).toInt ∧ (a2).toInt + 1 < n) → ok (p_X4_slotOf_b7 n a1 a2 μ) (fun q => μ = q.2) := by
  have lim1 : (-1 : Int32).toInt = -1 := by decide
  have li0 : (0 : Int32).toInt = 0 := by decide
  have li1 : (1 : Int32).toInt = 1 := by decide
  have li32 : (32 : Int32).toInt = 32 := by decide
  intro n
  induction n with
  | zero => intro a1 a2 μ hI_μ hc; exact absurd hc (by have lo_a1 := ti_lo a1; have hi_a1 := ti_hi a1; have lo_a2 := ti_lo a2; have hi_a2 := ti_hi a2; omega)
  | succ n ih =>
    intro a1 a2 μ hI_μ hc
    have hF_μ : Fr [] true μ μ := Fr.rf
    have hr_μ : μ.2.2 = μ.2.2 := rfl
    rw [p_X4_slotOf_b7_s]
    have lo_a1 := ti_lo a1
    have hi_a1 := ti_hi a1
    have lo_a2 := ti_lo a2
    have hi_a2 := ti_hi a2
    refine ok_ite ?_ ?_
    · intro c3
      rw [ti_lt] at c3
      exact ok_some rfl
    · intro c3
      rw [ti_lt] at c3
      refine ok_ite ?_ ?_
      · intro c4
        rw [ti_le] at c4
        exact ok_mono (k_X4_slotOf_b32 _ ih a1 a2 μ hI_μ (by omega)) (fun q h => h)
      · intro c4
        rw [ti_le] at c4
        refine ok_gd (inb_iff.mpr (by omega)) ?_
        refine ok_ite ?_ ?_
        · intro c6
          rw [ti_eq] at c6
          exact ok_some rfl
        · intro c6
          rw [ti_eq] at c6
          exact ok_mono (k_X4_slotOf_b32 _ ih a1 a2 μ hI_μ (by omega)) (fun q h => h)
set_option maxHeartbeats 4000000 in
set_option maxRecDepth 100000 in
theorem k_X4_slotOf (a1 : Int32) (μ : Mem) (hI_μ : IX μ) : ok (p_X4_slotOf a1 μ) (fun q => μ = q.2) := by
  have li0 : (0 : Int32).toInt = 0 := by decide
  have li1 : (1 : Int32).toInt = 1 := by decide
  have hF_μ : Fr [] true μ μ := Fr.rf
  have hr_μ : μ.2.2 = μ.2.2 := rfl
  rw [p_X4_slotOf_eq]
  have lo_a1 := ti_lo a1
  have hi_a1 := ti_hi a1
  have g1 := rg_16_6 hI_μ
  refine ok_bv (fun v2 ev2 => ?_)
  first | have tv2 : v2.toInt = ((μ.1 16 6).toInt - 1) := (congrArg Int32.toInt ev2).trans (TI.e (n := ((μ.1 16 6).toInt - 1)) (TI.sub TI.rf (TI.lit (by decide)) (by omega) (by omega))) | skip
  obtain ⟨fu, hfu0, hfu⟩ := fuel_ex
  rw [hfu0]
  exact ok_mono (k_X4_slotOf_b7  fu a1 v2 μ hI_μ (by omega)) (fun q h => h)

set_option maxHeartbeats 4000000 in
set_option maxRecDepth 100000 in
theorem k_X4_nameOne (a1 : Int32) (μ : Mem) (hI_μ : IX μ) : ok (p_X4_nameOne a1 μ) (fun q => IX q ∧ Fr [(0, 16, 6), (1, 17, 0)] true μ q) := by
  have li0 : (0 : Int32).toInt = 0 := by decide
  have li1 : (1 : Int32).toInt = 1 := by decide
  have li32 : (32 : Int32).toInt = 32 := by decide
  have hF_μ : Fr [(0, 16, 6), (1, 17, 0)] true μ μ := Fr.rf
  have hr_μ : μ.2.2 = μ.2.2 := rfl
  rw [p_X4_nameOne_eq]
  have lo_a1 := ti_lo a1
  have hi_a1 := ti_hi a1
  have g1 := rg_16_6 hI_μ
  refine ok_ite ?_ ?_
  · intro c2
    rw [ti_le] at c2
    exact ok_some ⟨hI_μ, hF_μ⟩
  · intro c2
    rw [ti_le] at c2
    refine ok_gd (inb_iff.mpr (by omega)) ?_
    refine ok_bv (fun μ3 e_μ3 => ?_)
    have hI_μ3 : IX μ3 := by rw [e_μ3]; exact IX_F hI_μ (rta_17 _ _)
    have hF_μ3 : Fr [(0, 16, 6), (1, 17, 0)] true μ μ3 := by rw [e_μ3]; exact Fr.puta hF_μ (by decide +kernel)
    have hr_μ3 : μ3.2.2 = μ.2.2 := (by rw [e_μ3]; rfl : μ3.2.2 = μ.2.2).trans hr_μ
    try rw [hr_μ3]
    have g4 := rg_16_6 hI_μ3
    have f5 : (μ3.1 16 6).toInt = (μ.1 16 6).toInt := congrArg Int32.toInt ((by rw [e_μ3]; rfl : μ3.1 16 6 = μ.1 16 6))
    refine ok_bv (fun μ6 e_μ6 => ?_)
    have hI_μ6 : IX μ6 := by rw [e_μ6]; exact IX_F hI_μ3 (rp_16_6 (by (try rw [TI.e (e := ((μ3.1 16 6) + (1 : Int32))) (n := ((μ3.1 16 6).toInt + 1)) (TI.add TI.rf (TI.lit (by decide)) (by omega) (by omega))]); omega))
    have hF_μ6 : Fr [(0, 16, 6), (1, 17, 0)] true μ μ6 := by rw [e_μ6]; exact Fr.put hF_μ3 (by decide +kernel)
    have v_μ6 : (μ6.1 16 6).toInt = ((μ3.1 16 6).toInt + 1) := by rw [e_μ6, sF_v]; exact TI.e (n := ((μ3.1 16 6).toInt + 1)) (TI.add TI.rf (TI.lit (by decide)) (by omega) (by omega))
    have hr_μ6 : μ6.2.2 = μ.2.2 := (by rw [e_μ6]; rfl : μ6.2.2 = μ3.2.2).trans hr_μ3
    try rw [hr_μ6]
    exact ok_some ⟨hI_μ6, hF_μ6⟩

set_option maxHeartbeats 4000000 in
set_option maxRecDepth 100000 in
theorem k_X4_readName  (μ : Mem) (hI_μ : IX μ) : ok (p_X4_readName  μ) (fun q => IX q ∧ Fr [(0, 16, 2), (0, 16, 3), (0, 16, 6), (1, 17, 0)] true μ q) := by
  have lim1 : (-1 : Int32).toInt = -1 := by decide
  have li0 : (0 : Int32).toInt = 0 := by decide
  have li1 : (1 : Int32).toInt = 1 := by decide
  have hF_μ : Fr [(0, 16, 2), (0, 16, 3), (0, 16, 6), (1, 17, 0)] true μ μ := Fr.rf
  have hr_μ : μ.2.2 = μ.2.2 := rfl
  rw [p_X4_readName_eq]
  refine ok_bd (k_X4_isWell  μ hI_μ) ?_
  rintro r2 μ1 ⟨hq9, p_r2⟩
  obtain rfl : μ = μ1 := hq9
  dsimp only at p_r2
  have lo_r2 := ti_lo r2
  have hi_r2 := ti_hi r2
  refine ok_ite ?_ ?_
  · intro c3
    rw [ti_eq] at c3
    exact ok_some ⟨hI_μ, hF_μ⟩
  · intro c3
    rw [ti_eq] at c3
    refine ok_bd (k_X4_here  μ hI_μ) ?_
    rintro r5 μ4 hq9
    obtain rfl : μ = μ4 := hq9
    have lo_r5 := ti_lo r5
    have hi_r5 := ti_hi r5
    refine ok_ite ?_ ?_
    · intro c6
      rw [ti_eq] at c6
      have g7 := ti_lo (μ.1 16 2)
      have g7h := ti_hi (μ.1 16 2)
      refine ok_bw (k_X4_fail (μ.1 16 2) μ hI_μ) ?_
      rintro μ8 ⟨hI_μ8, hC_μ8⟩
      have hF_μ8 : Fr [(0, 16, 2), (0, 16, 3), (0, 16, 6), (1, 17, 0)] true μ μ8 := hF_μ.trans (hC_μ8.mono (by decide +kernel) (by decide))
      have hr_μ8 : μ8.2.2 = μ.2.2 := (hC_μ8.2 rfl : μ8.2.2 = μ.2.2).trans hr_μ
      try rw [hr_μ8]
      exact ok_some ⟨hI_μ8, hF_μ8⟩
    · intro c6
      rw [ti_eq] at c6
      refine ok_bd (k_X4_slotOf r5 μ hI_μ) ?_
      rintro r11 μ10 hq9
      obtain rfl : μ = μ10 := hq9
      have lo_r11 := ti_lo r11
      have hi_r11 := ti_hi r11
      refine ok_ite ?_ ?_
      · intro c12
        rw [ti_eq] at c12
        have g13 := ti_lo (μ.1 16 2)
        have g13h := ti_hi (μ.1 16 2)
        refine ok_bv (fun μ14 e_μ14 => ?_)
        have hI_μ14 : IX μ14 := by rw [e_μ14]; exact IX_F hI_μ (rt_16_2 _)
        have hF_μ14 : Fr [(0, 16, 2), (0, 16, 3), (0, 16, 6), (1, 17, 0)] true μ μ14 := by rw [e_μ14]; exact Fr.put hF_μ (by decide +kernel)
        have hr_μ14 : μ14.2.2 = μ.2.2 := (by rw [e_μ14]; rfl : μ14.2.2 = μ.2.2).trans hr_μ
        try rw [hr_μ14]
        refine ok_bw (k_X4_nameOne r5 μ14 hI_μ14) ?_
        rintro μ15 ⟨hI_μ15, hC_μ15⟩
        have hF_μ15 : Fr [(0, 16, 2), (0, 16, 3), (0, 16, 6), (1, 17, 0)] true μ μ15 := hF_μ14.trans (hC_μ15.mono (by decide +kernel) (by decide))
        have hr_μ15 : μ15.2.2 = μ.2.2 := (hC_μ15.2 rfl : μ15.2.2 = μ14.2.2).trans hr_μ14
        try rw [hr_μ15]
        exact ok_some ⟨hI_μ15, hF_μ15⟩
      · intro c12
        rw [ti_eq] at c12
        have g17 := ti_lo (μ.1 16 2)
        have g17h := ti_hi (μ.1 16 2)
        refine ok_bw (k_X4_fail (μ.1 16 2) μ hI_μ) ?_
        rintro μ18 ⟨hI_μ18, hC_μ18⟩
        have hF_μ18 : Fr [(0, 16, 2), (0, 16, 3), (0, 16, 6), (1, 17, 0)] true μ μ18 := hF_μ.trans (hC_μ18.mono (by decide +kernel) (by decide))
        have hr_μ18 : μ18.2.2 = μ.2.2 := (hC_μ18.2 rfl : μ18.2.2 = μ.2.2).trans hr_μ
        try rw [hr_μ18]
        exact ok_some ⟨hI_μ18, hF_μ18⟩

set_option maxHeartbeats 4000000 in
set_option maxRecDepth 100000 in
theorem k_X4_readNames_b16 : ∀ (n : Nat) (a1 : Int32) (μ : Mem), IX μ → (1 ≤ (a1).toInt ∧ (a1).toInt ≤ 5 ∧ 5 - (a1).toInt < n) → ok (p_X4_readNames_b16 n a1 μ) (fun q => IX q ∧ Fr [(0, 16, 2), (0, 16, 3), (0, 16, 6), (1, 17, 0)] true μ q) := by
  have li0 : (0 : Int32).toInt = 0 := by decide
  have li1 : (1 : Int32).toInt = 1 := by decide
  have li5 : (5 : Int32).toInt = 5 := by decide
  have li44 : (44 : Int32).toInt = 44 := by decide
  intro n
  induction n with
  | zero => intro a1 μ hI_μ hc; exact absurd hc (by have lo_a1 := ti_lo a1; have hi_a1 := ti_hi a1; omega)
  | succ n ih =>
    intro a1 μ hI_μ hc
    have hF_μ : Fr [(0, 16, 2), (0, 16, 3), (0, 16, 6), (1, 17, 0)] true μ μ := Fr.rf
    have hr_μ : μ.2.2 = μ.2.2 := rfl
    rw [p_X4_readNames_b16_s]
    have lo_a1 := ti_lo a1
    have hi_a1 := ti_hi a1
    refine ok_ite ?_ ?_
    · intro c6
      rw [ti_le] at c6
      exact ok_some ⟨hI_μ, hF_μ⟩
    · intro c6
      rw [ti_le] at c6
      refine ok_bd (k_X4_isWell  μ hI_μ) ?_
      rintro r8 μ7 ⟨hq9, p_r8⟩
      obtain rfl : μ = μ7 := hq9
      dsimp only at p_r8
      have lo_r8 := ti_lo r8
      have hi_r8 := ti_hi r8
      refine ok_ite ?_ ?_
      · intro c9
        rw [ti_eq] at c9
        exact ok_some ⟨hI_μ, hF_μ⟩
      · intro c9
        rw [ti_eq] at c9
        refine ok_bd (k_X4_here  μ hI_μ) ?_
        rintro r11 μ10 hq9
        obtain rfl : μ = μ10 := hq9
        have lo_r11 := ti_lo r11
        have hi_r11 := ti_hi r11
        refine ok_ite ?_ ?_
        · intro c12
          rw [ti_eq] at c12
          have g13 := ti_lo (μ.1 16 2)
          have g13h := ti_hi (μ.1 16 2)
          refine ok_bv (fun μ14 e_μ14 => ?_)
          have hI_μ14 : IX μ14 := by rw [e_μ14]; exact IX_F hI_μ (rt_16_2 _)
          have hF_μ14 : Fr [(0, 16, 2), (0, 16, 3), (0, 16, 6), (1, 17, 0)] true μ μ14 := by rw [e_μ14]; exact Fr.put hF_μ (by decide +kernel)
          have hr_μ14 : μ14.2.2 = μ.2.2 := (by rw [e_μ14]; rfl : μ14.2.2 = μ.2.2).trans hr_μ
          try rw [hr_μ14]
          refine ok_bw (k_X4_readName  μ14 hI_μ14) ?_
          rintro μ15 ⟨hI_μ15, hC_μ15⟩
          have hF_μ15 : Fr [(0, 16, 2), (0, 16, 3), (0, 16, 6), (1, 17, 0)] true μ μ15 := hF_μ14.trans (hC_μ15.mono (by decide +kernel) (by decide))
          have hr_μ15 : μ15.2.2 = μ.2.2 := (hC_μ15.2 rfl : μ15.2.2 = μ14.2.2).trans hr_μ14
          try rw [hr_μ15]
          refine ok_bv (fun v17 ev17 => ?_)
          first | have tv17 : v17.toInt = (a1.toInt + 1) := (congrArg Int32.toInt ev17).trans (TI.e (n := (a1.toInt + 1)) (TI.add TI.rf (TI.lit (by decide)) (by omega) (by omega))) | have tv17 : v17.toInt ≤ a1.toInt + 1 := by rw [ev17]; exact ti_inc _ | skip
          exact ok_mono (ih v17 μ15 hI_μ15 (by (try rw [hr_μ15]); omega)) (fun q h => ⟨h.1, hF_μ15.trans h.2⟩)
        · intro c12
          rw [ti_eq] at c12
          exact ok_some ⟨hI_μ, hF_μ⟩
set_option maxHeartbeats 4000000 in
set_option maxRecDepth 100000 in
theorem k_X4_readNames  (μ : Mem) (hI_μ : IX μ) : ok (p_X4_readNames  μ) (fun q => IX q ∧ Fr [(0, 16, 2), (0, 16, 3), (0, 16, 6), (1, 17, 0)] true μ q) := by
  have li0 : (0 : Int32).toInt = 0 := by decide
  have li1 : (1 : Int32).toInt = 1 := by decide
  have li41 : (41 : Int32).toInt = 41 := by decide
  have hF_μ : Fr [(0, 16, 2), (0, 16, 3), (0, 16, 6), (1, 17, 0)] true μ μ := Fr.rf
  have hr_μ : μ.2.2 = μ.2.2 := rfl
  rw [p_X4_readNames_eq]
  refine ok_bd (k_X4_here  μ hI_μ) ?_
  rintro r2 μ1 hq9
  obtain rfl : μ = μ1 := hq9
  have lo_r2 := ti_lo r2
  have hi_r2 := ti_hi r2
  refine ok_ite ?_ ?_
  · intro c3
    rw [ti_eq] at c3
    exact ok_some ⟨hI_μ, hF_μ⟩
  · intro c3
    rw [ti_eq] at c3
    refine ok_bw (k_X4_readName  μ hI_μ) ?_
    rintro μ4 ⟨hI_μ4, hC_μ4⟩
    have hF_μ4 : Fr [(0, 16, 2), (0, 16, 3), (0, 16, 6), (1, 17, 0)] true μ μ4 := hF_μ.trans (hC_μ4.mono (by decide +kernel) (by decide))
    have hr_μ4 : μ4.2.2 = μ.2.2 := (hC_μ4.2 rfl : μ4.2.2 = μ.2.2).trans hr_μ
    try rw [hr_μ4]
    obtain ⟨fu, hfu0, hfu⟩ := fuel_ex
    rw [hfu0]
    exact ok_mono (k_X4_readNames_b16  fu (1 : Int32) μ4 hI_μ4 (by (try rw [hr_μ4]); omega)) (fun q h => ⟨h.1, hF_μ4.trans h.2⟩)

set_option maxHeartbeats 4000000 in
set_option maxRecDepth 100000 in
theorem k_X3_startOf (a0 : Nat) (q0 : sh 0 a0 = (0, 2)) (a1 : Int32) (μ : Mem) (hI_μ : IX μ) : ok (p_X3_startOf a0 a1 μ) (fun q => μ = q.2) := by
  have lim1 : (-1 : Int32).toInt = -1 := by decide
  have li0 : (0 : Int32).toInt = 0 := by decide
  have li1 : (1 : Int32).toInt = 1 := by decide
  have li72 : (72 : Int32).toInt = 72 := by decide
  have hF_μ : Fr [] true μ μ := Fr.rf
  have hr_μ : μ.2.2 = μ.2.2 := rfl
  rw [p_X3_startOf_eq]
  have lo_a1 := ti_lo a1
  have hi_a1 := ti_hi a1
  refine ok_ite ?_ ?_
  · intro c1
    rw [ti_lt] at c1
    exact ok_some rfl
  · intro c1
    rw [ti_lt] at c1
    refine ok_ite ?_ ?_
    · intro c2
      rw [ti_le] at c2
      exact ok_some rfl
    · intro c2
      rw [ti_le] at c2
      refine ok_gd (inb_iff.mpr (by omega)) ?_
      refine ok_ite ?_ ?_
      · intro c3
        rw [ti_lt] at c3
        exact ok_some rfl
      · intro c3
        rw [ti_lt] at c3
        refine ok_gd (inb_iff.mpr (by omega)) ?_
        have g4 := rgc_2_0 q0 hI_μ
        refine ok_ite ?_ ?_
        · intro c5
          rw [ti_lt] at c5
          refine ok_gd (inb_iff.mpr (by omega)) ?_
          refine ok_gd (inb_iff.mpr (by omega)) ?_
          exact ok_some rfl
        · intro c5
          rw [ti_lt] at c5
          exact ok_some rfl

set_option maxHeartbeats 4000000 in
set_option maxRecDepth 100000 in
theorem k_X3_begin_b22 : ∀ (n : Nat) (a0 : Nat) (q0 : sh 0 a0 = (0, 2)) (a1 : Int32) (a2 : Int32) (μ : Mem), IX μ → (0 ≤ (a2).toInt ∧ (a2).toInt ≤ 6 ∧ 0 ≤ (a1).toInt ∧ (a1).toInt < 72 ∧ (μ.1 a0 0).toInt < 72 ∧ 6 - (a2).toInt < n) → ok (p_X3_begin_b22 n a0 a1 a2 μ) (fun q => IX q ∧ Fr [(2, 2, 0), (3, 2, 1), (3, 2, 2), (3, 2, 3)] true μ q) := by
  have li0 : (0 : Int32).toInt = 0 := by decide
  have li1 : (1 : Int32).toInt = 1 := by decide
  have li6 : (6 : Int32).toInt = 6 := by decide
  intro n
  induction n with
  | zero => intro a0 q0 a1 a2 μ hI_μ hc; exact absurd hc (by have lo_a1 := ti_lo a1; have hi_a1 := ti_hi a1; have lo_a2 := ti_lo a2; have hi_a2 := ti_hi a2; omega)
  | succ n ih =>
    intro a0 q0 a1 a2 μ hI_μ hc
    have hF_μ : Fr [(2, 2, 0), (3, 2, 1), (3, 2, 2), (3, 2, 3)] true μ μ := Fr.rf
    have hr_μ : μ.2.2 = μ.2.2 := rfl
    rw [p_X3_begin_b22_s]
    have lo_a1 := ti_lo a1
    have hi_a1 := ti_hi a1
    have lo_a2 := ti_lo a2
    have hi_a2 := ti_hi a2
    have g5 := rgc_2_0 q0 hI_μ
    refine ok_ite ?_ ?_
    · intro c6
      rw [ti_le] at c6
      refine ok_gd (inb_iff.mpr (by (try rw [TI.e (e := ((μ.1 a0 0) * (6 : Int32))) (n := ((μ.1 a0 0).toInt * 6)) (TI.mul TI.rf (TI.lit (by decide)) (by omega) (by omega))]); omega)) ?_
      refine ok_bv (fun μ7 e_μ7 => ?_)
      have hI_μ7 : IX μ7 := by rw [e_μ7]; exact IX_F hI_μ (rtr_2_1 q0 _ _)
      have hF_μ7 : Fr [(2, 2, 0), (3, 2, 1), (3, 2, 2), (3, 2, 3)] true μ μ7 := by rw [e_μ7]; exact Fr.putr (ci := 2) (off := 1) hF_μ (by decide +kernel) q0
      have hr_μ7 : μ7.2.2 = μ.2.2 := (by rw [e_μ7]; rfl : μ7.2.2 = μ.2.2).trans hr_μ
      have g8 := rgc_2_0 q0 hI_μ7
      have f9 : (μ7.1 a0 0).toInt = (μ.1 a0 0).toInt := congrArg Int32.toInt ((by rw [e_μ7]; exact sF_i (ne_sh q0 (rl_X3_3 q0) (by simp)) : μ7.1 a0 0 = μ.1 a0 0))
      refine ok_gd (inb_iff.mpr (by (try rw [TI.e (e := (((μ7.1 a0 0) * (6 : Int32)) + (1 : Int32))) (n := (((μ7.1 a0 0).toInt * 6) + 1)) (TI.add (TI.mul TI.rf (TI.lit (by decide)) (by omega) (by omega)) (TI.lit (by decide)) (by omega) (by omega))]); omega)) ?_
      refine ok_bv (fun μ10 e_μ10 => ?_)
      have hI_μ10 : IX μ10 := by rw [e_μ10]; exact IX_F hI_μ7 (rtr_2_1 q0 _ _)
      have hF_μ10 : Fr [(2, 2, 0), (3, 2, 1), (3, 2, 2), (3, 2, 3)] true μ μ10 := by rw [e_μ10]; exact Fr.putr (ci := 2) (off := 1) hF_μ7 (by decide +kernel) q0
      have hr_μ10 : μ10.2.2 = μ.2.2 := (by rw [e_μ10]; rfl : μ10.2.2 = μ7.2.2).trans hr_μ7
      have g11 := rgc_2_0 q0 hI_μ10
      have f12 : (μ10.1 a0 0).toInt = (μ7.1 a0 0).toInt := congrArg Int32.toInt ((by rw [e_μ10]; exact sF_i (ne_sh q0 (rl_X3_3 q0) (by simp)) : μ10.1 a0 0 = μ7.1 a0 0))
      have g13 := rgc_2_2 q0 hI_μ10
      refine ok_gd (inb_iff.mpr (by omega)) ?_
      refine ok_bv (fun μ14 e_μ14 => ?_)
      have hI_μ14 : IX μ14 := by rw [e_μ14]; exact IX_F hI_μ10 (rtr_2_2 q0 _ _)
      have hF_μ14 : Fr [(2, 2, 0), (3, 2, 1), (3, 2, 2), (3, 2, 3)] true μ μ14 := by rw [e_μ14]; exact Fr.putr (ci := 2) (off := 2) hF_μ10 (by decide +kernel) q0
      have hr_μ14 : μ14.2.2 = μ.2.2 := (by rw [e_μ14]; rfl : μ14.2.2 = μ10.2.2).trans hr_μ10
      have g15 := rgc_2_0 q0 hI_μ14
      have f16 : (μ14.1 a0 0).toInt = (μ10.1 a0 0).toInt := congrArg Int32.toInt ((by rw [e_μ14]; exact sF_i (ne_sh q0 (rl_X3_4 q0) (by simp)) : μ14.1 a0 0 = μ10.1 a0 0))
      refine ok_gd (inb_iff.mpr (by omega)) ?_
      refine ok_bv (fun μ17 e_μ17 => ?_)
      have hI_μ17 : IX μ17 := by rw [e_μ17]; exact IX_F hI_μ14 (rtr_2_3 q0 _ _)
      have hF_μ17 : Fr [(2, 2, 0), (3, 2, 1), (3, 2, 2), (3, 2, 3)] true μ μ17 := by rw [e_μ17]; exact Fr.putr (ci := 2) (off := 3) hF_μ14 (by decide +kernel) q0
      have hr_μ17 : μ17.2.2 = μ.2.2 := (by rw [e_μ17]; rfl : μ17.2.2 = μ14.2.2).trans hr_μ14
      have g18 := rgc_2_0 q0 hI_μ17
      have f19 : (μ17.1 a0 0).toInt = (μ14.1 a0 0).toInt := congrArg Int32.toInt ((by rw [e_μ17]; exact sF_i (ne_sh q0 (rl_X3_5 q0) (by simp)) : μ17.1 a0 0 = μ14.1 a0 0))
      refine ok_bv (fun μ20 e_μ20 => ?_)
      have hI_μ20 : IX μ20 := by rw [e_μ20]; exact IX_F hI_μ17 (rpc_2_0 q0 (by (try rw [TI.e (e := ((μ17.1 a0 0) + (1 : Int32))) (n := ((μ17.1 a0 0).toInt + 1)) (TI.add TI.rf (TI.lit (by decide)) (by omega) (by omega))]); omega))
      have hF_μ20 : Fr [(2, 2, 0), (3, 2, 1), (3, 2, 2), (3, 2, 3)] true μ μ20 := by rw [e_μ20]; exact Fr.putc (ci := 2) hF_μ17 (by decide +kernel) q0
      have v_μ20 : (μ20.1 a0 0).toInt = ((μ17.1 a0 0).toInt + 1) := by rw [e_μ20, sF_v]; exact TI.e (n := ((μ17.1 a0 0).toInt + 1)) (TI.add TI.rf (TI.lit (by decide)) (by omega) (by omega))
      have hr_μ20 : μ20.2.2 = μ.2.2 := (by rw [e_μ20]; rfl : μ20.2.2 = μ17.2.2).trans hr_μ17
      exact ok_some ⟨hI_μ20, hF_μ20⟩
    · intro c6
      rw [ti_le] at c6
      refine ok_gd (inb_iff.mpr (by (try rw [TI.e (e := (((μ.1 a0 0) * (6 : Int32)) + a2)) (n := (((μ.1 a0 0).toInt * 6) + a2.toInt)) (TI.add (TI.mul TI.rf (TI.lit (by decide)) (by omega) (by omega)) TI.rf (by omega) (by omega))]); omega)) ?_
      refine ok_bv (fun μ21 e_μ21 => ?_)
      have hI_μ21 : IX μ21 := by rw [e_μ21]; exact IX_F hI_μ (rtr_2_1 q0 _ _)
      have hF_μ21 : Fr [(2, 2, 0), (3, 2, 1), (3, 2, 2), (3, 2, 3)] true μ μ21 := by rw [e_μ21]; exact Fr.putr (ci := 2) (off := 1) hF_μ (by decide +kernel) q0
      have hr_μ21 : μ21.2.2 = μ.2.2 := (by rw [e_μ21]; rfl : μ21.2.2 = μ.2.2).trans hr_μ
      refine ok_bv (fun v22 ev22 => ?_)
      first | have tv22 : v22.toInt = (a2.toInt + 1) := (congrArg Int32.toInt ev22).trans (TI.e (n := (a2.toInt + 1)) (TI.add TI.rf (TI.lit (by decide)) (by omega) (by omega))) | have tv22 : v22.toInt ≤ a2.toInt + 1 := by rw [ev22]; exact ti_inc _ | skip
      have g23 := rgc_2_0 q0 hI_μ21
      have f24 : (μ21.1 a0 0).toInt = (μ.1 a0 0).toInt := congrArg Int32.toInt ((by rw [e_μ21]; exact sF_i (ne_sh q0 (rl_X3_3 q0) (by simp)) : μ21.1 a0 0 = μ.1 a0 0))
      exact ok_mono (ih a0 q0 a1 v22 μ21 hI_μ21 (by (try rw [hr_μ21]); omega)) (fun q h => ⟨h.1, hF_μ21.trans h.2⟩)
set_option maxHeartbeats 4000000 in
set_option maxRecDepth 100000 in
theorem k_X3_begin (a0 : Nat) (q0 : sh 0 a0 = (0, 2)) (a1 : Int32) (μ : Mem) (hI_μ : IX μ) : ok (p_X3_begin a0 a1 μ) (fun q => IX q ∧ Fr [(2, 2, 0), (3, 2, 1), (3, 2, 2), (3, 2, 3)] true μ q) := by
  have li0 : (0 : Int32).toInt = 0 := by decide
  have li1 : (1 : Int32).toInt = 1 := by decide
  have li72 : (72 : Int32).toInt = 72 := by decide
  have hF_μ : Fr [(2, 2, 0), (3, 2, 1), (3, 2, 2), (3, 2, 3)] true μ μ := Fr.rf
  have hr_μ : μ.2.2 = μ.2.2 := rfl
  rw [p_X3_begin_eq]
  have lo_a1 := ti_lo a1
  have hi_a1 := ti_hi a1
  refine ok_ite ?_ ?_
  · intro c1
    rw [ti_lt] at c1
    exact ok_some ⟨hI_μ, hF_μ⟩
  · intro c1
    rw [ti_lt] at c1
    refine ok_ite ?_ ?_
    · intro c2
      rw [ti_le] at c2
      exact ok_some ⟨hI_μ, hF_μ⟩
    · intro c2
      rw [ti_le] at c2
      have g3 := rgc_2_0 q0 hI_μ
      refine ok_ite ?_ ?_
      · intro c4
        rw [ti_lt] at c4
        obtain ⟨fu, hfu0, hfu⟩ := fuel_ex
        rw [hfu0]
        exact ok_mono (k_X3_begin_b22  fu a0 q0 a1 (0 : Int32) μ hI_μ (by omega)) (fun q h => ⟨h.1, hF_μ.trans h.2⟩)
      · intro c4
        rw [ti_lt] at c4
        exact ok_some ⟨hI_μ, hF_μ⟩
