set_option maxHeartbeats 4000000 in
set_option maxRecDepth 100000 in
theorem k_X10_setLimit_b46 (a1 : Int32) (a2 : Int32) (μ : Mem) (hI_μ : IX μ) : ok (p_X10_setLimit_b46 a1 a2 μ) (fun q => IX q.2 ∧ Fr [(0, 137, 0), (0, 137, 1), (0, 137, 2)] true μ q.2 ∧ ((q.1).toInt = 0 ∨ (q.1).toInt = 1)) := by
  have li0 : (0 : Int32).toInt = 0 := by decide
  have li1 : (1 : Int32).toInt = 1 := by decide
  have li2 : (2 : Int32).toInt = 2 := by decide
  have li10 : (10 : Int32).toInt = 10 := by decide
  have li300 : (300 : Int32).toInt = 300 := by decide
  have hF_μ : Fr [(0, 137, 0), (0, 137, 1), (0, 137, 2)] true μ μ := Fr.rf
  have hr_μ : μ.2.2 = μ.2.2 := rfl
  rw [p_X10_setLimit_b46_eq]
  have lo_a1 := ti_lo a1
  have hi_a1 := ti_hi a1
  have lo_a2 := ti_lo a2
  have hi_a2 := ti_hi a2
  refine ok_ite ?_ ?_
  · intro c5
    rw [ti_eq] at c5
    refine ok_ite ?_ ?_
    · intro c6
      rw [ti_lt] at c6
      exact ok_some ⟨hI_μ, hF_μ, by dsimp only; (try simp only [hr_μ]); omega⟩
    · intro c6
      rw [ti_lt] at c6
      refine ok_ite ?_ ?_
      · intro c7
        rw [ti_lt] at c7
        exact ok_some ⟨hI_μ, hF_μ, by dsimp only; (try simp only [hr_μ]); omega⟩
      · intro c7
        rw [ti_lt] at c7
        refine ok_bv (fun μ8 e_μ8 => ?_)
        have hI_μ8 : IX μ8 := by rw [e_μ8]; exact IX_F hI_μ (rt_137_2 _)
        have hF_μ8 : Fr [(0, 137, 0), (0, 137, 1), (0, 137, 2)] true μ μ8 := by rw [e_μ8]; exact Fr.put hF_μ (by decide +kernel)
        have v_μ8 : (μ8.1 137 2).toInt = a2.toInt := by rw [e_μ8, sF_v]
        have hr_μ8 : μ8.2.2 = μ.2.2 := (by rw [e_μ8]; rfl : μ8.2.2 = μ.2.2).trans hr_μ
        try rw [hr_μ8]
        exact ok_some ⟨hI_μ8, hF_μ8, by dsimp only; (try simp only [hr_μ8]); omega⟩
  · intro c5
    rw [ti_eq] at c5
    exact ok_some ⟨hI_μ, hF_μ, by dsimp only; (try simp only [hr_μ]); omega⟩
set_option maxHeartbeats 4000000 in
set_option maxRecDepth 100000 in
theorem k_X10_setLimit_b22 (a1 : Int32) (a2 : Int32) (μ : Mem) (hI_μ : IX μ) : ok (p_X10_setLimit_b22 a1 a2 μ) (fun q => IX q.2 ∧ Fr [(0, 137, 0), (0, 137, 1), (0, 137, 2)] true μ q.2 ∧ ((q.1).toInt = 0 ∨ (q.1).toInt = 1)) := by
  have li0 : (0 : Int32).toInt = 0 := by decide
  have li1 : (1 : Int32).toInt = 1 := by decide
  have li6 : (6 : Int32).toInt = 6 := by decide
  have hF_μ : Fr [(0, 137, 0), (0, 137, 1), (0, 137, 2)] true μ μ := Fr.rf
  have hr_μ : μ.2.2 = μ.2.2 := rfl
  rw [p_X10_setLimit_b22_eq]
  have lo_a1 := ti_lo a1
  have hi_a1 := ti_hi a1
  have lo_a2 := ti_lo a2
  have hi_a2 := ti_hi a2
  refine ok_ite ?_ ?_
  · intro c3
    rw [ti_eq] at c3
    refine ok_ite ?_ ?_
    · intro c4
      rw [ti_lt] at c4
      exact ok_mono (k_X10_setLimit_b46  a1 a2 μ hI_μ) (fun q h => ⟨h.1, hF_μ.trans h.2.1, h.2.2⟩)
    · intro c4
      rw [ti_lt] at c4
      refine ok_ite ?_ ?_
      · intro c9
        rw [ti_lt] at c9
        exact ok_mono (k_X10_setLimit_b46  a1 a2 μ hI_μ) (fun q h => ⟨h.1, hF_μ.trans h.2.1, h.2.2⟩)
      · intro c9
        rw [ti_lt] at c9
        refine ok_bv (fun μ10 e_μ10 => ?_)
        have hI_μ10 : IX μ10 := by rw [e_μ10]; exact IX_F hI_μ (rt_137_1 _)
        have hF_μ10 : Fr [(0, 137, 0), (0, 137, 1), (0, 137, 2)] true μ μ10 := by rw [e_μ10]; exact Fr.put hF_μ (by decide +kernel)
        have v_μ10 : (μ10.1 137 1).toInt = a2.toInt := by rw [e_μ10, sF_v]
        have hr_μ10 : μ10.2.2 = μ.2.2 := (by rw [e_μ10]; rfl : μ10.2.2 = μ.2.2).trans hr_μ
        try rw [hr_μ10]
        exact ok_some ⟨hI_μ10, hF_μ10, by dsimp only; (try simp only [hr_μ10]); omega⟩
  · intro c3
    rw [ti_eq] at c3
    exact ok_mono (k_X10_setLimit_b46  a1 a2 μ hI_μ) (fun q h => ⟨h.1, hF_μ.trans h.2.1, h.2.2⟩)
set_option maxHeartbeats 4000000 in
set_option maxRecDepth 100000 in
theorem k_X10_setLimit (a1 : Int32) (a2 : Int32) (μ : Mem) (hI_μ : IX μ) : ok (p_X10_setLimit a1 a2 μ) (fun q => IX q.2 ∧ Fr [(0, 137, 0), (0, 137, 1), (0, 137, 2)] true μ q.2 ∧ ((q.1).toInt = 0 ∨ (q.1).toInt = 1)) := by
  have li0 : (0 : Int32).toInt = 0 := by decide
  have li1 : (1 : Int32).toInt = 1 := by decide
  have li12 : (12 : Int32).toInt = 12 := by decide
  have hF_μ : Fr [(0, 137, 0), (0, 137, 1), (0, 137, 2)] true μ μ := Fr.rf
  have hr_μ : μ.2.2 = μ.2.2 := rfl
  rw [p_X10_setLimit_eq]
  have lo_a1 := ti_lo a1
  have hi_a1 := ti_hi a1
  have lo_a2 := ti_lo a2
  have hi_a2 := ti_hi a2
  refine ok_ite ?_ ?_
  · intro c1
    rw [ti_eq] at c1
    refine ok_ite ?_ ?_
    · intro c2
      rw [ti_lt] at c2
      exact ok_mono (k_X10_setLimit_b22  a1 a2 μ hI_μ) (fun q h => ⟨h.1, hF_μ.trans h.2.1, h.2.2⟩)
    · intro c2
      rw [ti_lt] at c2
      refine ok_ite ?_ ?_
      · intro c11
        rw [ti_lt] at c11
        exact ok_mono (k_X10_setLimit_b22  a1 a2 μ hI_μ) (fun q h => ⟨h.1, hF_μ.trans h.2.1, h.2.2⟩)
      · intro c11
        rw [ti_lt] at c11
        refine ok_bv (fun μ12 e_μ12 => ?_)
        have hI_μ12 : IX μ12 := by rw [e_μ12]; exact IX_F hI_μ (rt_137_0 _)
        have hF_μ12 : Fr [(0, 137, 0), (0, 137, 1), (0, 137, 2)] true μ μ12 := by rw [e_μ12]; exact Fr.put hF_μ (by decide +kernel)
        have v_μ12 : (μ12.1 137 0).toInt = a2.toInt := by rw [e_μ12, sF_v]
        have hr_μ12 : μ12.2.2 = μ.2.2 := (by rw [e_μ12]; rfl : μ12.2.2 = μ.2.2).trans hr_μ
        try rw [hr_μ12]
        exact ok_some ⟨hI_μ12, hF_μ12, by dsimp only; (try simp only [hr_μ12]); omega⟩
  · intro c1
    rw [ti_eq] at c1
    exact ok_mono (k_X10_setLimit_b22  a1 a2 μ hI_μ) (fun q h => ⟨h.1, hF_μ.trans h.2.1, h.2.2⟩)

set_option maxHeartbeats 4000000 in
set_option maxRecDepth 100000 in
theorem k_X11_set (a1 : Int32) (a2 : Int32) (μ : Mem) (hI_μ : IX μ) : ok (p_X11_set a1 a2 μ) (fun q => IX q.2 ∧ Fr [(0, 39, 0), (0, 39, 1), (0, 39, 2), (0, 39, 3), (0, 39, 4), (0, 39, 5), (0, 39, 6), (0, 137, 0), (0, 137, 1), (0, 137, 2)] true μ q.2 ∧ ((q.1).toInt = 0 ∨ (q.1).toInt = 1)) := by
  have li0 : (0 : Int32).toInt = 0 := by decide
  have li1 : (1 : Int32).toInt = 1 := by decide
  have hF_μ : Fr [(0, 39, 0), (0, 39, 1), (0, 39, 2), (0, 39, 3), (0, 39, 4), (0, 39, 5), (0, 39, 6), (0, 137, 0), (0, 137, 1), (0, 137, 2)] true μ μ := Fr.rf
  have hr_μ : μ.2.2 = μ.2.2 := rfl
  rw [p_X11_set_eq]
  have lo_a1 := ti_lo a1
  have hi_a1 := ti_hi a1
  have lo_a2 := ti_lo a2
  have hi_a2 := ti_hi a2
  refine ok_bd (k_X10_setLimit a1 a2 μ hI_μ) ?_
  rintro r2 μ1 ⟨hI_μ1, hC_μ1, p_μ1⟩
  have hI_μ1 : IX μ1 := hI_μ1
  have hC_μ1 : Fr [(0, 137, 0), (0, 137, 1), (0, 137, 2)] true μ μ1 := hC_μ1
  dsimp only at p_μ1
  have lo_r2 := ti_lo r2
  have hi_r2 := ti_hi r2
  have hF_μ1 : Fr [(0, 39, 0), (0, 39, 1), (0, 39, 2), (0, 39, 3), (0, 39, 4), (0, 39, 5), (0, 39, 6), (0, 137, 0), (0, 137, 1), (0, 137, 2)] true μ μ1 := hF_μ.trans (hC_μ1.mono (by decide +kernel) (by decide))
  have hr_μ1 : μ1.2.2 = μ.2.2 := (hC_μ1.2 rfl : μ1.2.2 = μ.2.2).trans hr_μ
  try rw [hr_μ1]
  refine ok_ite ?_ ?_
  · intro c3
    rw [ti_eq] at c3
    exact ok_some ⟨hI_μ1, hF_μ1, by dsimp only; (try simp only [hr_μ1]); omega⟩
  · intro c3
    rw [ti_eq] at c3
    refine ok_bw (k_X5_clear  μ1 hI_μ1) ?_
    rintro μ4 ⟨hI_μ4, hC_μ4⟩
    have hF_μ4 : Fr [(0, 39, 0), (0, 39, 1), (0, 39, 2), (0, 39, 3), (0, 39, 4), (0, 39, 5), (0, 39, 6), (0, 137, 0), (0, 137, 1), (0, 137, 2)] true μ μ4 := hF_μ1.trans (hC_μ4.mono (by decide +kernel) (by decide))
    have hr_μ4 : μ4.2.2 = μ.2.2 := (hC_μ4.2 rfl : μ4.2.2 = μ1.2.2).trans hr_μ1
    try rw [hr_μ4]
    exact ok_some ⟨hI_μ4, hF_μ4, by dsimp only; (try simp only [hr_μ4]); omega⟩

set_option maxHeartbeats 4000000 in
set_option maxRecDepth 100000 in
theorem k_X11_is (a1 : Int32) (μ : Mem) (hI_μ : IX μ) : ok (p_X11_is a1 μ) (fun q => IX q.2 ∧ Fr [] true μ q.2) := by
  have lim1 : (-1 : Int32).toInt = -1 := by decide
  have li0 : (0 : Int32).toInt = 0 := by decide
  have li1 : (1 : Int32).toInt = 1 := by decide
  have li2 : (2 : Int32).toInt = 2 := by decide
  have li3 : (3 : Int32).toInt = 3 := by decide
  have li4 : (4 : Int32).toInt = 4 := by decide
  have li5 : (5 : Int32).toInt = 5 := by decide
  have li6 : (6 : Int32).toInt = 6 := by decide
  have li7 : (7 : Int32).toInt = 7 := by decide
  have hF_μ : Fr [] true μ μ := Fr.rf
  have hr_μ : μ.2.2 = μ.2.2 := rfl
  rw [p_X11_is_eq]
  have lo_a1 := ti_lo a1
  have hi_a1 := ti_hi a1
  refine ok_ite ?_ ?_
  · intro c2
    rw [ti_eq] at c2
    have g3 := rgc_2_0 (sel_2 (μ.2.2 0 4)) hI_μ
    exact ok_some ⟨hI_μ, hF_μ⟩
  intro c2
  rw [ti_eq] at c2
  refine ok_ite ?_ ?_
  · intro c4
    rw [ti_eq] at c4
    refine ok_bd (k_X2_stars (sel 1 (μ.2.2 0 6)) (sel_1 _) μ hI_μ) ?_
    rintro r6 μ5 ⟨hI_μ5, hC_μ5⟩
    have hI_μ5 : IX μ5 := hI_μ5
    have hC_μ5 : Fr [] true μ μ5 := hC_μ5
    have lo_r6 := ti_lo r6
    have hi_r6 := ti_hi r6
    have hF_μ5 : Fr [] true μ μ5 := hF_μ.trans (hC_μ5.mono (by decide +kernel) (by decide))
    have hr_μ5 : μ5.2.2 = μ.2.2 := (hC_μ5.2 rfl : μ5.2.2 = μ.2.2).trans hr_μ
    try rw [hr_μ5]
    exact ok_some ⟨hI_μ5, hF_μ5⟩
  intro c4
  rw [ti_eq] at c4
  refine ok_ite ?_ ?_
  · intro c7
    rw [ti_eq] at c7
    have g8 := ti_lo (μ.1 0 10)
    have g8h := ti_hi (μ.1 0 10)
    refine ok_ite ?_ ?_
    · intro c9
      rw [ti_eq] at c9
      exact ok_some ⟨hI_μ, hF_μ⟩
    · intro c9
      rw [ti_eq] at c9
      refine ok_bd (k_X2_stars (sel 1 (μ.2.2 0 6)) (sel_1 _) μ hI_μ) ?_
      rintro r11 μ10 ⟨hI_μ10, hC_μ10⟩
      have hI_μ10 : IX μ10 := hI_μ10
      have hC_μ10 : Fr [] true μ μ10 := hC_μ10
      have lo_r11 := ti_lo r11
      have hi_r11 := ti_hi r11
      have hF_μ10 : Fr [] true μ μ10 := hF_μ.trans (hC_μ10.mono (by decide +kernel) (by decide))
      have hr_μ10 : μ10.2.2 = μ.2.2 := (hC_μ10.2 rfl : μ10.2.2 = μ.2.2).trans hr_μ
      try rw [hr_μ10]
      exact ok_some ⟨hI_μ10, hF_μ10⟩
  intro c7
  rw [ti_eq] at c7
  refine ok_ite ?_ ?_
  · intro c12
    rw [ti_eq] at c12
    have g13 := ti_lo (μ.1 137 0)
    have g13h := ti_hi (μ.1 137 0)
    exact ok_some ⟨hI_μ, hF_μ⟩
  intro c12
  rw [ti_eq] at c12
  refine ok_ite ?_ ?_
  · intro c14
    rw [ti_eq] at c14
    have g15 := ti_lo (μ.1 137 1)
    have g15h := ti_hi (μ.1 137 1)
    exact ok_some ⟨hI_μ, hF_μ⟩
  intro c14
  rw [ti_eq] at c14
  refine ok_ite ?_ ?_
  · intro c16
    rw [ti_eq] at c16
    have g17 := ti_lo (μ.1 137 2)
    have g17h := ti_hi (μ.1 137 2)
    exact ok_some ⟨hI_μ, hF_μ⟩
  intro c16
  rw [ti_eq] at c16
  refine ok_ite ?_ ?_
  · intro c18
    rw [ti_eq] at c18
    have g19 := rg_0_1 hI_μ
    exact ok_some ⟨hI_μ, hF_μ⟩
  intro c18
  rw [ti_eq] at c18
  refine ok_ite ?_ ?_
  · intro c20
    rw [ti_eq] at c20
    have g21 := ti_lo (μ.1 (sel 2 (μ.2.2 0 4)) 1)
    have g21h := ti_hi (μ.1 (sel 2 (μ.2.2 0 4)) 1)
    exact ok_some ⟨hI_μ, hF_μ⟩
  intro c20
  rw [ti_eq] at c20
  exact ok_some ⟨hI_μ, hF_μ⟩

set_option maxHeartbeats 4000000 in
set_option maxRecDepth 100000 in
theorem k_X3_about (a0 : Nat) (q0 : sh 0 a0 = (0, 2)) (a1 : Int32) (a2 : Int32) (μ : Mem) (hI_μ : IX μ) : ok (p_X3_about a0 a1 a2 μ) (fun q => IX q.2 ∧ Fr [] true μ q.2) := by
  have lim1 : (-1 : Int32).toInt = -1 := by decide
  have li0 : (0 : Int32).toInt = 0 := by decide
  have li1 : (1 : Int32).toInt = 1 := by decide
  have li6 : (6 : Int32).toInt = 6 := by decide
  have hF_μ : Fr [] true μ μ := Fr.rf
  have hr_μ : μ.2.2 = μ.2.2 := rfl
  rw [p_X3_about_eq]
  have lo_a1 := ti_lo a1
  have hi_a1 := ti_hi a1
  have lo_a2 := ti_lo a2
  have hi_a2 := ti_hi a2
  refine ok_ite ?_ ?_
  · intro c1
    rw [ti_lt] at c1
    exact ok_some ⟨hI_μ, hF_μ⟩
  · intro c1
    rw [ti_lt] at c1
    have g2 := rgc_2_0 q0 hI_μ
    refine ok_ite ?_ ?_
    · intro c3
      rw [ti_le] at c3
      exact ok_some ⟨hI_μ, hF_μ⟩
    · intro c3
      rw [ti_le] at c3
      refine ok_ite ?_ ?_
      · intro c4
        rw [ti_lt] at c4
        exact ok_some ⟨hI_μ, hF_μ⟩
      · intro c4
        rw [ti_lt] at c4
        refine ok_ite ?_ ?_
        · intro c5
          rw [ti_lt] at c5
          refine ok_gd (inb_iff.mpr (by (try rw [TI.e (e := ((a1 * (6 : Int32)) + a2)) (n := ((a1.toInt * 6) + a2.toInt)) (TI.add (TI.mul TI.rf (TI.lit (by decide)) (by omega) (by omega)) TI.rf (by omega) (by omega))]); omega)) ?_
          exact ok_some ⟨hI_μ, hF_μ⟩
        · intro c5
          rw [ti_lt] at c5
          exact ok_some ⟨hI_μ, hF_μ⟩

set_option maxHeartbeats 4000000 in
set_option maxRecDepth 100000 in
theorem k_X11_function (a1 : Int32) (a2 : Int32) (μ : Mem) (hI_μ : IX μ) : ok (p_X11_function a1 a2 μ) (fun q => IX q.2 ∧ Fr [] true μ q.2) := by
  have li0 : (0 : Int32).toInt = 0 := by decide
  have li1 : (1 : Int32).toInt = 1 := by decide
  have hF_μ : Fr [] true μ μ := Fr.rf
  have hr_μ : μ.2.2 = μ.2.2 := rfl
  rw [p_X11_function_eq]
  have lo_a1 := ti_lo a1
  have hi_a1 := ti_hi a1
  have lo_a2 := ti_lo a2
  have hi_a2 := ti_hi a2
  refine ok_bd (k_X3_about (sel 2 (μ.2.2 0 4)) (sel_2 _) a1 a2 μ hI_μ) ?_
  rintro r2 μ1 ⟨hI_μ1, hC_μ1⟩
  have hI_μ1 : IX μ1 := hI_μ1
  have hC_μ1 : Fr [] true μ μ1 := hC_μ1
  have lo_r2 := ti_lo r2
  have hi_r2 := ti_hi r2
  have hF_μ1 : Fr [] true μ μ1 := hF_μ.trans (hC_μ1.mono (by decide +kernel) (by decide))
  have hr_μ1 : μ1.2.2 = μ.2.2 := (hC_μ1.2 rfl : μ1.2.2 = μ.2.2).trans hr_μ
  try rw [hr_μ1]
  exact ok_some ⟨hI_μ1, hF_μ1⟩

set_option maxHeartbeats 4000000 in
set_option maxRecDepth 100000 in
theorem k_X2_addParts_b3 : ∀ (n : Nat) (a0 : Nat) (q0 : sh 0 a0 = (0, 1)) (a1 : Nat) (q1 : sh 0 a1 = (0, 1)) (a3 : Int32) (a4 : Int32) (μ : Mem), IX μ → (0 ≤ (a4).toInt ∧ 2147483648 - (a4).toInt < n) → ok (p_X2_addParts_b3 n a0 a1 a3 a4 μ) (fun q => IX q ∧ Fr [(2, 1, 2)] true μ q) := by
  have li0 : (0 : Int32).toInt = 0 := by decide
  have li1 : (1 : Int32).toInt = 1 := by decide
  intro n
  induction n with
  | zero => intro a0 q0 a1 q1 a3 a4 μ hI_μ hc; exact absurd hc (by have lo_a3 := ti_lo a3; have hi_a3 := ti_hi a3; have lo_a4 := ti_lo a4; have hi_a4 := ti_hi a4; omega)
  | succ n ih =>
    intro a0 q0 a1 q1 a3 a4 μ hI_μ hc
    have hF_μ : Fr [(2, 1, 2)] true μ μ := Fr.rf
    have hr_μ : μ.2.2 = μ.2.2 := rfl
    rw [p_X2_addParts_b3_s]
    have lo_a3 := ti_lo a3
    have hi_a3 := ti_hi a3
    have lo_a4 := ti_lo a4
    have hi_a4 := ti_hi a4
    refine ok_ite ?_ ?_
    · intro c1
      rw [ti_le] at c1
      exact ok_some ⟨hI_μ, hF_μ⟩
    · intro c1
      rw [ti_le] at c1
      have g2 := rgp q1 hI_μ
      refine ok_ite ?_ ?_
      · intro c3
        rw [ti_le] at c3
        exact ok_some ⟨hI_μ, hF_μ⟩
      · intro c3
        rw [ti_le] at c3
        refine ok_gd (inb_iff.mpr (by omega)) ?_
        have l4 := pl_eq q1
        refine ok_gd (inb_iff.mpr (by omega)) ?_
        refine ok_bw (k_X2_add a0 q0 (μ.2.1 (a1 + 1) a4.toNatClampNeg) (μ.2.1 (a1 + 2) a4.toNatClampNeg) μ hI_μ) ?_
        rintro μ5 ⟨hI_μ5, hC_μ5⟩
        have hF_μ5 : Fr [(2, 1, 2)] true μ μ5 := hF_μ.trans (hC_μ5.mono (by decide +kernel) (by decide))
        have hr_μ5 : μ5.2.2 = μ.2.2 := (hC_μ5.2 rfl : μ5.2.2 = μ.2.2).trans hr_μ
        refine ok_bv (fun v7 ev7 => ?_)
        first | have tv7 : v7.toInt = (a4.toInt + 1) := (congrArg Int32.toInt ev7).trans (TI.e (n := (a4.toInt + 1)) (TI.add TI.rf (TI.lit (by decide)) (by omega) (by omega))) | have tv7 : v7.toInt ≤ a4.toInt + 1 := by rw [ev7]; exact ti_inc _ | skip
        exact ok_mono (ih a0 q0 a1 q1 a3 v7 μ5 hI_μ5 (by (try simp only [hr_μ5]); omega)) (fun q h => ⟨h.1, hF_μ5.trans h.2⟩)
set_option maxHeartbeats 4000000 in
set_option maxRecDepth 100000 in
theorem k_X2_addParts (a0 : Nat) (q0 : sh 0 a0 = (0, 1)) (a1 : Nat) (q1 : sh 0 a1 = (0, 1)) (a2 : Int32) (a3 : Int32) (μ : Mem) (hI_μ : IX μ) (hc : 0 ≤ (a2).toInt) : ok (p_X2_addParts a0 a1 a2 a3 μ) (fun q => IX q ∧ Fr [(2, 1, 2)] true μ q) := by
  have li0 : (0 : Int32).toInt = 0 := by decide
  have li1 : (1 : Int32).toInt = 1 := by decide
  have hF_μ : Fr [(2, 1, 2)] true μ μ := Fr.rf
  have hr_μ : μ.2.2 = μ.2.2 := rfl
  rw [p_X2_addParts_eq]
  have lo_a2 := ti_lo a2
  have hi_a2 := ti_hi a2
  have lo_a3 := ti_lo a3
  have hi_a3 := ti_hi a3
  obtain ⟨fu, hfu0, hfu⟩ := fuel_ex
  rw [hfu0]
  exact ok_mono (k_X2_addParts_b3  fu a0 q0 a1 q1 a3 a2 μ hI_μ (by omega)) (fun q h => ⟨h.1, hF_μ.trans h.2⟩)

set_option maxHeartbeats 4000000 in
set_option maxRecDepth 100000 in
theorem k_X2_copyFrom (a0 : Nat) (q0 : sh 0 a0 = (0, 1)) (a1 : Nat) (q1 : sh 0 a1 = (0, 1)) (μ : Mem) (hI_μ : IX μ) : ok (p_X2_copyFrom a0 a1 μ) (fun q => IX q ∧ Fr [(2, 1, 2), (2, 1, 3)] true μ q) := by
  have li0 : (0 : Int32).toInt = 0 := by decide
  have li1 : (1 : Int32).toInt = 1 := by decide
  have hF_μ : Fr [(2, 1, 2), (2, 1, 3)] true μ μ := Fr.rf
  have hr_μ : μ.2.2 = μ.2.2 := rfl
  rw [p_X2_copyFrom_eq]
  have g1 := ti_lo (μ.1 a1 3)
  have g1h := ti_hi (μ.1 a1 3)
  refine ok_bw (k_X2_begin a0 q0 (μ.1 a1 3) μ hI_μ) ?_
  rintro μ2 ⟨hI_μ2, hC_μ2⟩
  have hF_μ2 : Fr [(2, 1, 2), (2, 1, 3)] true μ μ2 := hF_μ.trans (hC_μ2.mono (by decide +kernel) (by decide))
  have hr_μ2 : μ2.2.2 = μ.2.2 := (hC_μ2.2 rfl : μ2.2.2 = μ.2.2).trans hr_μ
  have g4 := rgp q1 hI_μ2
  refine ok_bw (k_X2_addParts a0 q0 a1 q1 (0 : Int32) (μ2.1 a1 2) μ2 hI_μ2 (by (try simp only [hr_μ2]); omega)) ?_
  rintro μ5 ⟨hI_μ5, hC_μ5⟩
  have hF_μ5 : Fr [(2, 1, 2), (2, 1, 3)] true μ μ5 := hF_μ2.trans (hC_μ5.mono (by decide +kernel) (by decide))
  have hr_μ5 : μ5.2.2 = μ.2.2 := (hC_μ5.2 rfl : μ5.2.2 = μ2.2.2).trans hr_μ2
  exact ok_some ⟨hI_μ5, hF_μ5⟩

set_option maxHeartbeats 4000000 in
set_option maxRecDepth 100000 in
theorem k_X5_setVariant (a1 : Int32) (a2 : Int32) (a3 : Int32) (μ : Mem) (hI_μ : IX μ) (hc : 0 ≤ (a2).toInt ∧ (a2).toInt ≤ 3) : ok (p_X5_setVariant a1 a2 a3 μ) (fun q => IX q ∧ Fr [(1, 45, 0)] true μ q) := by
  have li0 : (0 : Int32).toInt = 0 := by decide
  have li1 : (1 : Int32).toInt = 1 := by decide
  have li4 : (4 : Int32).toInt = 4 := by decide
  have hF_μ : Fr [(1, 45, 0)] true μ μ := Fr.rf
  have hr_μ : μ.2.2 = μ.2.2 := rfl
  rw [p_X5_setVariant_eq]
  have lo_a1 := ti_lo a1
  have hi_a1 := ti_hi a1
  have lo_a2 := ti_lo a2
  have hi_a2 := ti_hi a2
  have lo_a3 := ti_lo a3
  have hi_a3 := ti_hi a3
  refine ok_ite ?_ ?_
  · intro c1
    rw [ti_lt] at c1
    exact ok_some ⟨hI_μ, hF_μ⟩
  · intro c1
    rw [ti_lt] at c1
    have g2 := rg_39_2 hI_μ
    refine ok_ite ?_ ?_
    · intro c3
      rw [ti_le] at c3
      exact ok_some ⟨hI_μ, hF_μ⟩
    · intro c3
      rw [ti_le] at c3
      refine ok_gd (inb_iff.mpr (by (try rw [TI.e (e := ((a1 * (4 : Int32)) + a2)) (n := ((a1.toInt * 4) + a2.toInt)) (TI.add (TI.mul TI.rf (TI.lit (by decide)) (by omega) (by omega)) TI.rf (by omega) (by omega))]); omega)) ?_
      refine ok_bv (fun μ4 e_μ4 => ?_)
      have hI_μ4 : IX μ4 := by rw [e_μ4]; exact IX_F hI_μ (rta_45 _ _)
      have hF_μ4 : Fr [(1, 45, 0)] true μ μ4 := by rw [e_μ4]; exact Fr.puta hF_μ (by decide +kernel)
      have hr_μ4 : μ4.2.2 = μ.2.2 := (by rw [e_μ4]; rfl : μ4.2.2 = μ.2.2).trans hr_μ
      exact ok_some ⟨hI_μ4, hF_μ4⟩

set_option maxHeartbeats 4000000 in
set_option maxRecDepth 100000 in
theorem k_X5_addVariant (a1 : Nat) (q1 : sh 0 a1 = (0, 1)) (a2 : Int32) (μ : Mem) (hI_μ : IX μ) : ok (p_X5_addVariant a1 a2 μ) (fun q => IX q.2 ∧ Fr [(0, 39, 2), (1, 45, 0), (2, 1, 2), (2, 1, 3)] true μ q.2) := by
  have lim1 : (-1 : Int32).toInt = -1 := by decide
  have li0 : (0 : Int32).toInt = 0 := by decide
  have li1 : (1 : Int32).toInt = 1 := by decide
  have li2 : (2 : Int32).toInt = 2 := by decide
  have li3 : (3 : Int32).toInt = 3 := by decide
  have li24 : (24 : Int32).toInt = 24 := by decide
  have hF_μ : Fr [(0, 39, 2), (1, 45, 0), (2, 1, 2), (2, 1, 3)] true μ μ := Fr.rf
  have hr_μ : μ.2.2 = μ.2.2 := rfl
  rw [p_X5_addVariant_eq]
  have lo_a2 := ti_lo a2
  have hi_a2 := ti_hi a2
  have g1 := rg_39_2 hI_μ
  refine ok_ite ?_ ?_
  · intro c2
    rw [ti_lt] at c2
    refine ok_bv (fun v3 ev3 => ?_)
    have tv3 : v3.toInt = (μ.1 39 2).toInt := congrArg Int32.toInt ev3
    refine ok_bv (fun μ4 e_μ4 => ?_)
    have hI_μ4 : IX μ4 := by rw [e_μ4]; exact IX_F hI_μ (rp_39_2 (by (try rw [TI.e (e := ((μ.1 39 2) + (1 : Int32))) (n := ((μ.1 39 2).toInt + 1)) (TI.add TI.rf (TI.lit (by decide)) (by omega) (by omega))]); omega))
    have hF_μ4 : Fr [(0, 39, 2), (1, 45, 0), (2, 1, 2), (2, 1, 3)] true μ μ4 := by rw [e_μ4]; exact Fr.put hF_μ (by decide +kernel)
    have v_μ4 : (μ4.1 39 2).toInt = ((μ.1 39 2).toInt + 1) := by rw [e_μ4, sF_v]; exact TI.e (n := ((μ.1 39 2).toInt + 1)) (TI.add TI.rf (TI.lit (by decide)) (by omega) (by omega))
    have hr_μ4 : μ4.2.2 = μ.2.2 := (by rw [e_μ4]; rfl : μ4.2.2 = μ.2.2).trans hr_μ
    refine ok_gd (inb_iff.mpr (by omega)) ?_
    refine ok_bw (k_X2_copyFrom (ptc v3.toNatClampNeg) (ptc_ok _) a1 q1 μ4 hI_μ4) ?_
    rintro μ5 ⟨hI_μ5, hC_μ5⟩
    have hF_μ5 : Fr [(0, 39, 2), (1, 45, 0), (2, 1, 2), (2, 1, 3)] true μ μ5 := hF_μ4.trans (hC_μ5.mono (by decide +kernel) (by decide))
    have hr_μ5 : μ5.2.2 = μ.2.2 := (hC_μ5.2 rfl : μ5.2.2 = μ4.2.2).trans hr_μ4
    refine ok_bw (k_X5_setVariant v3 (0 : Int32) a2 μ5 hI_μ5 (by (try simp only [hr_μ5]); omega)) ?_
    rintro μ7 ⟨hI_μ7, hC_μ7⟩
    have hF_μ7 : Fr [(0, 39, 2), (1, 45, 0), (2, 1, 2), (2, 1, 3)] true μ μ7 := hF_μ5.trans (hC_μ7.mono (by decide +kernel) (by decide))
    have hr_μ7 : μ7.2.2 = μ.2.2 := (hC_μ7.2 rfl : μ7.2.2 = μ5.2.2).trans hr_μ5
    refine ok_bw (k_X5_setVariant v3 (1 : Int32) (0 : Int32) μ7 hI_μ7 (by (try simp only [hr_μ7]); omega)) ?_
    rintro μ9 ⟨hI_μ9, hC_μ9⟩
    have hF_μ9 : Fr [(0, 39, 2), (1, 45, 0), (2, 1, 2), (2, 1, 3)] true μ μ9 := hF_μ7.trans (hC_μ9.mono (by decide +kernel) (by decide))
    have hr_μ9 : μ9.2.2 = μ.2.2 := (hC_μ9.2 rfl : μ9.2.2 = μ7.2.2).trans hr_μ7
    refine ok_bd (k_X2_stars a1 q1 μ9 hI_μ9) ?_
    rintro r12 μ11 ⟨hI_μ11, hC_μ11⟩
    have hI_μ11 : IX μ11 := hI_μ11
    have hC_μ11 : Fr [] true μ9 μ11 := hC_μ11
    have lo_r12 := ti_lo r12
    have hi_r12 := ti_hi r12
    have hF_μ11 : Fr [(0, 39, 2), (1, 45, 0), (2, 1, 2), (2, 1, 3)] true μ μ11 := hF_μ9.trans (hC_μ11.mono (by decide +kernel) (by decide))
    have hr_μ11 : μ11.2.2 = μ.2.2 := (hC_μ11.2 rfl : μ11.2.2 = μ9.2.2).trans hr_μ9
    refine ok_bw (k_X5_setVariant v3 (2 : Int32) r12 μ11 hI_μ11 (by (try simp only [hr_μ11]); omega)) ?_
    rintro μ13 ⟨hI_μ13, hC_μ13⟩
    have hF_μ13 : Fr [(0, 39, 2), (1, 45, 0), (2, 1, 2), (2, 1, 3)] true μ μ13 := hF_μ11.trans (hC_μ13.mono (by decide +kernel) (by decide))
    have hr_μ13 : μ13.2.2 = μ.2.2 := (hC_μ13.2 rfl : μ13.2.2 = μ11.2.2).trans hr_μ11
    refine ok_bw (k_X5_setVariant v3 (3 : Int32) (-1 : Int32) μ13 hI_μ13 (by (try simp only [hr_μ13]); omega)) ?_
    rintro μ15 ⟨hI_μ15, hC_μ15⟩
    have hF_μ15 : Fr [(0, 39, 2), (1, 45, 0), (2, 1, 2), (2, 1, 3)] true μ μ15 := hF_μ13.trans (hC_μ15.mono (by decide +kernel) (by decide))
    have hr_μ15 : μ15.2.2 = μ.2.2 := (hC_μ15.2 rfl : μ15.2.2 = μ13.2.2).trans hr_μ13
    exact ok_some ⟨hI_μ15, hF_μ15⟩
  · intro c2
    rw [ti_lt] at c2
    exact ok_some ⟨hI_μ, hF_μ⟩

set_option maxHeartbeats 4000000 in
set_option maxRecDepth 100000 in
theorem k_X5_patternOf (a1 : Int32) (μ : Mem) (hI_μ : IX μ) : ok (p_X5_patternOf a1 μ) (fun q => IX q.2 ∧ Fr [] true μ q.2 ∧ (sh 0 q.1 = (0, 1))) := by
  have li0 : (0 : Int32).toInt = 0 := by decide
  have li1 : (1 : Int32).toInt = 1 := by decide
  have li23 : (23 : Int32).toInt = 23 := by decide
  have hF_μ : Fr [] true μ μ := Fr.rf
  have hr_μ : μ.2.2 = μ.2.2 := rfl
  rw [p_X5_patternOf_eq]
  have lo_a1 := ti_lo a1
  have hi_a1 := ti_hi a1
  refine ok_gd (inb_iff.mpr (by (try rw [TI.e (e := (imax (0 : Int32) (imin a1 (23 : Int32)))) (n := (max 0 (min a1.toInt 23))) (TI.max (TI.lit (by decide)) (TI.min TI.rf (TI.lit (by decide))))]); omega)) ?_
  exact ok_some ⟨hI_μ, hF_μ, (ptc_ok _)⟩

set_option maxHeartbeats 4000000 in
set_option maxRecDepth 100000 in
theorem k_X5_addBlock  (μ : Mem) (hI_μ : IX μ) : ok (p_X5_addBlock  μ) (fun q => IX q.2 ∧ Fr [(0, 39, 6), (1, 42, 0), (1, 43, 0)] true μ q.2) := by
  have lim1 : (-1 : Int32).toInt = -1 := by decide
  have li0 : (0 : Int32).toInt = 0 := by decide
  have li1 : (1 : Int32).toInt = 1 := by decide
  have li672 : (672 : Int32).toInt = 672 := by decide
  have hF_μ : Fr [(0, 39, 6), (1, 42, 0), (1, 43, 0)] true μ μ := Fr.rf
  have hr_μ : μ.2.2 = μ.2.2 := rfl
  rw [p_X5_addBlock_eq]
  have g1 := rg_39_6 hI_μ
  refine ok_ite ?_ ?_
  · intro c2
    rw [ti_lt] at c2
    refine ok_gd (inb_iff.mpr (by omega)) ?_
    refine ok_bv (fun μ3 e_μ3 => ?_)
    have hI_μ3 : IX μ3 := by rw [e_μ3]; exact IX_F hI_μ (rta_42 _ _)
    have hF_μ3 : Fr [(0, 39, 6), (1, 42, 0), (1, 43, 0)] true μ μ3 := by rw [e_μ3]; exact Fr.puta hF_μ (by decide +kernel)
    have hr_μ3 : μ3.2.2 = μ.2.2 := (by rw [e_μ3]; rfl : μ3.2.2 = μ.2.2).trans hr_μ
    have g4 := rg_39_6 hI_μ3
    have f5 : (μ3.1 39 6).toInt = (μ.1 39 6).toInt := congrArg Int32.toInt ((by rw [e_μ3]; rfl : μ3.1 39 6 = μ.1 39 6))
    refine ok_gd (inb_iff.mpr (by omega)) ?_
    refine ok_bv (fun μ6 e_μ6 => ?_)
    have hI_μ6 : IX μ6 := by rw [e_μ6]; exact IX_F hI_μ3 (rp_43 (by omega))
    have hF_μ6 : Fr [(0, 39, 6), (1, 42, 0), (1, 43, 0)] true μ μ6 := by rw [e_μ6]; exact Fr.puta hF_μ3 (by decide +kernel)
    have hr_μ6 : μ6.2.2 = μ.2.2 := (by rw [e_μ6]; rfl : μ6.2.2 = μ3.2.2).trans hr_μ3
    have g7 := rg_39_6 hI_μ6
    have f8 : (μ6.1 39 6).toInt = (μ3.1 39 6).toInt := congrArg Int32.toInt ((by rw [e_μ6]; rfl : μ6.1 39 6 = μ3.1 39 6))
    refine ok_gd (inb_iff.mpr (by omega)) ?_
    refine ok_bv (fun μ9 e_μ9 => ?_)
    have hI_μ9 : IX μ9 := by rw [e_μ9]; exact IX_L hI_μ6
    have hF_μ9 : Fr [(0, 39, 6), (1, 42, 0), (1, 43, 0)] true μ μ9 := by rw [e_μ9]; exact hF_μ6
    have hr_μ9 : μ9.2.2 = μ.2.2 := (by rw [e_μ9]; rfl : μ9.2.2 = μ6.2.2).trans hr_μ6
    have g10 := rg_39_6 hI_μ9
    have f11 : (μ9.1 39 6).toInt = (μ6.1 39 6).toInt := congrArg Int32.toInt ((by rw [e_μ9]; rfl : μ9.1 39 6 = μ6.1 39 6))
    refine ok_bv (fun μ12 e_μ12 => ?_)
    have hI_μ12 : IX μ12 := by rw [e_μ12]; exact IX_F hI_μ9 (rp_39_6 (by (try rw [TI.e (e := ((μ9.1 39 6) + (1 : Int32))) (n := ((μ9.1 39 6).toInt + 1)) (TI.add TI.rf (TI.lit (by decide)) (by omega) (by omega))]); omega))
    have hF_μ12 : Fr [(0, 39, 6), (1, 42, 0), (1, 43, 0)] true μ μ12 := by rw [e_μ12]; exact Fr.put hF_μ9 (by decide +kernel)
    have v_μ12 : (μ12.1 39 6).toInt = ((μ9.1 39 6).toInt + 1) := by rw [e_μ12, sF_v]; exact TI.e (n := ((μ9.1 39 6).toInt + 1)) (TI.add TI.rf (TI.lit (by decide)) (by omega) (by omega))
    have hr_μ12 : μ12.2.2 = μ.2.2 := (by rw [e_μ12]; rfl : μ12.2.2 = μ9.2.2).trans hr_μ9
    have g13 := rg_39_6 hI_μ12
    exact ok_some ⟨hI_μ12, hF_μ12⟩
  · intro c2
    rw [ti_lt] at c2
    exact ok_some ⟨hI_μ, hF_μ⟩

set_option maxHeartbeats 4000000 in
set_option maxRecDepth 100000 in
theorem k_X8_clear  (μ : Mem) (hI_μ : IX μ) : ok (p_X8_clear  μ) (fun q => IX q ∧ Fr [(0, 30, 5), (0, 30, 7), (0, 30, 10)] true μ q) := by
  have li0 : (0 : Int32).toInt = 0 := by decide
  have li1 : (1 : Int32).toInt = 1 := by decide
  have hF_μ : Fr [(0, 30, 5), (0, 30, 7), (0, 30, 10)] true μ μ := Fr.rf
  have hr_μ : μ.2.2 = μ.2.2 := rfl
  rw [p_X8_clear_eq]
  refine ok_bv (fun μ1 e_μ1 => ?_)
  have hI_μ1 : IX μ1 := by rw [e_μ1]; exact IX_F hI_μ (rp_30_5 (by omega))
  have hF_μ1 : Fr [(0, 30, 5), (0, 30, 7), (0, 30, 10)] true μ μ1 := by rw [e_μ1]; exact Fr.put hF_μ (by decide +kernel)
  have v_μ1 : (μ1.1 30 5).toInt = 0 := by rw [e_μ1, sF_v]; exact TI.e (n := 0) (TI.lit (by decide))
  have hr_μ1 : μ1.2.2 = μ.2.2 := (by rw [e_μ1]; rfl : μ1.2.2 = μ.2.2).trans hr_μ
  refine ok_bv (fun μ2 e_μ2 => ?_)
  have hI_μ2 : IX μ2 := by rw [e_μ2]; exact IX_F hI_μ1 (rp_30_7 (by omega))
  have hF_μ2 : Fr [(0, 30, 5), (0, 30, 7), (0, 30, 10)] true μ μ2 := by rw [e_μ2]; exact Fr.put hF_μ1 (by decide +kernel)
  have v_μ2 : (μ2.1 30 7).toInt = 0 := by rw [e_μ2, sF_v]; exact TI.e (n := 0) (TI.lit (by decide))
  have hr_μ2 : μ2.2.2 = μ.2.2 := (by rw [e_μ2]; rfl : μ2.2.2 = μ1.2.2).trans hr_μ1
  refine ok_bv (fun μ3 e_μ3 => ?_)
  have hI_μ3 : IX μ3 := by rw [e_μ3]; exact IX_F hI_μ2 (rp_30_10 (by omega))
  have hF_μ3 : Fr [(0, 30, 5), (0, 30, 7), (0, 30, 10)] true μ μ3 := by rw [e_μ3]; exact Fr.put hF_μ2 (by decide +kernel)
  have v_μ3 : (μ3.1 30 10).toInt = 0 := by rw [e_μ3, sF_v]; exact TI.e (n := 0) (TI.lit (by decide))
  have hr_μ3 : μ3.2.2 = μ.2.2 := (by rw [e_μ3]; rfl : μ3.2.2 = μ2.2.2).trans hr_μ2
  exact ok_some ⟨hI_μ3, hF_μ3⟩

set_option maxHeartbeats 4000000 in
set_option maxRecDepth 100000 in
theorem k_X8_isPair (a1 : Int64) (μ : Mem) (hI_μ : IX μ) : ok (p_X8_isPair a1 μ) (fun q => IX q.2 ∧ Fr [] true μ q.2 ∧ (((q.1).toInt = 0 ∨ (q.1).toInt = 1) ∧ ((q.1).toInt = 0 ∨ (0 ≤ (a1.toInt32).toInt ∧ (a1.toInt32).toInt < (μ.1 30 5).toInt)))) := by
  have li0 : (0 : Int32).toInt = 0 := by decide
  have li1 : (1 : Int32).toInt = 1 := by decide
  have hF_μ : Fr [] true μ μ := Fr.rf
  have hr_μ : μ.2.2 = μ.2.2 := rfl
  rw [p_X8_isPair_eq]
  have g1 := rg_30_5 hI_μ
  refine ok_ite ?_ ?_
  · intro c2
    rw [ti_eq] at c2
    refine ok_ite ?_ ?_
    · intro c3
      rw [ti_lt] at c3
      exact ok_some ⟨hI_μ, hF_μ, by dsimp only; (try simp only [hr_μ]); omega⟩
    · intro c3
      rw [ti_lt] at c3
      refine ok_ite ?_ ?_
      · intro c4
        rw [ti_le] at c4
        exact ok_some ⟨hI_μ, hF_μ, by dsimp only; (try simp only [hr_μ]); omega⟩
      · intro c4
        rw [ti_le] at c4
        exact ok_some ⟨hI_μ, hF_μ, by dsimp only; (try simp only [hr_μ]); omega⟩
  · intro c2
    rw [ti_eq] at c2
    exact ok_some ⟨hI_μ, hF_μ, by dsimp only; (try simp only [hr_μ]); omega⟩

set_option maxHeartbeats 4000000 in
set_option maxRecDepth 100000 in
theorem k_X8_weightOf (a1 : Int64) (μ : Mem) (hI_μ : IX μ) : ok (p_X8_weightOf a1 μ) (fun q => IX q.2 ∧ Fr [] true μ q.2) := by
  have li0 : (0 : Int32).toInt = 0 := by decide
  have li1 : (1 : Int32).toInt = 1 := by decide
  have hF_μ : Fr [] true μ μ := Fr.rf
  have hr_μ : μ.2.2 = μ.2.2 := rfl
  rw [p_X8_weightOf_eq]
  have g3 := rg_30_5 hI_μ
  refine ok_bd (k_X8_isPair a1 μ hI_μ) ?_
  rintro r2 μ1 ⟨hI_μ1, hC_μ1, p_μ1⟩
  have hI_μ1 : IX μ1 := hI_μ1
  have hC_μ1 : Fr [] true μ μ1 := hC_μ1
  dsimp only at p_μ1
  have lo_r2 := ti_lo r2
  have hi_r2 := ti_hi r2
  have hF_μ1 : Fr [] true μ μ1 := hF_μ.trans (hC_μ1.mono (by decide +kernel) (by decide))
  have hr_μ1 : μ1.2.2 = μ.2.2 := (hC_μ1.2 rfl : μ1.2.2 = μ.2.2).trans hr_μ
  try simp only [hr_μ1, hr_μ] at p_μ1
  refine ok_ite ?_ ?_
  · intro c4
    rw [ti_eq] at c4
    exact ok_some ⟨hI_μ1, hF_μ1⟩
  · intro c4
    rw [ti_eq] at c4
    refine ok_gd (inb_iff.mpr (by (try rw [TI.e (e := (s_X0_bits a1)) (n := (a1.toInt32).toInt) (TI.bits a1)]); omega)) ?_
    exact ok_some ⟨hI_μ1, hF_μ1⟩

set_option maxHeartbeats 4000000 in
set_option maxRecDepth 100000 in
theorem k_X8_deepOf (a1 : Int64) (μ : Mem) (hI_μ : IX μ) : ok (p_X8_deepOf a1 μ) (fun q => IX q.2 ∧ Fr [] true μ q.2) := by
  have li0 : (0 : Int32).toInt = 0 := by decide
  have li1 : (1 : Int32).toInt = 1 := by decide
  have hF_μ : Fr [] true μ μ := Fr.rf
  have hr_μ : μ.2.2 = μ.2.2 := rfl
  rw [p_X8_deepOf_eq]
  have g3 := rg_30_5 hI_μ
  refine ok_bd (k_X8_isPair a1 μ hI_μ) ?_
  rintro r2 μ1 ⟨hI_μ1, hC_μ1, p_μ1⟩
  have hI_μ1 : IX μ1 := hI_μ1
  have hC_μ1 : Fr [] true μ μ1 := hC_μ1
  dsimp only at p_μ1
  have lo_r2 := ti_lo r2
  have hi_r2 := ti_hi r2
  have hF_μ1 : Fr [] true μ μ1 := hF_μ.trans (hC_μ1.mono (by decide +kernel) (by decide))
  have hr_μ1 : μ1.2.2 = μ.2.2 := (hC_μ1.2 rfl : μ1.2.2 = μ.2.2).trans hr_μ
  try simp only [hr_μ1, hr_μ] at p_μ1
  refine ok_ite ?_ ?_
  · intro c4
    rw [ti_eq] at c4
    exact ok_some ⟨hI_μ1, hF_μ1⟩
  · intro c4
    rw [ti_eq] at c4
    refine ok_gd (inb_iff.mpr (by (try rw [TI.e (e := (s_X0_bits a1)) (n := (a1.toInt32).toInt) (TI.bits a1)]); omega)) ?_
    exact ok_some ⟨hI_μ1, hF_μ1⟩

set_option maxHeartbeats 4000000 in
set_option maxRecDepth 100000 in
theorem k_X8_pair (a1 : Int64) (a3 : Int64) (μ : Mem) (hI_μ : IX μ) : ok (p_X8_pair a1 a3 μ) (fun q => IX q.2 ∧ Fr [(0, 30, 5), (1, 33, 0), (1, 34, 0)] true μ q.2) := by
  have li0 : (0 : Int32).toInt = 0 := by decide
  have li1 : (1 : Int32).toInt = 1 := by decide
  have li30200 : (30200 : Int32).toInt = 30200 := by decide
  have hF_μ : Fr [(0, 30, 5), (1, 33, 0), (1, 34, 0)] true μ μ := Fr.rf
  have hr_μ : μ.2.2 = μ.2.2 := rfl
  rw [p_X8_pair_eq]
  have g1 := rg_30_5 hI_μ
  refine ok_ite ?_ ?_
  · intro c2
    rw [ti_lt] at c2
    refine ok_gd (inb_iff.mpr (by omega)) ?_
    refine ok_bv (fun μ3 e_μ3 => ?_)
    have hI_μ3 : IX μ3 := by rw [e_μ3]; exact IX_L hI_μ
    have hF_μ3 : Fr [(0, 30, 5), (1, 33, 0), (1, 34, 0)] true μ μ3 := by rw [e_μ3]; exact hF_μ
    have hr_μ3 : μ3.2.2 = μ.2.2 := (by rw [e_μ3]; rfl : μ3.2.2 = μ.2.2).trans hr_μ
    have g4 := rg_30_5 hI_μ3
    have f5 : (μ3.1 30 5).toInt = (μ.1 30 5).toInt := congrArg Int32.toInt ((by rw [e_μ3]; rfl : μ3.1 30 5 = μ.1 30 5))
    refine ok_gd (inb_iff.mpr (by omega)) ?_
    refine ok_bv (fun μ6 e_μ6 => ?_)
    have hI_μ6 : IX μ6 := by rw [e_μ6]; exact IX_L hI_μ3
    have hF_μ6 : Fr [(0, 30, 5), (1, 33, 0), (1, 34, 0)] true μ μ6 := by rw [e_μ6]; exact hF_μ3
    have hr_μ6 : μ6.2.2 = μ.2.2 := (by rw [e_μ6]; rfl : μ6.2.2 = μ3.2.2).trans hr_μ3
    have g7 := rg_30_5 hI_μ6
    have f8 : (μ6.1 30 5).toInt = (μ3.1 30 5).toInt := congrArg Int32.toInt ((by rw [e_μ6]; rfl : μ6.1 30 5 = μ3.1 30 5))
    refine ok_bd (k_X8_weightOf a1 μ6 hI_μ6) ?_
    rintro r10 μ9 ⟨hI_μ9, hC_μ9⟩
    have hI_μ9 : IX μ9 := hI_μ9
    have hC_μ9 : Fr [] true μ6 μ9 := hC_μ9
    have lo_r10 := ti_lo r10
    have hi_r10 := ti_hi r10
    have hF_μ9 : Fr [(0, 30, 5), (1, 33, 0), (1, 34, 0)] true μ μ9 := hF_μ6.trans (hC_μ9.mono (by decide +kernel) (by decide))
    have hr_μ9 : μ9.2.2 = μ.2.2 := (hC_μ9.2 rfl : μ9.2.2 = μ6.2.2).trans hr_μ6
    refine ok_bd (k_X8_weightOf a3 μ9 hI_μ9) ?_
    rintro r12 μ11 ⟨hI_μ11, hC_μ11⟩
    have hI_μ11 : IX μ11 := hI_μ11
    have hC_μ11 : Fr [] true μ9 μ11 := hC_μ11
    have lo_r12 := ti_lo r12
    have hi_r12 := ti_hi r12
    have hF_μ11 : Fr [(0, 30, 5), (1, 33, 0), (1, 34, 0)] true μ μ11 := hF_μ9.trans (hC_μ11.mono (by decide +kernel) (by decide))
    have hr_μ11 : μ11.2.2 = μ.2.2 := (hC_μ11.2 rfl : μ11.2.2 = μ9.2.2).trans hr_μ9
    refine ok_gd (inb_iff.mpr (by omega)) ?_
    refine ok_bv (fun μ13 e_μ13 => ?_)
    have hI_μ13 : IX μ13 := by rw [e_μ13]; exact IX_F hI_μ11 (rta_33 _ _)
    have hF_μ13 : Fr [(0, 30, 5), (1, 33, 0), (1, 34, 0)] true μ μ13 := by rw [e_μ13]; exact Fr.puta hF_μ11 (by decide +kernel)
    have hr_μ13 : μ13.2.2 = μ.2.2 := (by rw [e_μ13]; rfl : μ13.2.2 = μ11.2.2).trans hr_μ11
    have g14 := rg_30_5 hI_μ13
    have f15 : (μ13.1 30 5).toInt = (μ6.1 30 5).toInt := congrArg Int32.toInt (((by rw [e_μ13]; rfl : μ13.1 30 5 = μ11.1 30 5)).trans ((hC_μ11.1 30 5 (by decide +kernel)).trans (hC_μ9.1 30 5 (by decide +kernel))))
    refine ok_bd (k_X8_deepOf a1 μ13 hI_μ13) ?_
    rintro r17 μ16 ⟨hI_μ16, hC_μ16⟩
    have hI_μ16 : IX μ16 := hI_μ16
    have hC_μ16 : Fr [] true μ13 μ16 := hC_μ16
    have lo_r17 := ti_lo r17
    have hi_r17 := ti_hi r17
    have hF_μ16 : Fr [(0, 30, 5), (1, 33, 0), (1, 34, 0)] true μ μ16 := hF_μ13.trans (hC_μ16.mono (by decide +kernel) (by decide))
    have hr_μ16 : μ16.2.2 = μ.2.2 := (hC_μ16.2 rfl : μ16.2.2 = μ13.2.2).trans hr_μ13
    refine ok_bd (k_X8_deepOf a3 μ16 hI_μ16) ?_
    rintro r19 μ18 ⟨hI_μ18, hC_μ18⟩
    have hI_μ18 : IX μ18 := hI_μ18
    have hC_μ18 : Fr [] true μ16 μ18 := hC_μ18
    have lo_r19 := ti_lo r19
    have hi_r19 := ti_hi r19
    have hF_μ18 : Fr [(0, 30, 5), (1, 33, 0), (1, 34, 0)] true μ μ18 := hF_μ16.trans (hC_μ18.mono (by decide +kernel) (by decide))
    have hr_μ18 : μ18.2.2 = μ.2.2 := (hC_μ18.2 rfl : μ18.2.2 = μ16.2.2).trans hr_μ16
    refine ok_gd (inb_iff.mpr (by omega)) ?_
    refine ok_bv (fun μ20 e_μ20 => ?_)
    have hI_μ20 : IX μ20 := by rw [e_μ20]; exact IX_F hI_μ18 (rta_34 _ _)
    have hF_μ20 : Fr [(0, 30, 5), (1, 33, 0), (1, 34, 0)] true μ μ20 := by rw [e_μ20]; exact Fr.puta hF_μ18 (by decide +kernel)
    have hr_μ20 : μ20.2.2 = μ.2.2 := (by rw [e_μ20]; rfl : μ20.2.2 = μ18.2.2).trans hr_μ18
    have g21 := rg_30_5 hI_μ20
    have f22 : (μ20.1 30 5).toInt = (μ13.1 30 5).toInt := congrArg Int32.toInt (((by rw [e_μ20]; rfl : μ20.1 30 5 = μ18.1 30 5)).trans ((hC_μ18.1 30 5 (by decide +kernel)).trans (hC_μ16.1 30 5 (by decide +kernel))))
    refine ok_bv (fun μ23 e_μ23 => ?_)
    have hI_μ23 : IX μ23 := by rw [e_μ23]; exact IX_F hI_μ20 (rp_30_5 (by (try rw [TI.e (e := ((μ20.1 30 5) + (1 : Int32))) (n := ((μ20.1 30 5).toInt + 1)) (TI.add TI.rf (TI.lit (by decide)) (by omega) (by omega))]); omega))
    have hF_μ23 : Fr [(0, 30, 5), (1, 33, 0), (1, 34, 0)] true μ μ23 := by rw [e_μ23]; exact Fr.put hF_μ20 (by decide +kernel)
    have v_μ23 : (μ23.1 30 5).toInt = ((μ20.1 30 5).toInt + 1) := by rw [e_μ23, sF_v]; exact TI.e (n := ((μ20.1 30 5).toInt + 1)) (TI.add TI.rf (TI.lit (by decide)) (by omega) (by omega))
    have hr_μ23 : μ23.2.2 = μ.2.2 := (by rw [e_μ23]; rfl : μ23.2.2 = μ20.2.2).trans hr_μ20
    have g24 := rg_30_5 hI_μ23
    exact ok_some ⟨hI_μ23, hF_μ23⟩
  · intro c2
    rw [ti_lt] at c2
    exact ok_some ⟨hI_μ, hF_μ⟩
