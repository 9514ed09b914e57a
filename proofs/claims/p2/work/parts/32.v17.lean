set_option maxHeartbeats 4000000 in
set_option maxRecDepth 100000 in
theorem k_X6_call_b53 : ∀ (n : Nat) (a1 : Int32) (a2 : Int32) (a4 : Int32) (a5 : Int32) (a6 : Int32) (μ : Mem), IX μ → (0 ≤ (a6).toInt ∧ 2147483648 - (a6).toInt < n) → ok (p_X6_call_b53 n a1 a2 a4 a5 a6 μ) (fun q => IX q ∧ Fr [(0, 151, 5), (0, 151, 6), (1, 154, 0), (1, 155, 0), (2, 0, 0), (2, 0, 1), (2, 0, 2), (2, 0, 3)] true μ q) := by
  have li0 : (0 : Int32).toInt = 0 := by decide
  have li1 : (1 : Int32).toInt = 1 := by decide
  have li2 : (2 : Int32).toInt = 2 := by decide
  have li3 : (3 : Int32).toInt = 3 := by decide
  intro n
  induction n with
  | zero => intro a1 a2 a4 a5 a6 μ hI_μ hc; exact absurd hc (by have lo_a1 := ti_lo a1; have hi_a1 := ti_hi a1; have lo_a2 := ti_lo a2; have hi_a2 := ti_hi a2; have lo_a4 := ti_lo a4; have hi_a4 := ti_hi a4; have lo_a5 := ti_lo a5; have hi_a5 := ti_hi a5; have lo_a6 := ti_lo a6; have hi_a6 := ti_hi a6; omega)
  | succ n ih =>
    intro a1 a2 a4 a5 a6 μ hI_μ hc
    have hF_μ : Fr [(0, 151, 5), (0, 151, 6), (1, 154, 0), (1, 155, 0), (2, 0, 0), (2, 0, 1), (2, 0, 2), (2, 0, 3)] true μ μ := Fr.rf
    have hr_μ : μ.2.2 = μ.2.2 := rfl
    rw [p_X6_call_b53_s]
    have lo_a1 := ti_lo a1
    have hi_a1 := ti_hi a1
    have lo_a2 := ti_lo a2
    have hi_a2 := ti_hi a2
    have lo_a4 := ti_lo a4
    have hi_a4 := ti_hi a4
    have lo_a5 := ti_lo a5
    have hi_a5 := ti_hi a5
    have lo_a6 := ti_lo a6
    have hi_a6 := ti_hi a6
    refine ok_ite ?_ ?_
    · intro c12
      rw [ti_le] at c12
      refine ok_bv (fun μ13 e_μ13 => ?_)
      have hI_μ13 : IX μ13 := by rw [e_μ13]; exact IX_F hI_μ (rt_151_6 _)
      have hF_μ13 : Fr [(0, 151, 5), (0, 151, 6), (1, 154, 0), (1, 155, 0), (2, 0, 0), (2, 0, 1), (2, 0, 2), (2, 0, 3)] true μ μ13 := by rw [e_μ13]; exact Fr.put hF_μ (by decide +kernel)
      have v_μ13 : (μ13.1 151 6).toInt = a4.toInt := by rw [e_μ13, sF_v]
      have hr_μ13 : μ13.2.2 = μ.2.2 := (by rw [e_μ13]; rfl : μ13.2.2 = μ.2.2).trans hr_μ
      try rw [hr_μ13]
      refine ok_bd (k_X5_ofVariant a2 (3 : Int32) μ13 hI_μ13 (by (try simp only [hr_μ13]); omega)) ?_
      rintro r15 μ14 ⟨hI_μ14, hC_μ14⟩
      have hI_μ14 : IX μ14 := hI_μ14
      have hC_μ14 : Fr [] true μ13 μ14 := hC_μ14
      have lo_r15 := ti_lo r15
      have hi_r15 := ti_hi r15
      have hF_μ14 : Fr [(0, 151, 5), (0, 151, 6), (1, 154, 0), (1, 155, 0), (2, 0, 0), (2, 0, 1), (2, 0, 2), (2, 0, 3)] true μ μ14 := hF_μ13.trans (hC_μ14.mono (by decide +kernel) (by decide))
      have hr_μ14 : μ14.2.2 = μ.2.2 := (hC_μ14.2 rfl : μ14.2.2 = μ13.2.2).trans hr_μ13
      try rw [hr_μ14]
      refine ok_bw (k_X6_enter r15 μ14 hI_μ14) ?_
      rintro μ16 ⟨hI_μ16, hC_μ16⟩
      have hF_μ16 : Fr [(0, 151, 5), (0, 151, 6), (1, 154, 0), (1, 155, 0), (2, 0, 0), (2, 0, 1), (2, 0, 2), (2, 0, 3)] true μ μ16 := hF_μ14.trans (hC_μ16.mono (by decide +kernel) (by decide))
      have hr_μ16 : μ16.2.2 = μ.2.2 := (hC_μ16.2 rfl : μ16.2.2 = μ14.2.2).trans hr_μ14
      try rw [hr_μ16]
      exact ok_some ⟨hI_μ16, hF_μ16⟩
    · intro c12
      rw [ti_le] at c12
      refine ok_bd (k_X6_operand a1 ((2 : Int32) + a6) μ hI_μ) ?_
      rintro r19 μ18 ⟨hI_μ18, hC_μ18⟩
      have hI_μ18 : IX μ18 := hI_μ18
      have hC_μ18 : Fr [] true μ μ18 := hC_μ18
      have hF_μ18 : Fr [(0, 151, 5), (0, 151, 6), (1, 154, 0), (1, 155, 0), (2, 0, 0), (2, 0, 1), (2, 0, 2), (2, 0, 3)] true μ μ18 := hF_μ.trans (hC_μ18.mono (by decide +kernel) (by decide))
      have hr_μ18 : μ18.2.2 = μ.2.2 := (hC_μ18.2 rfl : μ18.2.2 = μ.2.2).trans hr_μ
      try rw [hr_μ18]
      refine ok_bw (k_X6_setRegister a4 a6 r19 μ18 hI_μ18) ?_
      rintro μ20 ⟨hI_μ20, hC_μ20⟩
      have hF_μ20 : Fr [(0, 151, 5), (0, 151, 6), (1, 154, 0), (1, 155, 0), (2, 0, 0), (2, 0, 1), (2, 0, 2), (2, 0, 3)] true μ μ20 := hF_μ18.trans (hC_μ20.mono (by decide +kernel) (by decide))
      have hr_μ20 : μ20.2.2 = μ.2.2 := (hC_μ20.2 rfl : μ20.2.2 = μ18.2.2).trans hr_μ18
      try rw [hr_μ20]
      refine ok_bv (fun v22 ev22 => ?_)
      first | have tv22 : v22.toInt = (a6.toInt + 1) := (congrArg Int32.toInt ev22).trans (TI.e (n := (a6.toInt + 1)) (TI.add TI.rf (TI.lit (by decide)) (by omega) (by omega))) | have tv22 : v22.toInt ≤ a6.toInt + 1 := by rw [ev22]; exact ti_inc _ | skip
      exact ok_mono (ih a1 a2 a4 a5 v22 μ20 hI_μ20 (by (try simp only [hr_μ20]); omega)) (fun q h => ⟨h.1, hF_μ20.trans h.2⟩)
set_option maxHeartbeats 4000000 in
set_option maxRecDepth 100000 in
theorem k_X6_call (a1 : Int32) (a2 : Int32) (μ : Mem) (hI_μ : IX μ) : ok (p_X6_call a1 a2 μ) (fun q => IX q ∧ Fr [(0, 151, 5), (0, 151, 6), (1, 154, 0), (1, 155, 0), (2, 0, 0), (2, 0, 1), (2, 0, 2), (2, 0, 3)] true μ q) := by
  have li0 : (0 : Int32).toInt = 0 := by decide
  have li1 : (1 : Int32).toInt = 1 := by decide
  have li2 : (2 : Int32).toInt = 2 := by decide
  have li6 : (6 : Int32).toInt = 6 := by decide
  have li7 : (7 : Int32).toInt = 7 := by decide
  have hF_μ : Fr [(0, 151, 5), (0, 151, 6), (1, 154, 0), (1, 155, 0), (2, 0, 0), (2, 0, 1), (2, 0, 2), (2, 0, 3)] true μ μ := Fr.rf
  have hr_μ : μ.2.2 = μ.2.2 := rfl
  rw [p_X6_call_eq]
  have lo_a1 := ti_lo a1
  have hi_a1 := ti_hi a1
  have lo_a2 := ti_lo a2
  have hi_a2 := ti_hi a2
  refine ok_bd (k_X5_cell a1 (6 : Int32) μ hI_μ (by omega)) ?_
  rintro r2 μ1 ⟨hI_μ1, hC_μ1⟩
  have hI_μ1 : IX μ1 := hI_μ1
  have hC_μ1 : Fr [] true μ μ1 := hC_μ1
  have lo_r2 := ti_lo r2
  have hi_r2 := ti_hi r2
  have hF_μ1 : Fr [(0, 151, 5), (0, 151, 6), (1, 154, 0), (1, 155, 0), (2, 0, 0), (2, 0, 1), (2, 0, 2), (2, 0, 3)] true μ μ1 := hF_μ.trans (hC_μ1.mono (by decide +kernel) (by decide))
  have hr_μ1 : μ1.2.2 = μ.2.2 := (hC_μ1.2 rfl : μ1.2.2 = μ.2.2).trans hr_μ
  try rw [hr_μ1]
  refine ok_bd (k_X1_beginCall (sel 0 (μ.2.2 151 8)) (sel_0 _) μ1 hI_μ1) ?_
  rintro r4 μ3 ⟨hI_μ3, hC_μ3, p_μ3⟩
  have hI_μ3 : IX μ3 := hI_μ3
  have hC_μ3 : Fr [(2, 0, 0), (2, 0, 1), (2, 0, 2), (2, 0, 3)] true μ1 μ3 := hC_μ3
  dsimp only at p_μ3
  have lo_r4 := ti_lo r4
  have hi_r4 := ti_hi r4
  have hF_μ3 : Fr [(0, 151, 5), (0, 151, 6), (1, 154, 0), (1, 155, 0), (2, 0, 0), (2, 0, 1), (2, 0, 2), (2, 0, 3)] true μ μ3 := hF_μ1.trans (hC_μ3.mono (by decide +kernel) (by decide))
  have hr_μ3 : μ3.2.2 = μ.2.2 := (hC_μ3.2 rfl : μ3.2.2 = μ1.2.2).trans hr_μ1
  try rw [hr_μ3]
  refine ok_ite ?_ ?_
  · intro c5
    rw [ti_eq] at c5
    exact ok_some ⟨hI_μ3, hF_μ3⟩
  · intro c5
    rw [ti_eq] at c5
    have g6 := ti_lo (μ3.1 151 6)
    have g6h := ti_hi (μ3.1 151 6)
    refine ok_bd (k_X5_ofVariant r2 (2 : Int32) μ3 hI_μ3 (by (try simp only [hr_μ3]); omega)) ?_
    rintro r8 μ7 ⟨hI_μ7, hC_μ7⟩
    have hI_μ7 : IX μ7 := hI_μ7
    have hC_μ7 : Fr [] true μ3 μ7 := hC_μ7
    have lo_r8 := ti_lo r8
    have hi_r8 := ti_hi r8
    have hF_μ7 : Fr [(0, 151, 5), (0, 151, 6), (1, 154, 0), (1, 155, 0), (2, 0, 0), (2, 0, 1), (2, 0, 2), (2, 0, 3)] true μ μ7 := hF_μ3.trans (hC_μ7.mono (by decide +kernel) (by decide))
    have hr_μ7 : μ7.2.2 = μ.2.2 := (hC_μ7.2 rfl : μ7.2.2 = μ3.2.2).trans hr_μ3
    try rw [hr_μ7]
    refine ok_bv (fun v9 ev9 => ?_)
    first | have tv9 : v9.toInt = ((μ3.1 151 6).toInt + r8.toInt) := (congrArg Int32.toInt ev9).trans (TI.e (n := ((μ3.1 151 6).toInt + r8.toInt)) (TI.add TI.rf TI.rf (by omega) (by omega))) | skip
    refine ok_bd (k_X5_cell a1 (7 : Int32) μ7 hI_μ7 (by (try simp only [hr_μ7]); omega)) ?_
    rintro r11 μ10 ⟨hI_μ10, hC_μ10⟩
    have hI_μ10 : IX μ10 := hI_μ10
    have hC_μ10 : Fr [] true μ7 μ10 := hC_μ10
    have lo_r11 := ti_lo r11
    have hi_r11 := ti_hi r11
    have hF_μ10 : Fr [(0, 151, 5), (0, 151, 6), (1, 154, 0), (1, 155, 0), (2, 0, 0), (2, 0, 1), (2, 0, 2), (2, 0, 3)] true μ μ10 := hF_μ7.trans (hC_μ10.mono (by decide +kernel) (by decide))
    have hr_μ10 : μ10.2.2 = μ.2.2 := (hC_μ10.2 rfl : μ10.2.2 = μ7.2.2).trans hr_μ7
    try rw [hr_μ10]
    obtain ⟨fu, hfu0, hfu⟩ := fuel_ex
    rw [hfu0]
    exact ok_mono (k_X6_call_b53  fu a1 a2 v9 r11 (0 : Int32) μ10 hI_μ10 (by (try simp only [hr_μ10]); omega)) (fun q h => ⟨h.1, hF_μ10.trans h.2⟩)

set_option maxHeartbeats 4000000 in
set_option maxRecDepth 100000 in
theorem k_X6_step (a1 : Int32) (μ : Mem) (hI_μ : IX μ) (hc : (μ.1 (sel 0 (μ.2.2 151 8)) 4).toInt < 1000000) : ok (p_X6_step a1 μ) (fun q => IX q ∧ Fr [(0, 30, 5), (0, 151, 5), (0, 151, 6), (1, 33, 0), (1, 34, 0), (1, 154, 0), (1, 155, 0), (2, 0, 0), (2, 0, 1), (2, 0, 2), (2, 0, 3), (2, 0, 4), (3, 0, 2)] true μ q ∧ ((q.1 (sel 0 (q.2.2 151 8)) 4).toInt ≤ (μ.1 (sel 0 (μ.2.2 151 8)) 4).toInt + 1)) := by
  have li0 : (0 : Int32).toInt = 0 := by decide
  have li1 : (1 : Int32).toInt = 1 := by decide
  have li2 : (2 : Int32).toInt = 2 := by decide
  have li3 : (3 : Int32).toInt = 3 := by decide
  have li4 : (4 : Int32).toInt = 4 := by decide
  have li5 : (5 : Int32).toInt = 5 := by decide
  have li6 : (6 : Int32).toInt = 6 := by decide
  have li7 : (7 : Int32).toInt = 7 := by decide
  have li8 : (8 : Int32).toInt = 8 := by decide
  have li9 : (9 : Int32).toInt = 9 := by decide
  have li10 : (10 : Int32).toInt = 10 := by decide
  have li11 : (11 : Int32).toInt = 11 := by decide
  have hF_μ : Fr [(0, 30, 5), (0, 151, 5), (0, 151, 6), (1, 33, 0), (1, 34, 0), (1, 154, 0), (1, 155, 0), (2, 0, 0), (2, 0, 1), (2, 0, 2), (2, 0, 3), (2, 0, 4), (3, 0, 2)] true μ μ := Fr.rf
  have hr_μ : μ.2.2 = μ.2.2 := rfl
  rw [p_X6_step_eq]
  have lo_a1 := ti_lo a1
  have hi_a1 := ti_hi a1
  have g1 := rgc_0_4 (sel_0 (μ.2.2 151 8)) hI_μ
  refine ok_bd (k_X5_cell a1 (2 : Int32) μ hI_μ (by omega)) ?_
  rintro r3 μ2 ⟨hI_μ2, hC_μ2⟩
  have hI_μ2 : IX μ2 := hI_μ2
  have hC_μ2 : Fr [] true μ μ2 := hC_μ2
  have lo_r3 := ti_lo r3
  have hi_r3 := ti_hi r3
  have hF_μ2 : Fr [(0, 30, 5), (0, 151, 5), (0, 151, 6), (1, 33, 0), (1, 34, 0), (1, 154, 0), (1, 155, 0), (2, 0, 0), (2, 0, 1), (2, 0, 2), (2, 0, 3), (2, 0, 4), (3, 0, 2)] true μ μ2 := hF_μ.trans (hC_μ2.mono (by decide +kernel) (by decide))
  have hr_μ2 : μ2.2.2 = μ.2.2 := (hC_μ2.2 rfl : μ2.2.2 = μ.2.2).trans hr_μ
  try rw [hr_μ2]
  refine ok_bd (k_X5_cell a1 (0 : Int32) μ2 hI_μ2 (by (try simp only [hr_μ2]); omega)) ?_
  rintro r5 μ4 ⟨hI_μ4, hC_μ4⟩
  have hI_μ4 : IX μ4 := hI_μ4
  have hC_μ4 : Fr [] true μ2 μ4 := hC_μ4
  have lo_r5 := ti_lo r5
  have hi_r5 := ti_hi r5
  have hF_μ4 : Fr [(0, 30, 5), (0, 151, 5), (0, 151, 6), (1, 33, 0), (1, 34, 0), (1, 154, 0), (1, 155, 0), (2, 0, 0), (2, 0, 1), (2, 0, 2), (2, 0, 3), (2, 0, 4), (3, 0, 2)] true μ μ4 := hF_μ2.trans (hC_μ4.mono (by decide +kernel) (by decide))
  have hr_μ4 : μ4.2.2 = μ.2.2 := (hC_μ4.2 rfl : μ4.2.2 = μ2.2.2).trans hr_μ2
  try rw [hr_μ4]
  refine ok_ite ?_ ?_
  · intro c7
    rw [ti_eq] at c7
    refine ok_bd (k_X6_num a1 (0 : Int32) μ4 hI_μ4) ?_
    rintro r9 μ8 ⟨hI_μ8, hC_μ8⟩
    have hI_μ8 : IX μ8 := hI_μ8
    have hC_μ8 : Fr [] true μ4 μ8 := hC_μ8
    have hF_μ8 : Fr [(0, 30, 5), (0, 151, 5), (0, 151, 6), (1, 33, 0), (1, 34, 0), (1, 154, 0), (1, 155, 0), (2, 0, 0), (2, 0, 1), (2, 0, 2), (2, 0, 3), (2, 0, 4), (3, 0, 2)] true μ μ8 := hF_μ4.trans (hC_μ8.mono (by decide +kernel) (by decide))
    have hr_μ8 : μ8.2.2 = μ.2.2 := (hC_μ8.2 rfl : μ8.2.2 = μ4.2.2).trans hr_μ4
    try rw [hr_μ8]
    refine ok_bd (k_X6_num a1 (1 : Int32) μ8 hI_μ8) ?_
    rintro r11 μ10 ⟨hI_μ10, hC_μ10⟩
    have hI_μ10 : IX μ10 := hI_μ10
    have hC_μ10 : Fr [] true μ8 μ10 := hC_μ10
    have hF_μ10 : Fr [(0, 30, 5), (0, 151, 5), (0, 151, 6), (1, 33, 0), (1, 34, 0), (1, 154, 0), (1, 155, 0), (2, 0, 0), (2, 0, 1), (2, 0, 2), (2, 0, 3), (2, 0, 4), (3, 0, 2)] true μ μ10 := hF_μ8.trans (hC_μ10.mono (by decide +kernel) (by decide))
    have hr_μ10 : μ10.2.2 = μ.2.2 := (hC_μ10.2 rfl : μ10.2.2 = μ8.2.2).trans hr_μ8
    try rw [hr_μ10]
    refine ok_bw (k_X6_goOn a1 (s_X0_apply r3 r9 r11) μ10 hI_μ10) ?_
    rintro μ12 ⟨hI_μ12, hC_μ12⟩
    have hF_μ12 : Fr [(0, 30, 5), (0, 151, 5), (0, 151, 6), (1, 33, 0), (1, 34, 0), (1, 154, 0), (1, 155, 0), (2, 0, 0), (2, 0, 1), (2, 0, 2), (2, 0, 3), (2, 0, 4), (3, 0, 2)] true μ μ12 := hF_μ10.trans (hC_μ12.mono (by decide +kernel) (by decide))
    have hr_μ12 : μ12.2.2 = μ.2.2 := (hC_μ12.2 rfl : μ12.2.2 = μ10.2.2).trans hr_μ10
    try rw [hr_μ12]
    have g14 := rgc_0_4 (sel_0 (μ.2.2 151 8)) hI_μ12
    have f15 : (μ12.1 (sel 0 (μ.2.2 151 8)) 4).toInt = (μ.1 (sel 0 (μ.2.2 151 8)) 4).toInt := congrArg Int32.toInt ((hC_μ12.1 _ _ (cls_free (by decide +kernel) (sel_0 (μ.2.2 151 8)))).trans ((hC_μ10.1 _ _ (cls_free (by decide +kernel) (sel_0 (μ.2.2 151 8)))).trans ((hC_μ8.1 _ _ (cls_free (by decide +kernel) (sel_0 (μ.2.2 151 8)))).trans ((hC_μ4.1 _ _ (cls_free (by decide +kernel) (sel_0 (μ.2.2 151 8)))).trans (hC_μ2.1 _ _ (cls_free (by decide +kernel) (sel_0 (μ.2.2 151 8))))))))
    exact ok_some ⟨hI_μ12, hF_μ12, by dsimp only; (try simp only [hr_μ12]); omega⟩
  intro c7
  rw [ti_eq] at c7
  refine ok_ite ?_ ?_
  · intro c16
    rw [ti_eq] at c16
    refine ok_bd (k_X6_num a1 (0 : Int32) μ4 hI_μ4) ?_
    rintro r18 μ17 ⟨hI_μ17, hC_μ17⟩
    have hI_μ17 : IX μ17 := hI_μ17
    have hC_μ17 : Fr [] true μ4 μ17 := hC_μ17
    have hF_μ17 : Fr [(0, 30, 5), (0, 151, 5), (0, 151, 6), (1, 33, 0), (1, 34, 0), (1, 154, 0), (1, 155, 0), (2, 0, 0), (2, 0, 1), (2, 0, 2), (2, 0, 3), (2, 0, 4), (3, 0, 2)] true μ μ17 := hF_μ4.trans (hC_μ17.mono (by decide +kernel) (by decide))
    have hr_μ17 : μ17.2.2 = μ.2.2 := (hC_μ17.2 rfl : μ17.2.2 = μ4.2.2).trans hr_μ4
    try rw [hr_μ17]
    refine ok_bw (k_X6_goOn a1 (s_X0_turn (36 : Int32) r18) μ17 hI_μ17) ?_
    rintro μ19 ⟨hI_μ19, hC_μ19⟩
    have hF_μ19 : Fr [(0, 30, 5), (0, 151, 5), (0, 151, 6), (1, 33, 0), (1, 34, 0), (1, 154, 0), (1, 155, 0), (2, 0, 0), (2, 0, 1), (2, 0, 2), (2, 0, 3), (2, 0, 4), (3, 0, 2)] true μ μ19 := hF_μ17.trans (hC_μ19.mono (by decide +kernel) (by decide))
    have hr_μ19 : μ19.2.2 = μ.2.2 := (hC_μ19.2 rfl : μ19.2.2 = μ17.2.2).trans hr_μ17
    try rw [hr_μ19]
    have g21 := rgc_0_4 (sel_0 (μ.2.2 151 8)) hI_μ19
    have f22 : (μ19.1 (sel 0 (μ.2.2 151 8)) 4).toInt = (μ.1 (sel 0 (μ.2.2 151 8)) 4).toInt := congrArg Int32.toInt ((hC_μ19.1 _ _ (cls_free (by decide +kernel) (sel_0 (μ.2.2 151 8)))).trans ((hC_μ17.1 _ _ (cls_free (by decide +kernel) (sel_0 (μ.2.2 151 8)))).trans ((hC_μ4.1 _ _ (cls_free (by decide +kernel) (sel_0 (μ.2.2 151 8)))).trans (hC_μ2.1 _ _ (cls_free (by decide +kernel) (sel_0 (μ.2.2 151 8)))))))
    exact ok_some ⟨hI_μ19, hF_μ19, by dsimp only; (try simp only [hr_μ19]); omega⟩
  intro c16
  rw [ti_eq] at c16
  refine ok_ite ?_ ?_
  · intro c23
    rw [ti_eq] at c23
    refine ok_bd (k_X6_num a1 (0 : Int32) μ4 hI_μ4) ?_
    rintro r25 μ24 ⟨hI_μ24, hC_μ24⟩
    have hI_μ24 : IX μ24 := hI_μ24
    have hC_μ24 : Fr [] true μ4 μ24 := hC_μ24
    have hF_μ24 : Fr [(0, 30, 5), (0, 151, 5), (0, 151, 6), (1, 33, 0), (1, 34, 0), (1, 154, 0), (1, 155, 0), (2, 0, 0), (2, 0, 1), (2, 0, 2), (2, 0, 3), (2, 0, 4), (3, 0, 2)] true μ μ24 := hF_μ4.trans (hC_μ24.mono (by decide +kernel) (by decide))
    have hr_μ24 : μ24.2.2 = μ.2.2 := (hC_μ24.2 rfl : μ24.2.2 = μ4.2.2).trans hr_μ4
    try rw [hr_μ24]
    refine ok_bw (k_X6_goOn a1 (s_X0_turn (94 : Int32) r25) μ24 hI_μ24) ?_
    rintro μ26 ⟨hI_μ26, hC_μ26⟩
    have hF_μ26 : Fr [(0, 30, 5), (0, 151, 5), (0, 151, 6), (1, 33, 0), (1, 34, 0), (1, 154, 0), (1, 155, 0), (2, 0, 0), (2, 0, 1), (2, 0, 2), (2, 0, 3), (2, 0, 4), (3, 0, 2)] true μ μ26 := hF_μ24.trans (hC_μ26.mono (by decide +kernel) (by decide))
    have hr_μ26 : μ26.2.2 = μ.2.2 := (hC_μ26.2 rfl : μ26.2.2 = μ24.2.2).trans hr_μ24
    try rw [hr_μ26]
    have g28 := rgc_0_4 (sel_0 (μ.2.2 151 8)) hI_μ26
    have f29 : (μ26.1 (sel 0 (μ.2.2 151 8)) 4).toInt = (μ.1 (sel 0 (μ.2.2 151 8)) 4).toInt := congrArg Int32.toInt ((hC_μ26.1 _ _ (cls_free (by decide +kernel) (sel_0 (μ.2.2 151 8)))).trans ((hC_μ24.1 _ _ (cls_free (by decide +kernel) (sel_0 (μ.2.2 151 8)))).trans ((hC_μ4.1 _ _ (cls_free (by decide +kernel) (sel_0 (μ.2.2 151 8)))).trans (hC_μ2.1 _ _ (cls_free (by decide +kernel) (sel_0 (μ.2.2 151 8)))))))
    exact ok_some ⟨hI_μ26, hF_μ26, by dsimp only; (try simp only [hr_μ26]); omega⟩
  intro c23
  rw [ti_eq] at c23
  refine ok_ite ?_ ?_
  · intro c30
    rw [ti_eq] at c30
    refine ok_bd (k_X6_num a1 (0 : Int32) μ4 hI_μ4) ?_
    rintro r32 μ31 ⟨hI_μ31, hC_μ31⟩
    have hI_μ31 : IX μ31 := hI_μ31
    have hC_μ31 : Fr [] true μ4 μ31 := hC_μ31
    have hF_μ31 : Fr [(0, 30, 5), (0, 151, 5), (0, 151, 6), (1, 33, 0), (1, 34, 0), (1, 154, 0), (1, 155, 0), (2, 0, 0), (2, 0, 1), (2, 0, 2), (2, 0, 3), (2, 0, 4), (3, 0, 2)] true μ μ31 := hF_μ4.trans (hC_μ31.mono (by decide +kernel) (by decide))
    have hr_μ31 : μ31.2.2 = μ.2.2 := (hC_μ31.2 rfl : μ31.2.2 = μ4.2.2).trans hr_μ4
    try rw [hr_μ31]
    refine ok_bw (k_X6_goOn a1 (s_X0_turn (35 : Int32) r32) μ31 hI_μ31) ?_
    rintro μ33 ⟨hI_μ33, hC_μ33⟩
    have hF_μ33 : Fr [(0, 30, 5), (0, 151, 5), (0, 151, 6), (1, 33, 0), (1, 34, 0), (1, 154, 0), (1, 155, 0), (2, 0, 0), (2, 0, 1), (2, 0, 2), (2, 0, 3), (2, 0, 4), (3, 0, 2)] true μ μ33 := hF_μ31.trans (hC_μ33.mono (by decide +kernel) (by decide))
    have hr_μ33 : μ33.2.2 = μ.2.2 := (hC_μ33.2 rfl : μ33.2.2 = μ31.2.2).trans hr_μ31
    try rw [hr_μ33]
    have g35 := rgc_0_4 (sel_0 (μ.2.2 151 8)) hI_μ33
    have f36 : (μ33.1 (sel 0 (μ.2.2 151 8)) 4).toInt = (μ.1 (sel 0 (μ.2.2 151 8)) 4).toInt := congrArg Int32.toInt ((hC_μ33.1 _ _ (cls_free (by decide +kernel) (sel_0 (μ.2.2 151 8)))).trans ((hC_μ31.1 _ _ (cls_free (by decide +kernel) (sel_0 (μ.2.2 151 8)))).trans ((hC_μ4.1 _ _ (cls_free (by decide +kernel) (sel_0 (μ.2.2 151 8)))).trans (hC_μ2.1 _ _ (cls_free (by decide +kernel) (sel_0 (μ.2.2 151 8)))))))
    exact ok_some ⟨hI_μ33, hF_μ33, by dsimp only; (try simp only [hr_μ33]); omega⟩
  intro c30
  rw [ti_eq] at c30
  refine ok_ite ?_ ?_
  · intro c37
    rw [ti_eq] at c37
    refine ok_bd (k_X6_operand a1 (0 : Int32) μ4 hI_μ4) ?_
    rintro r39 μ38 ⟨hI_μ38, hC_μ38⟩
    have hI_μ38 : IX μ38 := hI_μ38
    have hC_μ38 : Fr [] true μ4 μ38 := hC_μ38
    have hF_μ38 : Fr [(0, 30, 5), (0, 151, 5), (0, 151, 6), (1, 33, 0), (1, 34, 0), (1, 154, 0), (1, 155, 0), (2, 0, 0), (2, 0, 1), (2, 0, 2), (2, 0, 3), (2, 0, 4), (3, 0, 2)] true μ μ38 := hF_μ4.trans (hC_μ38.mono (by decide +kernel) (by decide))
    have hr_μ38 : μ38.2.2 = μ.2.2 := (hC_μ38.2 rfl : μ38.2.2 = μ4.2.2).trans hr_μ4
    try rw [hr_μ38]
    refine ok_bd (k_X8_firstOf r39 μ38 hI_μ38) ?_
    rintro r41 μ40 ⟨hI_μ40, hC_μ40⟩
    have hI_μ40 : IX μ40 := hI_μ40
    have hC_μ40 : Fr [] true μ38 μ40 := hC_μ40
    have hF_μ40 : Fr [(0, 30, 5), (0, 151, 5), (0, 151, 6), (1, 33, 0), (1, 34, 0), (1, 154, 0), (1, 155, 0), (2, 0, 0), (2, 0, 1), (2, 0, 2), (2, 0, 3), (2, 0, 4), (3, 0, 2)] true μ μ40 := hF_μ38.trans (hC_μ40.mono (by decide +kernel) (by decide))
    have hr_μ40 : μ40.2.2 = μ.2.2 := (hC_μ40.2 rfl : μ40.2.2 = μ38.2.2).trans hr_μ38
    try rw [hr_μ40]
    refine ok_bw (k_X6_goOn a1 r41 μ40 hI_μ40) ?_
    rintro μ42 ⟨hI_μ42, hC_μ42⟩
    have hF_μ42 : Fr [(0, 30, 5), (0, 151, 5), (0, 151, 6), (1, 33, 0), (1, 34, 0), (1, 154, 0), (1, 155, 0), (2, 0, 0), (2, 0, 1), (2, 0, 2), (2, 0, 3), (2, 0, 4), (3, 0, 2)] true μ μ42 := hF_μ40.trans (hC_μ42.mono (by decide +kernel) (by decide))
    have hr_μ42 : μ42.2.2 = μ.2.2 := (hC_μ42.2 rfl : μ42.2.2 = μ40.2.2).trans hr_μ40
    try rw [hr_μ42]
    have g44 := rgc_0_4 (sel_0 (μ.2.2 151 8)) hI_μ42
    have f45 : (μ42.1 (sel 0 (μ.2.2 151 8)) 4).toInt = (μ.1 (sel 0 (μ.2.2 151 8)) 4).toInt := congrArg Int32.toInt ((hC_μ42.1 _ _ (cls_free (by decide +kernel) (sel_0 (μ.2.2 151 8)))).trans ((hC_μ40.1 _ _ (cls_free (by decide +kernel) (sel_0 (μ.2.2 151 8)))).trans ((hC_μ38.1 _ _ (cls_free (by decide +kernel) (sel_0 (μ.2.2 151 8)))).trans ((hC_μ4.1 _ _ (cls_free (by decide +kernel) (sel_0 (μ.2.2 151 8)))).trans (hC_μ2.1 _ _ (cls_free (by decide +kernel) (sel_0 (μ.2.2 151 8))))))))
    exact ok_some ⟨hI_μ42, hF_μ42, by dsimp only; (try simp only [hr_μ42]); omega⟩
  intro c37
  rw [ti_eq] at c37
  refine ok_ite ?_ ?_
  · intro c46
    rw [ti_eq] at c46
    refine ok_bd (k_X6_operand a1 (0 : Int32) μ4 hI_μ4) ?_
    rintro r48 μ47 ⟨hI_μ47, hC_μ47⟩
    have hI_μ47 : IX μ47 := hI_μ47
    have hC_μ47 : Fr [] true μ4 μ47 := hC_μ47
    have hF_μ47 : Fr [(0, 30, 5), (0, 151, 5), (0, 151, 6), (1, 33, 0), (1, 34, 0), (1, 154, 0), (1, 155, 0), (2, 0, 0), (2, 0, 1), (2, 0, 2), (2, 0, 3), (2, 0, 4), (3, 0, 2)] true μ μ47 := hF_μ4.trans (hC_μ47.mono (by decide +kernel) (by decide))
    have hr_μ47 : μ47.2.2 = μ.2.2 := (hC_μ47.2 rfl : μ47.2.2 = μ4.2.2).trans hr_μ4
    try rw [hr_μ47]
    refine ok_bd (k_X8_secondOf r48 μ47 hI_μ47) ?_
    rintro r50 μ49 ⟨hI_μ49, hC_μ49⟩
    have hI_μ49 : IX μ49 := hI_μ49
    have hC_μ49 : Fr [] true μ47 μ49 := hC_μ49
    have hF_μ49 : Fr [(0, 30, 5), (0, 151, 5), (0, 151, 6), (1, 33, 0), (1, 34, 0), (1, 154, 0), (1, 155, 0), (2, 0, 0), (2, 0, 1), (2, 0, 2), (2, 0, 3), (2, 0, 4), (3, 0, 2)] true μ μ49 := hF_μ47.trans (hC_μ49.mono (by decide +kernel) (by decide))
    have hr_μ49 : μ49.2.2 = μ.2.2 := (hC_μ49.2 rfl : μ49.2.2 = μ47.2.2).trans hr_μ47
    try rw [hr_μ49]
    refine ok_bw (k_X6_goOn a1 r50 μ49 hI_μ49) ?_
    rintro μ51 ⟨hI_μ51, hC_μ51⟩
    have hF_μ51 : Fr [(0, 30, 5), (0, 151, 5), (0, 151, 6), (1, 33, 0), (1, 34, 0), (1, 154, 0), (1, 155, 0), (2, 0, 0), (2, 0, 1), (2, 0, 2), (2, 0, 3), (2, 0, 4), (3, 0, 2)] true μ μ51 := hF_μ49.trans (hC_μ51.mono (by decide +kernel) (by decide))
    have hr_μ51 : μ51.2.2 = μ.2.2 := (hC_μ51.2 rfl : μ51.2.2 = μ49.2.2).trans hr_μ49
    try rw [hr_μ51]
    have g53 := rgc_0_4 (sel_0 (μ.2.2 151 8)) hI_μ51
    have f54 : (μ51.1 (sel 0 (μ.2.2 151 8)) 4).toInt = (μ.1 (sel 0 (μ.2.2 151 8)) 4).toInt := congrArg Int32.toInt ((hC_μ51.1 _ _ (cls_free (by decide +kernel) (sel_0 (μ.2.2 151 8)))).trans ((hC_μ49.1 _ _ (cls_free (by decide +kernel) (sel_0 (μ.2.2 151 8)))).trans ((hC_μ47.1 _ _ (cls_free (by decide +kernel) (sel_0 (μ.2.2 151 8)))).trans ((hC_μ4.1 _ _ (cls_free (by decide +kernel) (sel_0 (μ.2.2 151 8)))).trans (hC_μ2.1 _ _ (cls_free (by decide +kernel) (sel_0 (μ.2.2 151 8))))))))
    exact ok_some ⟨hI_μ51, hF_μ51, by dsimp only; (try simp only [hr_μ51]); omega⟩
  intro c46
  rw [ti_eq] at c46
  refine ok_ite ?_ ?_
  · intro c55
    rw [ti_eq] at c55
    refine ok_bd (k_X6_num a1 (0 : Int32) μ4 hI_μ4) ?_
    rintro r57 μ56 ⟨hI_μ56, hC_μ56⟩
    have hI_μ56 : IX μ56 := hI_μ56
    have hC_μ56 : Fr [] true μ4 μ56 := hC_μ56
    have hF_μ56 : Fr [(0, 30, 5), (0, 151, 5), (0, 151, 6), (1, 33, 0), (1, 34, 0), (1, 154, 0), (1, 155, 0), (2, 0, 0), (2, 0, 1), (2, 0, 2), (2, 0, 3), (2, 0, 4), (3, 0, 2)] true μ μ56 := hF_μ4.trans (hC_μ56.mono (by decide +kernel) (by decide))
    have hr_μ56 : μ56.2.2 = μ.2.2 := (hC_μ56.2 rfl : μ56.2.2 = μ4.2.2).trans hr_μ4
    try rw [hr_μ56]
    refine ok_ite ?_ ?_
    · intro c58
      rw [ti_eq] at c58
      refine ok_bd (k_X5_cell a1 (4 : Int32) μ56 hI_μ56 (by (try simp only [hr_μ56]); omega)) ?_
      rintro r60 μ59 ⟨hI_μ59, hC_μ59⟩
      have hI_μ59 : IX μ59 := hI_μ59
      have hC_μ59 : Fr [] true μ56 μ59 := hC_μ59
      have lo_r60 := ti_lo r60
      have hi_r60 := ti_hi r60
      have hF_μ59 : Fr [(0, 30, 5), (0, 151, 5), (0, 151, 6), (1, 33, 0), (1, 34, 0), (1, 154, 0), (1, 155, 0), (2, 0, 0), (2, 0, 1), (2, 0, 2), (2, 0, 3), (2, 0, 4), (3, 0, 2)] true μ μ59 := hF_μ56.trans (hC_μ59.mono (by decide +kernel) (by decide))
      have hr_μ59 : μ59.2.2 = μ.2.2 := (hC_μ59.2 rfl : μ59.2.2 = μ56.2.2).trans hr_μ56
      try rw [hr_μ59]
      refine ok_bw (k_X6_enter r60 μ59 hI_μ59) ?_
      rintro μ61 ⟨hI_μ61, hC_μ61⟩
      have hF_μ61 : Fr [(0, 30, 5), (0, 151, 5), (0, 151, 6), (1, 33, 0), (1, 34, 0), (1, 154, 0), (1, 155, 0), (2, 0, 0), (2, 0, 1), (2, 0, 2), (2, 0, 3), (2, 0, 4), (3, 0, 2)] true μ μ61 := hF_μ59.trans (hC_μ61.mono (by decide +kernel) (by decide))
      have hr_μ61 : μ61.2.2 = μ.2.2 := (hC_μ61.2 rfl : μ61.2.2 = μ59.2.2).trans hr_μ59
      try rw [hr_μ61]
      have g63 := rgc_0_4 (sel_0 (μ.2.2 151 8)) hI_μ61
      have f64 : (μ61.1 (sel 0 (μ.2.2 151 8)) 4).toInt = (μ.1 (sel 0 (μ.2.2 151 8)) 4).toInt := congrArg Int32.toInt ((hC_μ61.1 _ _ (cls_free (by decide +kernel) (sel_0 (μ.2.2 151 8)))).trans ((hC_μ59.1 _ _ (cls_free (by decide +kernel) (sel_0 (μ.2.2 151 8)))).trans ((hC_μ56.1 _ _ (cls_free (by decide +kernel) (sel_0 (μ.2.2 151 8)))).trans ((hC_μ4.1 _ _ (cls_free (by decide +kernel) (sel_0 (μ.2.2 151 8)))).trans (hC_μ2.1 _ _ (cls_free (by decide +kernel) (sel_0 (μ.2.2 151 8))))))))
      exact ok_some ⟨hI_μ61, hF_μ61, by dsimp only; (try simp only [hr_μ61]); omega⟩
    · intro c58
      rw [ti_eq] at c58
      refine ok_bd (k_X5_cell a1 (3 : Int32) μ56 hI_μ56 (by (try simp only [hr_μ56]); omega)) ?_
      rintro r66 μ65 ⟨hI_μ65, hC_μ65⟩
      have hI_μ65 : IX μ65 := hI_μ65
      have hC_μ65 : Fr [] true μ56 μ65 := hC_μ65
      have lo_r66 := ti_lo r66
      have hi_r66 := ti_hi r66
      have hF_μ65 : Fr [(0, 30, 5), (0, 151, 5), (0, 151, 6), (1, 33, 0), (1, 34, 0), (1, 154, 0), (1, 155, 0), (2, 0, 0), (2, 0, 1), (2, 0, 2), (2, 0, 3), (2, 0, 4), (3, 0, 2)] true μ μ65 := hF_μ56.trans (hC_μ65.mono (by decide +kernel) (by decide))
      have hr_μ65 : μ65.2.2 = μ.2.2 := (hC_μ65.2 rfl : μ65.2.2 = μ56.2.2).trans hr_μ56
      try rw [hr_μ65]
      refine ok_bw (k_X6_enter r66 μ65 hI_μ65) ?_
      rintro μ67 ⟨hI_μ67, hC_μ67⟩
      have hF_μ67 : Fr [(0, 30, 5), (0, 151, 5), (0, 151, 6), (1, 33, 0), (1, 34, 0), (1, 154, 0), (1, 155, 0), (2, 0, 0), (2, 0, 1), (2, 0, 2), (2, 0, 3), (2, 0, 4), (3, 0, 2)] true μ μ67 := hF_μ65.trans (hC_μ67.mono (by decide +kernel) (by decide))
      have hr_μ67 : μ67.2.2 = μ.2.2 := (hC_μ67.2 rfl : μ67.2.2 = μ65.2.2).trans hr_μ65
      try rw [hr_μ67]
      have g69 := rgc_0_4 (sel_0 (μ.2.2 151 8)) hI_μ67
      have f70 : (μ67.1 (sel 0 (μ.2.2 151 8)) 4).toInt = (μ.1 (sel 0 (μ.2.2 151 8)) 4).toInt := congrArg Int32.toInt ((hC_μ67.1 _ _ (cls_free (by decide +kernel) (sel_0 (μ.2.2 151 8)))).trans ((hC_μ65.1 _ _ (cls_free (by decide +kernel) (sel_0 (μ.2.2 151 8)))).trans ((hC_μ56.1 _ _ (cls_free (by decide +kernel) (sel_0 (μ.2.2 151 8)))).trans ((hC_μ4.1 _ _ (cls_free (by decide +kernel) (sel_0 (μ.2.2 151 8)))).trans (hC_μ2.1 _ _ (cls_free (by decide +kernel) (sel_0 (μ.2.2 151 8))))))))
      exact ok_some ⟨hI_μ67, hF_μ67, by dsimp only; (try simp only [hr_μ67]); omega⟩
  intro c55
  rw [ti_eq] at c55
  refine ok_ite ?_ ?_
  · intro c71
    rw [ti_eq] at c71
    refine ok_bd (k_X6_num a1 (0 : Int32) μ4 hI_μ4) ?_
    rintro r73 μ72 ⟨hI_μ72, hC_μ72⟩
    have hI_μ72 : IX μ72 := hI_μ72
    have hC_μ72 : Fr [] true μ4 μ72 := hC_μ72
    have hF_μ72 : Fr [(0, 30, 5), (0, 151, 5), (0, 151, 6), (1, 33, 0), (1, 34, 0), (1, 154, 0), (1, 155, 0), (2, 0, 0), (2, 0, 1), (2, 0, 2), (2, 0, 3), (2, 0, 4), (3, 0, 2)] true μ μ72 := hF_μ4.trans (hC_μ72.mono (by decide +kernel) (by decide))
    have hr_μ72 : μ72.2.2 = μ.2.2 := (hC_μ72.2 rfl : μ72.2.2 = μ4.2.2).trans hr_μ4
    try rw [hr_μ72]
    have g76 := rgc_0_4 (sel_0 (μ.2.2 151 8)) hI_μ72
    have f77 : (μ72.1 (sel 0 (μ.2.2 151 8)) 4).toInt = (μ.1 (sel 0 (μ.2.2 151 8)) 4).toInt := congrArg Int32.toInt ((hC_μ72.1 _ _ (cls_free (by decide +kernel) (sel_0 (μ.2.2 151 8)))).trans ((hC_μ4.1 _ _ (cls_free (by decide +kernel) (sel_0 (μ.2.2 151 8)))).trans (hC_μ2.1 _ _ (cls_free (by decide +kernel) (sel_0 (μ.2.2 151 8))))))
    refine ok_bw (k_X1_writeOut (sel 0 (μ.2.2 151 8)) (sel_0 _) r73 μ72 hI_μ72 (by (try simp only [hr_μ72]); omega)) ?_
    rintro μ74 ⟨hI_μ74, hC_μ74, p_μ74⟩
    have hF_μ74 : Fr [(0, 30, 5), (0, 151, 5), (0, 151, 6), (1, 33, 0), (1, 34, 0), (1, 154, 0), (1, 155, 0), (2, 0, 0), (2, 0, 1), (2, 0, 2), (2, 0, 3), (2, 0, 4), (3, 0, 2)] true μ μ74 := hF_μ72.trans (hC_μ74.mono (by decide +kernel) (by decide))
    have hr_μ74 : μ74.2.2 = μ.2.2 := (hC_μ74.2 rfl : μ74.2.2 = μ72.2.2).trans hr_μ72
    try rw [hr_μ74]
    try simp only [hr_μ74, hr_μ72] at p_μ74
    refine ok_bw (k_X6_goOn a1 (0 : Int64) μ74 hI_μ74) ?_
    rintro μ78 ⟨hI_μ78, hC_μ78⟩
    have hF_μ78 : Fr [(0, 30, 5), (0, 151, 5), (0, 151, 6), (1, 33, 0), (1, 34, 0), (1, 154, 0), (1, 155, 0), (2, 0, 0), (2, 0, 1), (2, 0, 2), (2, 0, 3), (2, 0, 4), (3, 0, 2)] true μ μ78 := hF_μ74.trans (hC_μ78.mono (by decide +kernel) (by decide))
    have hr_μ78 : μ78.2.2 = μ.2.2 := (hC_μ78.2 rfl : μ78.2.2 = μ74.2.2).trans hr_μ74
    try rw [hr_μ78]
    have g80 := rgc_0_4 (sel_0 (μ.2.2 151 8)) hI_μ78
    exact ok_some ⟨hI_μ78, hF_μ78, by dsimp only; (try simp only [hr_μ78]); omega⟩
  intro c71
  rw [ti_eq] at c71
  refine ok_ite ?_ ?_
  · intro c81
    rw [ti_eq] at c81
    refine ok_bd (k_X6_num a1 (0 : Int32) μ4 hI_μ4) ?_
    rintro r83 μ82 ⟨hI_μ82, hC_μ82⟩
    have hI_μ82 : IX μ82 := hI_μ82
    have hC_μ82 : Fr [] true μ4 μ82 := hC_μ82
    have hF_μ82 : Fr [(0, 30, 5), (0, 151, 5), (0, 151, 6), (1, 33, 0), (1, 34, 0), (1, 154, 0), (1, 155, 0), (2, 0, 0), (2, 0, 1), (2, 0, 2), (2, 0, 3), (2, 0, 4), (3, 0, 2)] true μ μ82 := hF_μ4.trans (hC_μ82.mono (by decide +kernel) (by decide))
    have hr_μ82 : μ82.2.2 = μ.2.2 := (hC_μ82.2 rfl : μ82.2.2 = μ4.2.2).trans hr_μ4
    try rw [hr_μ82]
    refine ok_bd (k_X1_put (sel 0 (μ.2.2 151 8)) (sel_0 _) r3 (s_X0_stored r3 r83) μ82 hI_μ82) ?_
    rintro r85 μ84 ⟨hI_μ84, hC_μ84⟩
    have hI_μ84 : IX μ84 := hI_μ84
    have hC_μ84 : Fr [(3, 0, 2)] true μ82 μ84 := hC_μ84
    have hF_μ84 : Fr [(0, 30, 5), (0, 151, 5), (0, 151, 6), (1, 33, 0), (1, 34, 0), (1, 154, 0), (1, 155, 0), (2, 0, 0), (2, 0, 1), (2, 0, 2), (2, 0, 3), (2, 0, 4), (3, 0, 2)] true μ μ84 := hF_μ82.trans (hC_μ84.mono (by decide +kernel) (by decide))
    have hr_μ84 : μ84.2.2 = μ.2.2 := (hC_μ84.2 rfl : μ84.2.2 = μ82.2.2).trans hr_μ82
    try rw [hr_μ84]
    refine ok_bw (k_X6_goOn a1 r85 μ84 hI_μ84) ?_
    rintro μ86 ⟨hI_μ86, hC_μ86⟩
    have hF_μ86 : Fr [(0, 30, 5), (0, 151, 5), (0, 151, 6), (1, 33, 0), (1, 34, 0), (1, 154, 0), (1, 155, 0), (2, 0, 0), (2, 0, 1), (2, 0, 2), (2, 0, 3), (2, 0, 4), (3, 0, 2)] true μ μ86 := hF_μ84.trans (hC_μ86.mono (by decide +kernel) (by decide))
    have hr_μ86 : μ86.2.2 = μ.2.2 := (hC_μ86.2 rfl : μ86.2.2 = μ84.2.2).trans hr_μ84
    try rw [hr_μ86]
    have g88 := rgc_0_4 (sel_0 (μ.2.2 151 8)) hI_μ86
    have f89 : (μ86.1 (sel 0 (μ.2.2 151 8)) 4).toInt = (μ.1 (sel 0 (μ.2.2 151 8)) 4).toInt := congrArg Int32.toInt ((hC_μ86.1 _ _ (cls_free (by decide +kernel) (sel_0 (μ.2.2 151 8)))).trans ((hC_μ84.1 _ _ (cls_free (by decide +kernel) (sel_0 (μ.2.2 151 8)))).trans ((hC_μ82.1 _ _ (cls_free (by decide +kernel) (sel_0 (μ.2.2 151 8)))).trans ((hC_μ4.1 _ _ (cls_free (by decide +kernel) (sel_0 (μ.2.2 151 8)))).trans (hC_μ2.1 _ _ (cls_free (by decide +kernel) (sel_0 (μ.2.2 151 8))))))))
    exact ok_some ⟨hI_μ86, hF_μ86, by dsimp only; (try simp only [hr_μ86]); omega⟩
  intro c81
  rw [ti_eq] at c81
  refine ok_ite ?_ ?_
  · intro c90
    rw [ti_eq] at c90
    refine ok_bd (k_X1_get (sel 0 (μ.2.2 151 8)) (sel_0 _) r3 μ4 hI_μ4) ?_
    rintro r92 μ91 ⟨hI_μ91, hC_μ91⟩
    have hI_μ91 : IX μ91 := hI_μ91
    have hC_μ91 : Fr [] true μ4 μ91 := hC_μ91
    have hF_μ91 : Fr [(0, 30, 5), (0, 151, 5), (0, 151, 6), (1, 33, 0), (1, 34, 0), (1, 154, 0), (1, 155, 0), (2, 0, 0), (2, 0, 1), (2, 0, 2), (2, 0, 3), (2, 0, 4), (3, 0, 2)] true μ μ91 := hF_μ4.trans (hC_μ91.mono (by decide +kernel) (by decide))
    have hr_μ91 : μ91.2.2 = μ.2.2 := (hC_μ91.2 rfl : μ91.2.2 = μ4.2.2).trans hr_μ4
    try rw [hr_μ91]
    refine ok_bw (k_X6_goOn a1 r92 μ91 hI_μ91) ?_
    rintro μ93 ⟨hI_μ93, hC_μ93⟩
    have hF_μ93 : Fr [(0, 30, 5), (0, 151, 5), (0, 151, 6), (1, 33, 0), (1, 34, 0), (1, 154, 0), (1, 155, 0), (2, 0, 0), (2, 0, 1), (2, 0, 2), (2, 0, 3), (2, 0, 4), (3, 0, 2)] true μ μ93 := hF_μ91.trans (hC_μ93.mono (by decide +kernel) (by decide))
    have hr_μ93 : μ93.2.2 = μ.2.2 := (hC_μ93.2 rfl : μ93.2.2 = μ91.2.2).trans hr_μ91
    try rw [hr_μ93]
    have g95 := rgc_0_4 (sel_0 (μ.2.2 151 8)) hI_μ93
    have f96 : (μ93.1 (sel 0 (μ.2.2 151 8)) 4).toInt = (μ.1 (sel 0 (μ.2.2 151 8)) 4).toInt := congrArg Int32.toInt ((hC_μ93.1 _ _ (cls_free (by decide +kernel) (sel_0 (μ.2.2 151 8)))).trans ((hC_μ91.1 _ _ (cls_free (by decide +kernel) (sel_0 (μ.2.2 151 8)))).trans ((hC_μ4.1 _ _ (cls_free (by decide +kernel) (sel_0 (μ.2.2 151 8)))).trans (hC_μ2.1 _ _ (cls_free (by decide +kernel) (sel_0 (μ.2.2 151 8)))))))
    exact ok_some ⟨hI_μ93, hF_μ93, by dsimp only; (try simp only [hr_μ93]); omega⟩
  intro c90
  rw [ti_eq] at c90
  refine ok_ite ?_ ?_
  · intro c97
    rw [ti_eq] at c97
    refine ok_bw (k_X6_makePair a1 μ4 hI_μ4) ?_
    rintro μ98 ⟨hI_μ98, hC_μ98⟩
    have hF_μ98 : Fr [(0, 30, 5), (0, 151, 5), (0, 151, 6), (1, 33, 0), (1, 34, 0), (1, 154, 0), (1, 155, 0), (2, 0, 0), (2, 0, 1), (2, 0, 2), (2, 0, 3), (2, 0, 4), (3, 0, 2)] true μ μ98 := hF_μ4.trans (hC_μ98.mono (by decide +kernel) (by decide))
    have hr_μ98 : μ98.2.2 = μ.2.2 := (hC_μ98.2 rfl : μ98.2.2 = μ4.2.2).trans hr_μ4
    try rw [hr_μ98]
    have g100 := rgc_0_4 (sel_0 (μ.2.2 151 8)) hI_μ98
    have f101 : (μ98.1 (sel 0 (μ.2.2 151 8)) 4).toInt = (μ.1 (sel 0 (μ.2.2 151 8)) 4).toInt := congrArg Int32.toInt ((hC_μ98.1 _ _ (cls_free (by decide +kernel) (sel_0 (μ.2.2 151 8)))).trans ((hC_μ4.1 _ _ (cls_free (by decide +kernel) (sel_0 (μ.2.2 151 8)))).trans (hC_μ2.1 _ _ (cls_free (by decide +kernel) (sel_0 (μ.2.2 151 8))))))
    exact ok_some ⟨hI_μ98, hF_μ98, by dsimp only; (try simp only [hr_μ98]); omega⟩
  intro c97
  rw [ti_eq] at c97
  refine ok_ite ?_ ?_
  · intro c102
    rw [ti_eq] at c102
    refine ok_bw (k_X6_call a1 r3 μ4 hI_μ4) ?_
    rintro μ103 ⟨hI_μ103, hC_μ103⟩
    have hF_μ103 : Fr [(0, 30, 5), (0, 151, 5), (0, 151, 6), (1, 33, 0), (1, 34, 0), (1, 154, 0), (1, 155, 0), (2, 0, 0), (2, 0, 1), (2, 0, 2), (2, 0, 3), (2, 0, 4), (3, 0, 2)] true μ μ103 := hF_μ4.trans (hC_μ103.mono (by decide +kernel) (by decide))
    have hr_μ103 : μ103.2.2 = μ.2.2 := (hC_μ103.2 rfl : μ103.2.2 = μ4.2.2).trans hr_μ4
    try rw [hr_μ103]
    have g105 := rgc_0_4 (sel_0 (μ.2.2 151 8)) hI_μ103
    have f106 : (μ103.1 (sel 0 (μ.2.2 151 8)) 4).toInt = (μ.1 (sel 0 (μ.2.2 151 8)) 4).toInt := congrArg Int32.toInt ((hC_μ103.1 _ _ (cls_free (by decide +kernel) (sel_0 (μ.2.2 151 8)))).trans ((hC_μ4.1 _ _ (cls_free (by decide +kernel) (sel_0 (μ.2.2 151 8)))).trans (hC_μ2.1 _ _ (cls_free (by decide +kernel) (sel_0 (μ.2.2 151 8))))))
    exact ok_some ⟨hI_μ103, hF_μ103, by dsimp only; (try simp only [hr_μ103]); omega⟩
  intro c102
  rw [ti_eq] at c102
  refine ok_bv (fun μ107 e_μ107 => ?_)
  have hI_μ107 : IX μ107 := by rw [e_μ107]; exact IX_F hI_μ4 (rtc_0_0 (sel_0 (μ.2.2 151 8)) _)
  have hF_μ107 : Fr [(0, 30, 5), (0, 151, 5), (0, 151, 6), (1, 33, 0), (1, 34, 0), (1, 154, 0), (1, 155, 0), (2, 0, 0), (2, 0, 1), (2, 0, 2), (2, 0, 3), (2, 0, 4), (3, 0, 2)] true μ μ107 := by rw [e_μ107]; exact Fr.putc (ci := 0) hF_μ4 (by decide +kernel) (sel_0 (μ.2.2 151 8))
  have v_μ107 : (μ107.1 (sel 0 (μ.2.2 151 8)) 0).toInt = 4 := by rw [e_μ107, sF_v]; exact TI.e (n := 4) (TI.lit (by decide))
  have hr_μ107 : μ107.2.2 = μ.2.2 := (by rw [e_μ107]; rfl : μ107.2.2 = μ4.2.2).trans hr_μ4
  try rw [hr_μ107]
  have g108 := rgc_0_4 (sel_0 (μ.2.2 151 8)) hI_μ107
  have f109 : (μ107.1 (sel 0 (μ.2.2 151 8)) 4).toInt = (μ.1 (sel 0 (μ.2.2 151 8)) 4).toInt := congrArg Int32.toInt (((by rw [e_μ107]; exact sF_k (by decide) : μ107.1 (sel 0 (μ.2.2 151 8)) 4 = μ4.1 (sel 0 (μ.2.2 151 8)) 4)).trans ((hC_μ4.1 _ _ (cls_free (by decide +kernel) (sel_0 (μ.2.2 151 8)))).trans (hC_μ2.1 _ _ (cls_free (by decide +kernel) (sel_0 (μ.2.2 151 8))))))
  exact ok_some ⟨hI_μ107, hF_μ107, by dsimp only; (try simp only [hr_μ107]); omega⟩
