set_option maxHeartbeats 4000000 in
set_option maxRecDepth 100000 in
theorem k_X7_runTask_b131 : ∀ (n : Nat) (a6 : Int32) (μ : Mem), IX μ → (0 ≤ (a6).toInt ∧ (a6).toInt ≤ 1000000 ∧ (μ.1 (sel 0 (μ.2.2 148 4)) 4).toInt ≤ (a6).toInt ∧ 1000000 - (a6).toInt < n) → ok (p_X7_runTask_b131 n a6 μ) (fun q => IX q ∧ Fr [(0, 30, 5), (0, 30, 7), (0, 30, 10), (0, 148, 5), (1, 33, 0), (1, 34, 0), (1, 38, 0), (2, 0, 0), (2, 0, 1), (2, 0, 2), (2, 0, 3), (2, 0, 4), (2, 0, 5), (2, 0, 6), (2, 1, 2), (2, 1, 3), (3, 0, 2)] false μ q) := by
  have li0 : (0 : Int32).toInt = 0 := by decide
  have li1 : (1 : Int32).toInt = 1 := by decide
  have li1000000 : (1000000 : Int32).toInt = 1000000 := by decide
  intro n
  induction n with
  | zero => intro a6 μ hI_μ hc; exact absurd hc (by have lo_a6 := ti_lo a6; have hi_a6 := ti_hi a6; omega)
  | succ n ih =>
    intro a6 μ hI_μ hc
    have hF_μ : Fr [(0, 30, 5), (0, 30, 7), (0, 30, 10), (0, 148, 5), (1, 33, 0), (1, 34, 0), (1, 38, 0), (2, 0, 0), (2, 0, 1), (2, 0, 2), (2, 0, 3), (2, 0, 4), (2, 0, 5), (2, 0, 6), (2, 1, 2), (2, 1, 3), (3, 0, 2)] false μ μ := Fr.rf
    have hr_μ : μ.2.2 = μ.2.2 := rfl
    rw [p_X7_runTask_b131_s]
    have lo_a6 := ti_lo a6
    have hi_a6 := ti_hi a6
    have g18 := rgc_0_4 (sel_0 (μ.2.2 148 4)) hI_μ
    refine ok_ite ?_ ?_
    · intro c19
      rw [ti_le] at c19
      exact ok_some ⟨hI_μ, hF_μ⟩
    · intro c19
      rw [ti_le] at c19
      refine ok_bd (k_X1_isRunning (sel 0 (μ.2.2 148 4)) (sel_0 _) μ hI_μ) ?_
      rintro r21 μ20 ⟨hq9, p_r21⟩
      obtain rfl : μ = μ20 := hq9
      dsimp only at p_r21
      have lo_r21 := ti_lo r21
      have hi_r21 := ti_hi r21
      refine ok_ite ?_ ?_
      · intro c22
        rw [ti_eq] at c22
        exact ok_some ⟨hI_μ, hF_μ⟩
      · intro c22
        rw [ti_eq] at c22
        refine ok_bw (k_X7_step  μ hI_μ (by omega)) ?_
        rintro μ23 ⟨hI_μ23, hC_μ23, p_μ23⟩
        have hF_μ23 : Fr [(0, 30, 5), (0, 30, 7), (0, 30, 10), (0, 148, 5), (1, 33, 0), (1, 34, 0), (1, 38, 0), (2, 0, 0), (2, 0, 1), (2, 0, 2), (2, 0, 3), (2, 0, 4), (2, 0, 5), (2, 0, 6), (2, 1, 2), (2, 1, 3), (3, 0, 2)] false μ μ23 := hF_μ.trans (hC_μ23.mono (by decide +kernel) (by decide))
        have hr_μ23 : μ23.2.2 = μ.2.2 := (hC_μ23.2 rfl : μ23.2.2 = μ.2.2).trans hr_μ
        try rw [hr_μ23]
        try simp only [hr_μ23, hr_μ] at p_μ23
        refine ok_bv (fun v25 ev25 => ?_)
        first | have tv25 : v25.toInt = (a6.toInt + 1) := (congrArg Int32.toInt ev25).trans (TI.e (n := (a6.toInt + 1)) (TI.add TI.rf (TI.lit (by decide)) (by omega) (by omega))) | have tv25 : v25.toInt ≤ a6.toInt + 1 := by rw [ev25]; exact ti_inc _ | skip
        have g26 := rgc_0_4 (sel_0 (μ.2.2 148 4)) hI_μ23
        exact ok_mono (ih v25 μ23 hI_μ23 (by (try simp only [hr_μ23]); omega)) (fun q h => ⟨h.1, hF_μ23.trans h.2⟩)
set_option maxHeartbeats 4000000 in
set_option maxRecDepth 100000 in
theorem k_X7_runTask_b63 : ∀ (n : Nat) (a2 : Nat) (q2 : sh 0 a2 = (0, 1)) (a5 : Int32) (a6 : Int32) (μ : Mem), IX μ → (0 ≤ (a6).toInt ∧ (a5).toInt ≤ 5 ∧ (μ.1 (sel 0 (μ.2.2 148 4)) 4).toInt ≤ 0 ∧ 2147483648 - (a6).toInt < n) → ok (p_X7_runTask_b63 n a2 a5 a6 μ) (fun q => IX q ∧ Fr [(0, 30, 5), (0, 30, 7), (0, 30, 10), (0, 148, 5), (1, 33, 0), (1, 34, 0), (1, 38, 0), (2, 0, 0), (2, 0, 1), (2, 0, 2), (2, 0, 3), (2, 0, 4), (2, 0, 5), (2, 0, 6), (2, 1, 2), (2, 1, 3), (3, 0, 2)] false μ q) := by
  have li0 : (0 : Int32).toInt = 0 := by decide
  have li1 : (1 : Int32).toInt = 1 := by decide
  have li2 : (2 : Int32).toInt = 2 := by decide
  have li40 : (40 : Int32).toInt = 40 := by decide
  intro n
  induction n with
  | zero => intro a2 q2 a5 a6 μ hI_μ hc; exact absurd hc (by have lo_a5 := ti_lo a5; have hi_a5 := ti_hi a5; have lo_a6 := ti_lo a6; have hi_a6 := ti_hi a6; omega)
  | succ n ih =>
    intro a2 q2 a5 a6 μ hI_μ hc
    have hF_μ : Fr [(0, 30, 5), (0, 30, 7), (0, 30, 10), (0, 148, 5), (1, 33, 0), (1, 34, 0), (1, 38, 0), (2, 0, 0), (2, 0, 1), (2, 0, 2), (2, 0, 3), (2, 0, 4), (2, 0, 5), (2, 0, 6), (2, 1, 2), (2, 1, 3), (3, 0, 2)] false μ μ := Fr.rf
    have hr_μ : μ.2.2 = μ.2.2 := rfl
    rw [p_X7_runTask_b63_s]
    have lo_a5 := ti_lo a5
    have hi_a5 := ti_hi a5
    have lo_a6 := ti_lo a6
    have hi_a6 := ti_hi a6
    have g13 := rgc_0_4 (sel_0 (μ.2.2 148 4)) hI_μ
    refine ok_ite ?_ ?_
    · intro c14
      rw [ti_le] at c14
      have g15 := ti_lo (μ.1 a2 3)
      have g15h := ti_hi (μ.1 a2 3)
      refine ok_bw (k_X7_call (μ.1 a2 3) a5 μ hI_μ (by omega)) ?_
      rintro μ16 ⟨hI_μ16, hC_μ16⟩
      have hF_μ16 : Fr [(0, 30, 5), (0, 30, 7), (0, 30, 10), (0, 148, 5), (1, 33, 0), (1, 34, 0), (1, 38, 0), (2, 0, 0), (2, 0, 1), (2, 0, 2), (2, 0, 3), (2, 0, 4), (2, 0, 5), (2, 0, 6), (2, 1, 2), (2, 1, 3), (3, 0, 2)] false μ μ16 := hF_μ.trans (hC_μ16.mono (by decide +kernel) (by decide))
      have hr_μ16 : μ16.2.2 = μ.2.2 := (hC_μ16.2 rfl : μ16.2.2 = μ.2.2).trans hr_μ
      try rw [hr_μ16]
      have g27 := rgc_0_4 (sel_0 (μ.2.2 148 4)) hI_μ16
      have f28 : (μ16.1 (sel 0 (μ.2.2 148 4)) 4).toInt = (μ.1 (sel 0 (μ.2.2 148 4)) 4).toInt := congrArg Int32.toInt (hC_μ16.1 _ _ (cls_free (by decide +kernel) (sel_0 (μ.2.2 148 4))))
      obtain ⟨fu, hfu0, hfu⟩ := fuel_ex
      rw [hfu0]
      exact ok_mono (k_X7_runTask_b131  fu (0 : Int32) μ16 hI_μ16 (by (try simp only [hr_μ16]); omega)) (fun q h => ⟨h.1, hF_μ16.trans h.2⟩)
    · intro c14
      rw [ti_le] at c14
      refine ok_gd (inb_iff.mpr (by omega)) ?_
      refine ok_bd (k_X8_weightOf (μ.2.1 150 a6.toNatClampNeg) μ hI_μ) ?_
      rintro r30 μ29 hq9
      obtain rfl : μ = μ29 := hq9
      have lo_r30 := ti_lo r30
      have hi_r30 := ti_hi r30
      refine ok_ite ?_ ?_
      · intro c31
        rw [ti_le] at c31
        refine ok_gd (inb_iff.mpr (by omega)) ?_
        refine ok_bw (k_X8_push (μ.2.1 150 a6.toNatClampNeg) μ hI_μ) ?_
        rintro μ32 ⟨hI_μ32, hC_μ32⟩
        have hF_μ32 : Fr [(0, 30, 5), (0, 30, 7), (0, 30, 10), (0, 148, 5), (1, 33, 0), (1, 34, 0), (1, 38, 0), (2, 0, 0), (2, 0, 1), (2, 0, 2), (2, 0, 3), (2, 0, 4), (2, 0, 5), (2, 0, 6), (2, 1, 2), (2, 1, 3), (3, 0, 2)] false μ μ32 := hF_μ.trans (hC_μ32.mono (by decide +kernel) (by decide))
        have hr_μ32 : μ32.2.2 = μ.2.2 := (hC_μ32.2 rfl : μ32.2.2 = μ.2.2).trans hr_μ
        try rw [hr_μ32]
        refine ok_bv (fun v34 ev34 => ?_)
        first | have tv34 : v34.toInt = (a6.toInt + 1) := (congrArg Int32.toInt ev34).trans (TI.e (n := (a6.toInt + 1)) (TI.add TI.rf (TI.lit (by decide)) (by omega) (by omega))) | have tv34 : v34.toInt ≤ a6.toInt + 1 := by rw [ev34]; exact ti_inc _ | skip
        have g35 := rgc_0_4 (sel_0 (μ.2.2 148 4)) hI_μ32
        have f36 : (μ32.1 (sel 0 (μ.2.2 148 4)) 4).toInt = (μ.1 (sel 0 (μ.2.2 148 4)) 4).toInt := congrArg Int32.toInt (hC_μ32.1 _ _ (cls_free (by decide +kernel) (sel_0 (μ.2.2 148 4))))
        exact ok_mono (ih a2 q2 a5 v34 μ32 hI_μ32 (by (try simp only [hr_μ32]); omega)) (fun q h => ⟨h.1, hF_μ32.trans h.2⟩)
      · intro c31
        rw [ti_le] at c31
        refine ok_bv (fun μ37 e_μ37 => ?_)
        have hI_μ37 : IX μ37 := by rw [e_μ37]; exact IX_F hI_μ (rtc_0_0 (sel_0 (μ.2.2 148 4)) _)
        have hF_μ37 : Fr [(0, 30, 5), (0, 30, 7), (0, 30, 10), (0, 148, 5), (1, 33, 0), (1, 34, 0), (1, 38, 0), (2, 0, 0), (2, 0, 1), (2, 0, 2), (2, 0, 3), (2, 0, 4), (2, 0, 5), (2, 0, 6), (2, 1, 2), (2, 1, 3), (3, 0, 2)] false μ μ37 := by rw [e_μ37]; exact Fr.putc (ci := 0) hF_μ (by decide +kernel) (sel_0 (μ.2.2 148 4))
        have v_μ37 : (μ37.1 (sel 0 (μ.2.2 148 4)) 0).toInt = 2 := by rw [e_μ37, sF_v]; exact TI.e (n := 2) (TI.lit (by decide))
        have hr_μ37 : μ37.2.2 = μ.2.2 := (by rw [e_μ37]; rfl : μ37.2.2 = μ.2.2).trans hr_μ
        try rw [hr_μ37]
        exact ok_some ⟨hI_μ37, hF_μ37⟩
set_option maxHeartbeats 4000000 in
set_option maxRecDepth 100000 in
theorem k_X7_runTask (a1 : Nat) (q1 : sh 0 a1 = (0, 2)) (a2 : Nat) (q2 : sh 0 a2 = (0, 1)) (a3 : Nat) (q3 : sh 0 a3 = (0, 1)) (a4 : Nat) (q4 : sh 0 a4 = (0, 0)) (μ : Mem) (hI_μ : IX μ) : ok (p_X7_runTask a1 a2 a3 a4 μ) (fun q => IX q ∧ Fr [(0, 30, 5), (0, 30, 7), (0, 30, 10), (0, 148, 5), (1, 33, 0), (1, 34, 0), (1, 38, 0), (2, 0, 0), (2, 0, 1), (2, 0, 2), (2, 0, 3), (2, 0, 4), (2, 0, 5), (2, 0, 6), (2, 1, 2), (2, 1, 3), (3, 0, 2)] false μ q) := by
  have li0 : (0 : Int32).toInt = 0 := by decide
  have li1 : (1 : Int32).toInt = 1 := by decide
  have hF_μ : Fr [(0, 30, 5), (0, 30, 7), (0, 30, 10), (0, 148, 5), (1, 33, 0), (1, 34, 0), (1, 38, 0), (2, 0, 0), (2, 0, 1), (2, 0, 2), (2, 0, 3), (2, 0, 4), (2, 0, 5), (2, 0, 6), (2, 1, 2), (2, 1, 3), (3, 0, 2)] false μ μ := Fr.rf
  have hr_μ : μ.2.2 = μ.2.2 := rfl
  rw [p_X7_runTask_eq]
  refine ok_bv (fun μ1 e_μ1 => ?_)
  have hI_μ1 : IX μ1 := by rw [e_μ1]; exact IX_R hI_μ
  have hF_μ1 : Fr [(0, 30, 5), (0, 30, 7), (0, 30, 10), (0, 148, 5), (1, 33, 0), (1, 34, 0), (1, 38, 0), (2, 0, 0), (2, 0, 1), (2, 0, 2), (2, 0, 3), (2, 0, 4), (2, 0, 5), (2, 0, 6), (2, 1, 2), (2, 1, 3), (3, 0, 2)] false μ μ1 := by rw [e_μ1]; exact ⟨hF_μ.1, fun h9 => absurd h9 (by decide)⟩
  have hr_μ1 : μ1.2.2 = μ1.2.2 := rfl
  refine ok_bv (fun μ2 e_μ2 => ?_)
  have hI_μ2 : IX μ2 := by rw [e_μ2]; exact IX_R hI_μ1
  have hF_μ2 : Fr [(0, 30, 5), (0, 30, 7), (0, 30, 10), (0, 148, 5), (1, 33, 0), (1, 34, 0), (1, 38, 0), (2, 0, 0), (2, 0, 1), (2, 0, 2), (2, 0, 3), (2, 0, 4), (2, 0, 5), (2, 0, 6), (2, 1, 2), (2, 1, 3), (3, 0, 2)] false μ μ2 := by rw [e_μ2]; exact ⟨hF_μ1.1, fun h9 => absurd h9 (by decide)⟩
  have hr_μ2 : μ2.2.2 = μ2.2.2 := rfl
  refine ok_bw (k_X1_clear (sel 0 (μ2.2.2 148 4)) (sel_0 _) μ2 hI_μ2) ?_
  rintro μ3 ⟨hI_μ3, hC_μ3⟩
  have hF_μ3 : Fr [(0, 30, 5), (0, 30, 7), (0, 30, 10), (0, 148, 5), (1, 33, 0), (1, 34, 0), (1, 38, 0), (2, 0, 0), (2, 0, 1), (2, 0, 2), (2, 0, 3), (2, 0, 4), (2, 0, 5), (2, 0, 6), (2, 1, 2), (2, 1, 3), (3, 0, 2)] false μ μ3 := hF_μ2.trans (hC_μ3.mono (by decide +kernel) (by decide))
  have hr_μ3 : μ3.2.2 = μ2.2.2 := (hC_μ3.2 rfl : μ3.2.2 = μ2.2.2).trans hr_μ2
  try rw [hr_μ3]
  refine ok_bw (k_X8_clear  μ3 hI_μ3) ?_
  rintro μ5 ⟨hI_μ5, hC_μ5⟩
  have hF_μ5 : Fr [(0, 30, 5), (0, 30, 7), (0, 30, 10), (0, 148, 5), (1, 33, 0), (1, 34, 0), (1, 38, 0), (2, 0, 0), (2, 0, 1), (2, 0, 2), (2, 0, 3), (2, 0, 4), (2, 0, 5), (2, 0, 6), (2, 1, 2), (2, 1, 3), (3, 0, 2)] false μ μ5 := hF_μ3.trans (hC_μ5.mono (by decide +kernel) (by decide))
  have hr_μ5 : μ5.2.2 = μ2.2.2 := (hC_μ5.2 rfl : μ5.2.2 = μ3.2.2).trans hr_μ3
  try rw [hr_μ5]
  refine ok_bd (k_X8_build a3 q3 149 (sh_f shx_149) 149 (sh_f shx_149) μ5 hI_μ5) ?_
  rintro r8 μ7 ⟨hI_μ7, hC_μ7, p_μ7⟩
  have hI_μ7 : IX μ7 := hI_μ7
  have hC_μ7 : Fr [(0, 30, 5), (1, 33, 0), (1, 34, 0)] true μ5 μ7 := hC_μ7
  dsimp only at p_μ7
  have lo_r8 := ti_lo r8
  have hi_r8 := ti_hi r8
  have hF_μ7 : Fr [(0, 30, 5), (0, 30, 7), (0, 30, 10), (0, 148, 5), (1, 33, 0), (1, 34, 0), (1, 38, 0), (2, 0, 0), (2, 0, 1), (2, 0, 2), (2, 0, 3), (2, 0, 4), (2, 0, 5), (2, 0, 6), (2, 1, 2), (2, 1, 3), (3, 0, 2)] false μ μ7 := hF_μ5.trans (hC_μ7.mono (by decide +kernel) (by decide))
  have l9 : (sh 0 149).2 = 8 := by rw [shx_149]
  have hr_μ7 : μ7.2.2 = μ2.2.2 := (hC_μ7.2 rfl : μ7.2.2 = μ5.2.2).trans hr_μ5
  try rw [hr_μ7]
  refine ok_bd (k_X8_build a2 q2 149 (sh_f shx_149) 150 (sh_f shx_150) μ7 hI_μ7) ?_
  rintro r11 μ10 ⟨hI_μ10, hC_μ10, p_μ10⟩
  have hI_μ10 : IX μ10 := hI_μ10
  have hC_μ10 : Fr [(0, 30, 5), (1, 33, 0), (1, 34, 0)] true μ7 μ10 := hC_μ10
  dsimp only at p_μ10
  have lo_r11 := ti_lo r11
  have hi_r11 := ti_hi r11
  have hF_μ10 : Fr [(0, 30, 5), (0, 30, 7), (0, 30, 10), (0, 148, 5), (1, 33, 0), (1, 34, 0), (1, 38, 0), (2, 0, 0), (2, 0, 1), (2, 0, 2), (2, 0, 3), (2, 0, 4), (2, 0, 5), (2, 0, 6), (2, 1, 2), (2, 1, 3), (3, 0, 2)] false μ μ10 := hF_μ7.trans (hC_μ10.mono (by decide +kernel) (by decide))
  have l12 : (sh 0 150).2 = 5 := by rw [shx_150]
  have hr_μ10 : μ10.2.2 = μ2.2.2 := (hC_μ10.2 rfl : μ10.2.2 = μ7.2.2).trans hr_μ7
  try rw [hr_μ10]
  have g38 := rgc_0_4 (sel_0 (μ2.2.2 148 4)) hI_μ10
  obtain ⟨fu, hfu0, hfu⟩ := fuel_ex
  rw [hfu0]
  exact ok_mono (k_X7_runTask_b63  fu a2 q2 r11 (0 : Int32) μ10 hI_μ10 (by (try simp only [hr_μ10]); omega)) (fun q h => ⟨h.1, hF_μ10.trans h.2⟩)

set_option maxHeartbeats 4000000 in
set_option maxRecDepth 100000 in
theorem k_X6_setRegister (a1 : Int32) (a2 : Int32) (a3 : Int64) (μ : Mem) (hI_μ : IX μ) : ok (p_X6_setRegister a1 a2 a3 μ) (fun q => IX q ∧ Fr [] true μ q) := by
  have li0 : (0 : Int32).toInt = 0 := by decide
  have li1 : (1 : Int32).toInt = 1 := by decide
  have li9548 : (9548 : Int32).toInt = 9548 := by decide
  have hF_μ : Fr [] true μ μ := Fr.rf
  have hr_μ : μ.2.2 = μ.2.2 := rfl
  rw [p_X6_setRegister_eq]
  have lo_a1 := ti_lo a1
  have hi_a1 := ti_hi a1
  have lo_a2 := ti_lo a2
  have hi_a2 := ti_hi a2
  refine ok_bv (fun v1 ev1 => ?_)
  first | have tv1 : v1.toInt = (a1.toInt + a2.toInt) := (congrArg Int32.toInt ev1).trans (TI.e (n := (a1.toInt + a2.toInt)) (TI.add TI.rf TI.rf (by omega) (by omega))) | skip
  refine ok_ite ?_ ?_
  · intro c2
    rw [ti_lt] at c2
    exact ok_some ⟨hI_μ, hF_μ⟩
  · intro c2
    rw [ti_lt] at c2
    refine ok_ite ?_ ?_
    · intro c3
      rw [ti_lt] at c3
      exact ok_some ⟨hI_μ, hF_μ⟩
    · intro c3
      rw [ti_lt] at c3
      refine ok_ite ?_ ?_
      · intro c4
        rw [ti_le] at c4
        exact ok_some ⟨hI_μ, hF_μ⟩
      · intro c4
        rw [ti_le] at c4
        refine ok_gd (inb_iff.mpr (by omega)) ?_
        refine ok_bv (fun μ5 e_μ5 => ?_)
        have hI_μ5 : IX μ5 := by rw [e_μ5]; exact IX_L hI_μ
        have hF_μ5 : Fr [] true μ μ5 := by rw [e_μ5]; exact hF_μ
        have hr_μ5 : μ5.2.2 = μ.2.2 := (by rw [e_μ5]; rfl : μ5.2.2 = μ.2.2).trans hr_μ
        try rw [hr_μ5]
        exact ok_some ⟨hI_μ5, hF_μ5⟩

set_option maxHeartbeats 4000000 in
set_option maxRecDepth 100000 in
theorem k_X5_firstOf (a1 : Int32) (μ : Mem) (hI_μ : IX μ) : ok (p_X5_firstOf a1 μ) (fun q => μ = q.2) := by
  have lim1 : (-1 : Int32).toInt = -1 := by decide
  have li0 : (0 : Int32).toInt = 0 := by decide
  have li1 : (1 : Int32).toInt = 1 := by decide
  have hF_μ : Fr [] true μ μ := Fr.rf
  have hr_μ : μ.2.2 = μ.2.2 := rfl
  rw [p_X5_firstOf_eq]
  have lo_a1 := ti_lo a1
  have hi_a1 := ti_hi a1
  refine ok_bd (k_X5_isBlock a1 μ hI_μ) ?_
  rintro r2 μ1 ⟨hq9, p_r2⟩
  obtain rfl : μ = μ1 := hq9
  dsimp only at p_r2
  have lo_r2 := ti_lo r2
  have hi_r2 := ti_hi r2
  refine ok_ite ?_ ?_
  · intro c3
    rw [ti_eq] at c3
    exact ok_some rfl
  · intro c3
    rw [ti_eq] at c3
    refine ok_gd (inb_iff.mpr (by omega)) ?_
    exact ok_some rfl

set_option maxHeartbeats 4000000 in
set_option maxRecDepth 100000 in
theorem k_X6_enter (a1 : Int32) (μ : Mem) (hI_μ : IX μ) : ok (p_X6_enter a1 μ) (fun q => IX q ∧ Fr [(0, 151, 5), (1, 154, 0), (1, 155, 0)] true μ q) := by
  have li0 : (0 : Int32).toInt = 0 := by decide
  have li1 : (1 : Int32).toInt = 1 := by decide
  have li744 : (744 : Int32).toInt = 744 := by decide
  have hF_μ : Fr [(0, 151, 5), (1, 154, 0), (1, 155, 0)] true μ μ := Fr.rf
  have hr_μ : μ.2.2 = μ.2.2 := rfl
  rw [p_X6_enter_eq]
  have lo_a1 := ti_lo a1
  have hi_a1 := ti_hi a1
  have g1 := rg_151_5 hI_μ
  refine ok_ite ?_ ?_
  · intro c2
    rw [ti_le] at c2
    exact ok_some ⟨hI_μ, hF_μ⟩
  · intro c2
    rw [ti_le] at c2
    refine ok_gd (inb_iff.mpr (by omega)) ?_
    refine ok_bv (fun μ3 e_μ3 => ?_)
    have hI_μ3 : IX μ3 := by rw [e_μ3]; exact IX_F hI_μ (rta_154 _ _)
    have hF_μ3 : Fr [(0, 151, 5), (1, 154, 0), (1, 155, 0)] true μ μ3 := by rw [e_μ3]; exact Fr.puta hF_μ (by decide +kernel)
    have hr_μ3 : μ3.2.2 = μ.2.2 := (by rw [e_μ3]; rfl : μ3.2.2 = μ.2.2).trans hr_μ
    try rw [hr_μ3]
    have g4 := rg_151_5 hI_μ3
    have f5 : (μ3.1 151 5).toInt = (μ.1 151 5).toInt := congrArg Int32.toInt ((by rw [e_μ3]; rfl : μ3.1 151 5 = μ.1 151 5))
    refine ok_bd (k_X5_firstOf a1 μ3 hI_μ3) ?_
    rintro r7 μ6 hq9
    obtain rfl : μ3 = μ6 := hq9
    have lo_r7 := ti_lo r7
    have hi_r7 := ti_hi r7
    try rw [hr_μ3]
    refine ok_gd (inb_iff.mpr (by omega)) ?_
    refine ok_bv (fun μ8 e_μ8 => ?_)
    have hI_μ8 : IX μ8 := by rw [e_μ8]; exact IX_F hI_μ3 (rta_155 _ _)
    have hF_μ8 : Fr [(0, 151, 5), (1, 154, 0), (1, 155, 0)] true μ μ8 := by rw [e_μ8]; exact Fr.puta hF_μ3 (by decide +kernel)
    have hr_μ8 : μ8.2.2 = μ.2.2 := (by rw [e_μ8]; rfl : μ8.2.2 = μ3.2.2).trans hr_μ3
    try rw [hr_μ8]
    have g9 := rg_151_5 hI_μ8
    have f10 : (μ8.1 151 5).toInt = (μ3.1 151 5).toInt := congrArg Int32.toInt ((by rw [e_μ8]; rfl : μ8.1 151 5 = μ3.1 151 5))
    refine ok_bv (fun μ11 e_μ11 => ?_)
    have hI_μ11 : IX μ11 := by rw [e_μ11]; exact IX_F hI_μ8 (rp_151_5 (by (try rw [TI.e (e := ((μ8.1 151 5) + (1 : Int32))) (n := ((μ8.1 151 5).toInt + 1)) (TI.add TI.rf (TI.lit (by decide)) (by omega) (by omega))]); omega))
    have hF_μ11 : Fr [(0, 151, 5), (1, 154, 0), (1, 155, 0)] true μ μ11 := by rw [e_μ11]; exact Fr.put hF_μ8 (by decide +kernel)
    have v_μ11 : (μ11.1 151 5).toInt = ((μ8.1 151 5).toInt + 1) := by rw [e_μ11, sF_v]; exact TI.e (n := ((μ8.1 151 5).toInt + 1)) (TI.add TI.rf (TI.lit (by decide)) (by omega) (by omega))
    have hr_μ11 : μ11.2.2 = μ.2.2 := (by rw [e_μ11]; rfl : μ11.2.2 = μ8.2.2).trans hr_μ8
    try rw [hr_μ11]
    exact ok_some ⟨hI_μ11, hF_μ11⟩

set_option maxHeartbeats 4000000 in
set_option maxRecDepth 100000 in
theorem k_X6_known (a1 : Int64) (μ : Mem) (hI_μ : IX μ) : ok (p_X6_known a1 μ) (fun q => μ = q.2) := by
  have li0 : (0 : Int32).toInt = 0 := by decide
  have li1 : (1 : Int32).toInt = 1 := by decide
  have li3 : (3 : Int32).toInt = 3 := by decide
  have li9548 : (9548 : Int32).toInt = 9548 := by decide
  have hF_μ : Fr [] true μ μ := Fr.rf
  have hr_μ : μ.2.2 = μ.2.2 := rfl
  rw [p_X6_known_eq]
  refine ok_ite ?_ ?_
  · intro c1
    rw [ti_eq] at c1
    have g2 := ti_lo (μ.1 151 6)
    have g2h := ti_hi (μ.1 151 6)
    refine ok_bv (fun v3 ev3 => ?_)
    first | have tv3 : v3.toInt = ((μ.1 151 6).toInt + (a1.toInt32).toInt) := (congrArg Int32.toInt ev3).trans (TI.e (n := ((μ.1 151 6).toInt + (a1.toInt32).toInt)) (TI.add TI.rf (TI.bits a1) (by omega) (by omega))) | skip
    refine ok_ite ?_ ?_
    · intro c4
      rw [ti_lt] at c4
      exact ok_some rfl
    · intro c4
      rw [ti_lt] at c4
      refine ok_ite ?_ ?_
      · intro c5
        rw [ti_le] at c5
        exact ok_some rfl
      · intro c5
        rw [ti_le] at c5
        refine ok_gd (inb_iff.mpr (by omega)) ?_
        exact ok_some rfl
  · intro c1
    rw [ti_eq] at c1
    exact ok_some rfl

set_option maxHeartbeats 4000000 in
set_option maxRecDepth 100000 in
theorem k_X6_goOn (a1 : Int32) (a2 : Int64) (μ : Mem) (hI_μ : IX μ) : ok (p_X6_goOn a1 a2 μ) (fun q => IX q ∧ Fr [(1, 155, 0)] true μ q) := by
  have li0 : (0 : Int32).toInt = 0 := by decide
  have li1 : (1 : Int32).toInt = 1 := by decide
  have li5 : (5 : Int32).toInt = 5 := by decide
  have hF_μ : Fr [(1, 155, 0)] true μ μ := Fr.rf
  have hr_μ : μ.2.2 = μ.2.2 := rfl
  rw [p_X6_goOn_eq]
  have lo_a1 := ti_lo a1
  have hi_a1 := ti_hi a1
  have g1 := ti_lo (μ.1 151 6)
  have g1h := ti_hi (μ.1 151 6)
  refine ok_bd (k_X5_cell a1 (1 : Int32) μ hI_μ (by omega)) ?_
  rintro r3 μ2 hq9
  obtain rfl : μ = μ2 := hq9
  have lo_r3 := ti_lo r3
  have hi_r3 := ti_hi r3
  refine ok_bw (k_X6_setRegister (μ.1 151 6) r3 a2 μ hI_μ) ?_
  rintro μ4 ⟨hI_μ4, hC_μ4⟩
  have hF_μ4 : Fr [(1, 155, 0)] true μ μ4 := hF_μ.trans (hC_μ4.mono (by decide +kernel) (by decide))
  have hr_μ4 : μ4.2.2 = μ.2.2 := (hC_μ4.2 rfl : μ4.2.2 = μ.2.2).trans hr_μ
  try rw [hr_μ4]
  have g6 := rg_151_5 hI_μ4
  refine ok_ite ?_ ?_
  · intro c7
    rw [ti_lt] at c7
    exact ok_some ⟨hI_μ4, hF_μ4⟩
  · intro c7
    rw [ti_lt] at c7
    refine ok_bd (k_X5_cell a1 (5 : Int32) μ4 hI_μ4 (by (try simp only [hr_μ4]); omega)) ?_
    rintro r9 μ8 hq9
    obtain rfl : μ4 = μ8 := hq9
    have lo_r9 := ti_lo r9
    have hi_r9 := ti_hi r9
    try rw [hr_μ4]
    refine ok_gd (inb_iff.mpr (by (try rw [TI.e (e := ((μ4.1 151 5) - (1 : Int32))) (n := ((μ4.1 151 5).toInt - 1)) (TI.sub TI.rf (TI.lit (by decide)) (by omega) (by omega))]); omega)) ?_
    refine ok_bv (fun μ10 e_μ10 => ?_)
    have hI_μ10 : IX μ10 := by rw [e_μ10]; exact IX_F hI_μ4 (rta_155 _ _)
    have hF_μ10 : Fr [(1, 155, 0)] true μ μ10 := by rw [e_μ10]; exact Fr.puta hF_μ4 (by decide +kernel)
    have hr_μ10 : μ10.2.2 = μ.2.2 := (by rw [e_μ10]; rfl : μ10.2.2 = μ4.2.2).trans hr_μ4
    try rw [hr_μ10]
    exact ok_some ⟨hI_μ10, hF_μ10⟩

set_option maxHeartbeats 4000000 in
set_option maxRecDepth 100000 in
theorem k_X6_endBlock  (μ : Mem) (hI_μ : IX μ) : ok (p_X6_endBlock  μ) (fun q => IX q ∧ Fr [(0, 151, 5), (0, 151, 6), (1, 155, 0), (2, 0, 0), (2, 0, 2), (2, 0, 5), (2, 0, 6), (2, 1, 2)] true μ q) := by
  have li0 : (0 : Int32).toInt = 0 := by decide
  have li1 : (1 : Int32).toInt = 1 := by decide
  have li2 : (2 : Int32).toInt = 2 := by decide
  have li6 : (6 : Int32).toInt = 6 := by decide
  have li11 : (11 : Int32).toInt = 11 := by decide
  have hF_μ : Fr [(0, 151, 5), (0, 151, 6), (1, 155, 0), (2, 0, 0), (2, 0, 2), (2, 0, 5), (2, 0, 6), (2, 1, 2)] true μ μ := Fr.rf
  have hr_μ : μ.2.2 = μ.2.2 := rfl
  rw [p_X6_endBlock_eq]
  have g1 := rg_151_5 hI_μ
  refine ok_gd (inb_iff.mpr (by (try rw [TI.e (e := ((μ.1 151 5) - (1 : Int32))) (n := ((μ.1 151 5).toInt - 1)) (TI.sub TI.rf (TI.lit (by decide)) (by omega) (by omega))]); omega)) ?_
  refine ok_bd (k_X5_endOf (μ.1 154 ((μ.1 151 5) - (1 : Int32)).toNatClampNeg) μ hI_μ) ?_
  rintro r3 μ2 hq9
  obtain rfl : μ = μ2 := hq9
  refine ok_bd (k_X6_known r3 μ hI_μ) ?_
  rintro r5 μ4 hq9
  obtain rfl : μ = μ4 := hq9
  refine ok_bv (fun μ6 e_μ6 => ?_)
  have hI_μ6 : IX μ6 := by rw [e_μ6]; exact IX_F hI_μ (rp_151_5 (by (try rw [TI.e (e := ((μ.1 151 5) - (1 : Int32))) (n := ((μ.1 151 5).toInt - 1)) (TI.sub TI.rf (TI.lit (by decide)) (by omega) (by omega))]); omega))
  have hF_μ6 : Fr [(0, 151, 5), (0, 151, 6), (1, 155, 0), (2, 0, 0), (2, 0, 2), (2, 0, 5), (2, 0, 6), (2, 1, 2)] true μ μ6 := by rw [e_μ6]; exact Fr.put hF_μ (by decide +kernel)
  have v_μ6 : (μ6.1 151 5).toInt = ((μ.1 151 5).toInt - 1) := by rw [e_μ6, sF_v]; exact TI.e (n := ((μ.1 151 5).toInt - 1)) (TI.sub TI.rf (TI.lit (by decide)) (by omega) (by omega))
  have hr_μ6 : μ6.2.2 = μ.2.2 := (by rw [e_μ6]; rfl : μ6.2.2 = μ.2.2).trans hr_μ
  try rw [hr_μ6]
  have g7 := rg_151_5 hI_μ6
  refine ok_ite ?_ ?_
  · intro c8
    rw [ti_le] at c8
    refine ok_gd (inb_iff.mpr (by (try rw [TI.e (e := ((μ6.1 151 5) - (1 : Int32))) (n := ((μ6.1 151 5).toInt - 1)) (TI.sub TI.rf (TI.lit (by decide)) (by omega) (by omega))]); omega)) ?_
    refine ok_bv (fun v9 ev9 => ?_)
    have tv9 : v9.toInt = (μ6.1 155 ((μ6.1 151 5) - (1 : Int32)).toNatClampNeg).toInt := congrArg Int32.toInt ev9
    refine ok_bd (k_X5_cell v9 (0 : Int32) μ6 hI_μ6 (by (try simp only [hr_μ6]); omega)) ?_
    rintro r11 μ10 hq9
    obtain rfl : μ6 = μ10 := hq9
    have lo_r11 := ti_lo r11
    have hi_r11 := ti_hi r11
    try rw [hr_μ6]
    refine ok_ite ?_ ?_
    · intro c12
      rw [ti_eq] at c12
      refine ok_bw (k_X1_endCall (sel 0 (μ.2.2 151 8)) (sel_0 _) μ6 hI_μ6) ?_
      rintro μ13 ⟨hI_μ13, hC_μ13⟩
      have hF_μ13 : Fr [(0, 151, 5), (0, 151, 6), (1, 155, 0), (2, 0, 0), (2, 0, 2), (2, 0, 5), (2, 0, 6), (2, 1, 2)] true μ μ13 := hF_μ6.trans (hC_μ13.mono (by decide +kernel) (by decide))
      have hr_μ13 : μ13.2.2 = μ.2.2 := (hC_μ13.2 rfl : μ13.2.2 = μ6.2.2).trans hr_μ6
      try rw [hr_μ13]
      have g15 := ti_lo (μ13.1 151 6)
      have g15h := ti_hi (μ13.1 151 6)
      refine ok_bd (k_X5_cell v9 (6 : Int32) μ13 hI_μ13 (by (try simp only [hr_μ13]); omega)) ?_
      rintro r17 μ16 hq9
      obtain rfl : μ13 = μ16 := hq9
      have lo_r17 := ti_lo r17
      have hi_r17 := ti_hi r17
      try rw [hr_μ13]
      refine ok_bd (k_X5_ofVariant r17 (2 : Int32) μ13 hI_μ13 (by (try simp only [hr_μ13]); omega)) ?_
      rintro r19 μ18 hq9
      obtain rfl : μ13 = μ18 := hq9
      have lo_r19 := ti_lo r19
      have hi_r19 := ti_hi r19
      try rw [hr_μ13]
      refine ok_bv (fun μ20 e_μ20 => ?_)
      have hI_μ20 : IX μ20 := by rw [e_μ20]; exact IX_F hI_μ13 (rt_151_6 _)
      have hF_μ20 : Fr [(0, 151, 5), (0, 151, 6), (1, 155, 0), (2, 0, 0), (2, 0, 2), (2, 0, 5), (2, 0, 6), (2, 1, 2)] true μ μ20 := by rw [e_μ20]; exact Fr.put hF_μ13 (by decide +kernel)
      have hr_μ20 : μ20.2.2 = μ.2.2 := (by rw [e_μ20]; rfl : μ20.2.2 = μ13.2.2).trans hr_μ13
      try rw [hr_μ20]
      refine ok_bw (k_X6_goOn v9 r5 μ20 hI_μ20) ?_
      rintro μ21 ⟨hI_μ21, hC_μ21⟩
      have hF_μ21 : Fr [(0, 151, 5), (0, 151, 6), (1, 155, 0), (2, 0, 0), (2, 0, 2), (2, 0, 5), (2, 0, 6), (2, 1, 2)] true μ μ21 := hF_μ20.trans (hC_μ21.mono (by decide +kernel) (by decide))
      have hr_μ21 : μ21.2.2 = μ.2.2 := (hC_μ21.2 rfl : μ21.2.2 = μ20.2.2).trans hr_μ20
      try rw [hr_μ21]
      exact ok_some ⟨hI_μ21, hF_μ21⟩
    · intro c12
      rw [ti_eq] at c12
      refine ok_bw (k_X6_goOn v9 r5 μ6 hI_μ6) ?_
      rintro μ23 ⟨hI_μ23, hC_μ23⟩
      have hF_μ23 : Fr [(0, 151, 5), (0, 151, 6), (1, 155, 0), (2, 0, 0), (2, 0, 2), (2, 0, 5), (2, 0, 6), (2, 1, 2)] true μ μ23 := hF_μ6.trans (hC_μ23.mono (by decide +kernel) (by decide))
      have hr_μ23 : μ23.2.2 = μ.2.2 := (hC_μ23.2 rfl : μ23.2.2 = μ6.2.2).trans hr_μ6
      try rw [hr_μ23]
      exact ok_some ⟨hI_μ23, hF_μ23⟩
  · intro c8
    rw [ti_le] at c8
    refine ok_bw (k_X1_endWith (sel 0 (μ.2.2 151 8)) (sel_0 _) r5 μ6 hI_μ6) ?_
    rintro μ25 ⟨hI_μ25, hC_μ25⟩
    have hF_μ25 : Fr [(0, 151, 5), (0, 151, 6), (1, 155, 0), (2, 0, 0), (2, 0, 2), (2, 0, 5), (2, 0, 6), (2, 1, 2)] true μ μ25 := hF_μ6.trans (hC_μ25.mono (by decide +kernel) (by decide))
    have hr_μ25 : μ25.2.2 = μ.2.2 := (hC_μ25.2 rfl : μ25.2.2 = μ6.2.2).trans hr_μ6
    try rw [hr_μ25]
    exact ok_some ⟨hI_μ25, hF_μ25⟩

set_option maxHeartbeats 4000000 in
set_option maxRecDepth 100000 in
theorem k_X5_operand_b27 (a1 : Int32) (a2 : Int32) (k0 : Int32) (μ : Mem) (hI_μ : IX μ) : ok (p_X5_operand_b27 a1 a2 k0 μ) (fun q => μ = q.2) := by
  have li0 : (0 : Int32).toInt = 0 := by decide
  have li1 : (1 : Int32).toInt = 1 := by decide
  have li10 : (10 : Int32).toInt = 10 := by decide
  have hF_μ : Fr [] true μ μ := Fr.rf
  have hr_μ : μ.2.2 = μ.2.2 := rfl
  rw [p_X5_operand_b27_eq]
  have lo_a1 := ti_lo a1
  have hi_a1 := ti_hi a1
  have lo_a2 := ti_lo a2
  have hi_a2 := ti_hi a2
  have lo_k0 := ti_lo k0
  have hi_k0 := ti_hi k0
  refine ok_ite ?_ ?_
  · intro c2
    rw [ti_eq] at c2
    exact ok_some rfl
  · intro c2
    rw [ti_eq] at c2
    refine ok_gd (inb_iff.mpr (by (try rw [TI.e (e := ((a1 * (10 : Int32)) + a2)) (n := ((a1.toInt * 10) + a2.toInt)) (TI.add (TI.mul TI.rf (TI.lit (by decide)) (by omega) (by omega)) TI.rf (by omega) (by omega))]); omega)) ?_
    exact ok_some rfl
set_option maxHeartbeats 4000000 in
set_option maxRecDepth 100000 in
theorem k_X5_operand_b26 (a1 : Int32) (a2 : Int32) (μ : Mem) (hI_μ : IX μ) : ok (p_X5_operand_b26 a1 a2 μ) (fun q => μ = q.2) := by
  have li0 : (0 : Int32).toInt = 0 := by decide
  have li1 : (1 : Int32).toInt = 1 := by decide
  have hF_μ : Fr [] true μ μ := Fr.rf
  have hr_μ : μ.2.2 = μ.2.2 := rfl
  rw [p_X5_operand_b26_eq]
  have lo_a1 := ti_lo a1
  have hi_a1 := ti_hi a1
  have lo_a2 := ti_lo a2
  have hi_a2 := ti_hi a2
  exact ok_mono (k_X5_operand_b27  a1 a2 (0 : Int32) μ hI_μ) (fun q h => h)
set_option maxHeartbeats 4000000 in
set_option maxRecDepth 100000 in
theorem k_X5_operand (a1 : Int32) (a2 : Int32) (μ : Mem) (hI_μ : IX μ) : ok (p_X5_operand a1 a2 μ) (fun q => μ = q.2) := by
  have li0 : (0 : Int32).toInt = 0 := by decide
  have li1 : (1 : Int32).toInt = 1 := by decide
  have li10 : (10 : Int32).toInt = 10 := by decide
  have hF_μ : Fr [] true μ μ := Fr.rf
  have hr_μ : μ.2.2 = μ.2.2 := rfl
  rw [p_X5_operand_eq]
  have lo_a1 := ti_lo a1
  have hi_a1 := ti_hi a1
  have lo_a2 := ti_lo a2
  have hi_a2 := ti_hi a2
  refine ok_ite ?_ ?_
  · intro c1
    rw [ti_lt] at c1
    exact ok_mono (k_X5_operand_b26  a1 a2 μ hI_μ) (fun q h => h)
  · intro c1
    rw [ti_lt] at c1
    have g3 := rg_39_1 hI_μ
    refine ok_ite ?_ ?_
    · intro c4
      rw [ti_le] at c4
      exact ok_mono (k_X5_operand_b26  a1 a2 μ hI_μ) (fun q h => h)
    · intro c4
      rw [ti_le] at c4
      refine ok_ite ?_ ?_
      · intro c5
        rw [ti_lt] at c5
        exact ok_mono (k_X5_operand_b26  a1 a2 μ hI_μ) (fun q h => h)
      · intro c5
        rw [ti_lt] at c5
        refine ok_ite ?_ ?_
        · intro c6
          rw [ti_le] at c6
          exact ok_mono (k_X5_operand_b26  a1 a2 μ hI_μ) (fun q h => h)
        · intro c6
          rw [ti_le] at c6
          exact ok_mono (k_X5_operand_b27  a1 a2 (1 : Int32) μ hI_μ) (fun q h => h)

set_option maxHeartbeats 4000000 in
set_option maxRecDepth 100000 in
theorem k_X6_operand (a1 : Int32) (a2 : Int32) (μ : Mem) (hI_μ : IX μ) : ok (p_X6_operand a1 a2 μ) (fun q => μ = q.2) := by
  have li0 : (0 : Int32).toInt = 0 := by decide
  have li1 : (1 : Int32).toInt = 1 := by decide
  have hF_μ : Fr [] true μ μ := Fr.rf
  have hr_μ : μ.2.2 = μ.2.2 := rfl
  rw [p_X6_operand_eq]
  have lo_a1 := ti_lo a1
  have hi_a1 := ti_hi a1
  have lo_a2 := ti_lo a2
  have hi_a2 := ti_hi a2
  refine ok_bd (k_X5_operand a1 a2 μ hI_μ) ?_
  rintro r2 μ1 hq9
  obtain rfl : μ = μ1 := hq9
  refine ok_bd (k_X6_known r2 μ hI_μ) ?_
  rintro r4 μ3 hq9
  obtain rfl : μ = μ3 := hq9
  exact ok_some rfl

set_option maxHeartbeats 4000000 in
set_option maxRecDepth 100000 in
theorem k_X6_num (a1 : Int32) (a2 : Int32) (μ : Mem) (hI_μ : IX μ) : ok (p_X6_num a1 a2 μ) (fun q => μ = q.2) := by
  have li0 : (0 : Int32).toInt = 0 := by decide
  have li1 : (1 : Int32).toInt = 1 := by decide
  have hF_μ : Fr [] true μ μ := Fr.rf
  have hr_μ : μ.2.2 = μ.2.2 := rfl
  rw [p_X6_num_eq]
  have lo_a1 := ti_lo a1
  have hi_a1 := ti_hi a1
  have lo_a2 := ti_lo a2
  have hi_a2 := ti_hi a2
  refine ok_bd (k_X6_operand a1 a2 μ hI_μ) ?_
  rintro r2 μ1 hq9
  obtain rfl : μ = μ1 := hq9
  refine ok_bd (k_X8_num r2 μ hI_μ) ?_
  rintro r4 μ3 hq9
  obtain rfl : μ = μ3 := hq9
  exact ok_some rfl

set_option maxHeartbeats 4000000 in
set_option maxRecDepth 100000 in
theorem k_X6_makePair (a1 : Int32) (μ : Mem) (hI_μ : IX μ) : ok (p_X6_makePair a1 μ) (fun q => IX q ∧ Fr [(0, 30, 5), (1, 33, 0), (1, 34, 0), (1, 155, 0), (2, 0, 0)] true μ q) := by
  have li0 : (0 : Int32).toInt = 0 := by decide
  have li1 : (1 : Int32).toInt = 1 := by decide
  have li2 : (2 : Int32).toInt = 2 := by decide
  have hF_μ : Fr [(0, 30, 5), (1, 33, 0), (1, 34, 0), (1, 155, 0), (2, 0, 0)] true μ μ := Fr.rf
  have hr_μ : μ.2.2 = μ.2.2 := rfl
  rw [p_X6_makePair_eq]
  have lo_a1 := ti_lo a1
  have hi_a1 := ti_hi a1
  refine ok_bd (k_X6_operand a1 (0 : Int32) μ hI_μ) ?_
  rintro r2 μ1 hq9
  obtain rfl : μ = μ1 := hq9
  refine ok_bd (k_X6_operand a1 (1 : Int32) μ hI_μ) ?_
  rintro r4 μ3 hq9
  obtain rfl : μ = μ3 := hq9
  refine ok_bd (k_X8_isTooHeavy r2 r4 μ hI_μ) ?_
  rintro r6 μ5 ⟨hq9, p_r6⟩
  obtain rfl : μ = μ5 := hq9
  dsimp only at p_r6
  have lo_r6 := ti_lo r6
  have hi_r6 := ti_hi r6
  refine ok_ite ?_ ?_
  · intro c7
    rw [ti_eq] at c7
    refine ok_bd (k_X8_pair r2 r4 μ hI_μ) ?_
    rintro r9 μ8 ⟨hI_μ8, hC_μ8⟩
    have hI_μ8 : IX μ8 := hI_μ8
    have hC_μ8 : Fr [(0, 30, 5), (1, 33, 0), (1, 34, 0)] true μ μ8 := hC_μ8
    have hF_μ8 : Fr [(0, 30, 5), (1, 33, 0), (1, 34, 0), (1, 155, 0), (2, 0, 0)] true μ μ8 := hF_μ.trans (hC_μ8.mono (by decide +kernel) (by decide))
    have hr_μ8 : μ8.2.2 = μ.2.2 := (hC_μ8.2 rfl : μ8.2.2 = μ.2.2).trans hr_μ
    try rw [hr_μ8]
    refine ok_bw (k_X6_goOn a1 r9 μ8 hI_μ8) ?_
    rintro μ10 ⟨hI_μ10, hC_μ10⟩
    have hF_μ10 : Fr [(0, 30, 5), (1, 33, 0), (1, 34, 0), (1, 155, 0), (2, 0, 0)] true μ μ10 := hF_μ8.trans (hC_μ10.mono (by decide +kernel) (by decide))
    have hr_μ10 : μ10.2.2 = μ.2.2 := (hC_μ10.2 rfl : μ10.2.2 = μ8.2.2).trans hr_μ8
    try rw [hr_μ10]
    exact ok_some ⟨hI_μ10, hF_μ10⟩
  · intro c7
    rw [ti_eq] at c7
    refine ok_bv (fun μ12 e_μ12 => ?_)
    have hI_μ12 : IX μ12 := by rw [e_μ12]; exact IX_F hI_μ (rtc_0_0 (sel_0 (μ.2.2 151 8)) _)
    have hF_μ12 : Fr [(0, 30, 5), (1, 33, 0), (1, 34, 0), (1, 155, 0), (2, 0, 0)] true μ μ12 := by rw [e_μ12]; exact Fr.putc (ci := 0) hF_μ (by decide +kernel) (sel_0 (μ.2.2 151 8))
    have v_μ12 : (μ12.1 (sel 0 (μ.2.2 151 8)) 0).toInt = 2 := by rw [e_μ12, sF_v]; exact TI.e (n := 2) (TI.lit (by decide))
    have hr_μ12 : μ12.2.2 = μ.2.2 := (by rw [e_μ12]; rfl : μ12.2.2 = μ.2.2).trans hr_μ
    try rw [hr_μ12]
    exact ok_some ⟨hI_μ12, hF_μ12⟩

set_option maxHeartbeats 4000000 in
set_option maxRecDepth 100000 in
theorem k_X6_call_b53 : ∀ (n : Nat) (a1 : Int32) (a2 : Int32) (a4 : Int32) (a5 : Int32) (a6 : Int32) (μ : Mem), IX μ → (0 ≤ (a6).toInt ∧ 2147483648 - (a6).toInt < n) → ok (p_X6_call_b53 n a1 a2 a4 a5 a6 μ) (fun q => IX q ∧ Fr [(0, 151, 5), (0, 151, 6), (1, 154, 0), (1, 155, 0), (2, 0, 0), (2, 0, 1), (2, 0, 2), (2, 0, 3)] true μ q) := by
  have li0 : (0 : Int32).toInt = 0 := by decide
  have li1 : (1 : Int32).toInt = 1 := by decide
  have li2 : (2 : Int32).toInt = 2 := by decide
  have li3 : (3 : Int32).toInt = 3 := by decide
  intro n
  induction n with
  | zero => intro a1 a2 a4 a5 a6 μ hI_μ hc; exact absurd hc (by have lo_a1 := ti_lo a1; have hi_a1 := ti_hi a1; have lo_a2 := ti_lo a2; have hi_a2 := ti_hi a2; have lo_a4 := ti_lo a4; have hi_a4 := ti_hi a4; have lo_a5 := ti_lo a5; have hi_a5 := ti_hi a5; have lo_a6 := ti_lo a6; have hi_a6 := ti_hi a6; omega)
  | succ n ih =>
    intro a1 a2 a4 a5 a6 μ hI_μ hc
    have hF_μ : Fr [(0, 151, 5), (0, 151, 6), (1, 154, 0), (1, 155, 0), (2, 0, 0), (2, 0, 1), (2, 0, 2), (2, 0, 3)] true μ μ := Fr.rf
    have hr_μ : μ.2.2 = μ.2.2 := rfl
    rw [p_X6_call_b53_s]
    have lo_a1 := ti_lo a1
    have hi_a1 := ti_hi a1
    have lo_a2 := ti_lo a2
    have hi_a2 := ti_hi a2
    have lo_a4 := ti_lo a4
    have hi_a4 := ti_hi a4
    have lo_a5 := ti_lo a5
    have hi_a5 := ti_hi a5
    have lo_a6 := ti_lo a6
    have hi_a6 := ti_hi a6
    refine ok_ite ?_ ?_
    · intro c12
      rw [ti_le] at c12
      refine ok_bv (fun μ13 e_μ13 => ?_)
      have hI_μ13 : IX μ13 := by rw [e_μ13]; exact IX_F hI_μ (rt_151_6 _)
      have hF_μ13 : Fr [(0, 151, 5), (0, 151, 6), (1, 154, 0), (1, 155, 0), (2, 0, 0), (2, 0, 1), (2, 0, 2), (2, 0, 3)] true μ μ13 := by rw [e_μ13]; exact Fr.put hF_μ (by decide +kernel)
      have v_μ13 : (μ13.1 151 6).toInt = a4.toInt := by rw [e_μ13, sF_v]
      have hr_μ13 : μ13.2.2 = μ.2.2 := (by rw [e_μ13]; rfl : μ13.2.2 = μ.2.2).trans hr_μ
      try rw [hr_μ13]
      refine ok_bd (k_X5_ofVariant a2 (3 : Int32) μ13 hI_μ13 (by (try simp only [hr_μ13]); omega)) ?_
      rintro r15 μ14 hq9
      obtain rfl : μ13 = μ14 := hq9
      have lo_r15 := ti_lo r15
      have hi_r15 := ti_hi r15
      try rw [hr_μ13]
      refine ok_bw (k_X6_enter r15 μ13 hI_μ13) ?_
      rintro μ16 ⟨hI_μ16, hC_μ16⟩
      have hF_μ16 : Fr [(0, 151, 5), (0, 151, 6), (1, 154, 0), (1, 155, 0), (2, 0, 0), (2, 0, 1), (2, 0, 2), (2, 0, 3)] true μ μ16 := hF_μ13.trans (hC_μ16.mono (by decide +kernel) (by decide))
      have hr_μ16 : μ16.2.2 = μ.2.2 := (hC_μ16.2 rfl : μ16.2.2 = μ13.2.2).trans hr_μ13
      try rw [hr_μ16]
      exact ok_some ⟨hI_μ16, hF_μ16⟩
    · intro c12
      rw [ti_le] at c12
      refine ok_bd (k_X6_operand a1 ((2 : Int32) + a6) μ hI_μ) ?_
      rintro r19 μ18 hq9
      obtain rfl : μ = μ18 := hq9
      refine ok_bw (k_X6_setRegister a4 a6 r19 μ hI_μ) ?_
      rintro μ20 ⟨hI_μ20, hC_μ20⟩
      have hF_μ20 : Fr [(0, 151, 5), (0, 151, 6), (1, 154, 0), (1, 155, 0), (2, 0, 0), (2, 0, 1), (2, 0, 2), (2, 0, 3)] true μ μ20 := hF_μ.trans (hC_μ20.mono (by decide +kernel) (by decide))
      have hr_μ20 : μ20.2.2 = μ.2.2 := (hC_μ20.2 rfl : μ20.2.2 = μ.2.2).trans hr_μ
      try rw [hr_μ20]
      refine ok_bv (fun v22 ev22 => ?_)
      first | have tv22 : v22.toInt = (a6.toInt + 1) := (congrArg Int32.toInt ev22).trans (TI.e (n := (a6.toInt + 1)) (TI.add TI.rf (TI.lit (by decide)) (by omega) (by omega))) | have tv22 : v22.toInt ≤ a6.toInt + 1 := by rw [ev22]; exact ti_inc _ | skip
      exact ok_mono (ih a1 a2 a4 a5 v22 μ20 hI_μ20 (by (try simp only [hr_μ20]); omega)) (fun q h => ⟨h.1, hF_μ20.trans h.2⟩)
set_option maxHeartbeats 4000000 in
set_option maxRecDepth 100000 in
theorem k_X6_call (a1 : Int32) (a2 : Int32) (μ : Mem) (hI_μ : IX μ) : ok (p_X6_call a1 a2 μ) (fun q => IX q ∧ Fr [(0, 151, 5), (0, 151, 6), (1, 154, 0), (1, 155, 0), (2, 0, 0), (2, 0, 1), (2, 0, 2), (2, 0, 3)] true μ q) := by
  have li0 : (0 : Int32).toInt = 0 := by decide
  have li1 : (1 : Int32).toInt = 1 := by decide
  have li2 : (2 : Int32).toInt = 2 := by decide
  have li6 : (6 : Int32).toInt = 6 := by decide
  have li7 : (7 : Int32).toInt = 7 := by decide
  have hF_μ : Fr [(0, 151, 5), (0, 151, 6), (1, 154, 0), (1, 155, 0), (2, 0, 0), (2, 0, 1), (2, 0, 2), (2, 0, 3)] true μ μ := Fr.rf
  have hr_μ : μ.2.2 = μ.2.2 := rfl
  rw [p_X6_call_eq]
  have lo_a1 := ti_lo a1
  have hi_a1 := ti_hi a1
  have lo_a2 := ti_lo a2
  have hi_a2 := ti_hi a2
  refine ok_bd (k_X5_cell a1 (6 : Int32) μ hI_μ (by omega)) ?_
  rintro r2 μ1 hq9
  obtain rfl : μ = μ1 := hq9
  have lo_r2 := ti_lo r2
  have hi_r2 := ti_hi r2
  refine ok_bd (k_X1_beginCall (sel 0 (μ.2.2 151 8)) (sel_0 _) μ hI_μ) ?_
  rintro r4 μ3 ⟨hI_μ3, hC_μ3, p_μ3⟩
  have hI_μ3 : IX μ3 := hI_μ3
  have hC_μ3 : Fr [(2, 0, 0), (2, 0, 1), (2, 0, 2), (2, 0, 3)] true μ μ3 := hC_μ3
  dsimp only at p_μ3
  have lo_r4 := ti_lo r4
  have hi_r4 := ti_hi r4
  have hF_μ3 : Fr [(0, 151, 5), (0, 151, 6), (1, 154, 0), (1, 155, 0), (2, 0, 0), (2, 0, 1), (2, 0, 2), (2, 0, 3)] true μ μ3 := hF_μ.trans (hC_μ3.mono (by decide +kernel) (by decide))
  have hr_μ3 : μ3.2.2 = μ.2.2 := (hC_μ3.2 rfl : μ3.2.2 = μ.2.2).trans hr_μ
  try rw [hr_μ3]
  refine ok_ite ?_ ?_
  · intro c5
    rw [ti_eq] at c5
    exact ok_some ⟨hI_μ3, hF_μ3⟩
  · intro c5
    rw [ti_eq] at c5
    have g6 := ti_lo (μ3.1 151 6)
    have g6h := ti_hi (μ3.1 151 6)
    refine ok_bd (k_X5_ofVariant r2 (2 : Int32) μ3 hI_μ3 (by (try simp only [hr_μ3]); omega)) ?_
    rintro r8 μ7 hq9
    obtain rfl : μ3 = μ7 := hq9
    have lo_r8 := ti_lo r8
    have hi_r8 := ti_hi r8
    try rw [hr_μ3]
    refine ok_bv (fun v9 ev9 => ?_)
    first | have tv9 : v9.toInt = ((μ3.1 151 6).toInt + r8.toInt) := (congrArg Int32.toInt ev9).trans (TI.e (n := ((μ3.1 151 6).toInt + r8.toInt)) (TI.add TI.rf TI.rf (by omega) (by omega))) | skip
    refine ok_bd (k_X5_cell a1 (7 : Int32) μ3 hI_μ3 (by (try simp only [hr_μ3]); omega)) ?_
    rintro r11 μ10 hq9
    obtain rfl : μ3 = μ10 := hq9
    have lo_r11 := ti_lo r11
    have hi_r11 := ti_hi r11
    try rw [hr_μ3]
    obtain ⟨fu, hfu0, hfu⟩ := fuel_ex
    rw [hfu0]
    exact ok_mono (k_X6_call_b53  fu a1 a2 v9 r11 (0 : Int32) μ3 hI_μ3 (by (try simp only [hr_μ3]); omega)) (fun q h => ⟨h.1, hF_μ3.trans h.2⟩)
