set_option maxHeartbeats 4000000 in
set_option maxRecDepth 100000 in
theorem k_X11_value  (μ : Mem) (hI_μ : IX μ) : ok (p_X11_value  μ) (fun q => IX q.2 ∧ Fr [(0, 159, 1), (1, 160, 0)] true μ q.2) := by
  have lim1 : (-1 : Int32).toInt = -1 := by decide
  have li0 : (0 : Int32).toInt = 0 := by decide
  have li1 : (1 : Int32).toInt = 1 := by decide
  have hF_μ : Fr [(0, 159, 1), (1, 160, 0)] true μ μ := Fr.rf
  have hr_μ : μ.2.2 = μ.2.2 := rfl
  rw [p_X11_value_eq]
  have g1 := rgp shx_156 hI_μ
  have g1l : (sh 0 (156 + 1)).2 = 40 := by decide +kernel
  refine ok_ite ?_ ?_
  · intro c2
    rw [ti_eq] at c2
    exact ok_some ⟨hI_μ, hF_μ⟩
  · intro c2
    rw [ti_eq] at c2
    refine ok_bd (k_X9_writeValue 156 shx_156 μ hI_μ) ?_
    rintro r4 μ3 ⟨hI_μ3, hC_μ3⟩
    have hI_μ3 : IX μ3 := hI_μ3
    have hC_μ3 : Fr [(0, 159, 1), (1, 160, 0)] true μ μ3 := hC_μ3
    have lo_r4 := ti_lo r4
    have hi_r4 := ti_hi r4
    have hF_μ3 : Fr [(0, 159, 1), (1, 160, 0)] true μ μ3 := hF_μ.trans (hC_μ3.mono (by decide +kernel) (by decide))
    have hr_μ3 : μ3.2.2 = μ.2.2 := (hC_μ3.2 rfl : μ3.2.2 = μ.2.2).trans hr_μ
    try rw [hr_μ3]
    exact ok_some ⟨hI_μ3, hF_μ3⟩

set_option maxHeartbeats 4000000 in
set_option maxRecDepth 100000 in
theorem k_X9_addPatterns_b40 {n22 : Nat} (K22 : Nat → Int32 → Mem → Option Mem) (hK22 : ∀ (z1 : Nat) (w1 : sh 0 z1 = (0, 1)) (z2 : Int32) (μ1 : Mem), IX μ1 → (0 ≤ (z2).toInt ∧ 2147483648 - (z2).toInt < n22) → ok (K22 z1 z2 μ1) (fun q => IX q ∧ Fr [(0, 159, 1), (1, 160, 0)] true μ1 q)) (a1 : Nat) (q1 : sh 0 a1 = (0, 1)) (a2 : Int32) (μ : Mem) (hI_μ : IX μ) (hc : 0 ≤ (a2).toInt ∧ (a2).toInt < 200 ∧ 2147483648 - (a2).toInt < n22 + 1) : ok (p_X9_addPatterns_b40 K22 a1 a2 μ) (fun q => IX q ∧ Fr [(0, 159, 1), (1, 160, 0)] true μ q) := by
  have li0 : (0 : Int32).toInt = 0 := by decide
  have li1 : (1 : Int32).toInt = 1 := by decide
  have hF_μ : Fr [(0, 159, 1), (1, 160, 0)] true μ μ := Fr.rf
  have hr_μ : μ.2.2 = μ.2.2 := rfl
  rw [p_X9_addPatterns_b40_eq]
  have lo_a2 := ti_lo a2
  have hi_a2 := ti_hi a2
  refine ok_bd (kr_X9_addPart 50 a1 q1 a2 (0 : Int32) μ hI_μ (by omega)) ?_
  rintro r12 μ11 ⟨hI_μ11, hC_μ11⟩
  have hI_μ11 : IX μ11 := hI_μ11
  have hC_μ11 : Fr [(0, 159, 1), (1, 160, 0)] true μ μ11 := hC_μ11
  have lo_r12 := ti_lo r12
  have hi_r12 := ti_hi r12
  have hF_μ11 : Fr [(0, 159, 1), (1, 160, 0)] true μ μ11 := hF_μ.trans (hC_μ11.mono (by decide +kernel) (by decide))
  have hr_μ11 : μ11.2.2 = μ.2.2 := (hC_μ11.2 rfl : μ11.2.2 = μ.2.2).trans hr_μ
  refine ok_bv (fun v13 ev13 => ?_)
  first | have tv13 : v13.toInt = (max r12.toInt (a2.toInt + 1)) := (congrArg Int32.toInt ev13).trans (TI.e (n := (max r12.toInt (a2.toInt + 1))) (TI.max TI.rf (TI.add TI.rf (TI.lit (by decide)) (by omega) (by omega)))) | skip
  exact ok_mono (hK22 a1 q1 v13 μ11 hI_μ11 (by (try rw [hr_μ11]); omega)) (fun q h => ⟨h.1, hF_μ11.trans h.2⟩)
set_option maxHeartbeats 4000000 in
set_option maxRecDepth 100000 in
theorem k_X9_addPatterns_b22 : ∀ (n : Nat) (a1 : Nat) (q1 : sh 0 a1 = (0, 1)) (a2 : Int32) (μ : Mem), IX μ → (0 ≤ (a2).toInt ∧ 2147483648 - (a2).toInt < n) → ok (p_X9_addPatterns_b22 n a1 a2 μ) (fun q => IX q ∧ Fr [(0, 159, 1), (1, 160, 0)] true μ q) := by
  have li0 : (0 : Int32).toInt = 0 := by decide
  have li1 : (1 : Int32).toInt = 1 := by decide
  have li41 : (41 : Int32).toInt = 41 := by decide
  have li44 : (44 : Int32).toInt = 44 := by decide
  intro n
  induction n with
  | zero => intro a1 q1 a2 μ hI_μ hc; exact absurd hc (by have lo_a2 := ti_lo a2; have hi_a2 := ti_hi a2; omega)
  | succ n ih =>
    intro a1 q1 a2 μ hI_μ hc
    have hF_μ : Fr [(0, 159, 1), (1, 160, 0)] true μ μ := Fr.rf
    have hr_μ : μ.2.2 = μ.2.2 := rfl
    rw [p_X9_addPatterns_b22_s]
    have lo_a2 := ti_lo a2
    have hi_a2 := ti_hi a2
    have g6 := rgp q1 hI_μ
    refine ok_ite ?_ ?_
    · intro c7
      rw [ti_le] at c7
      refine ok_bw (k_X9_add (41 : Int32) μ hI_μ) ?_
      rintro μ8 ⟨hI_μ8, hC_μ8⟩
      have hF_μ8 : Fr [(0, 159, 1), (1, 160, 0)] true μ μ8 := hF_μ.trans (hC_μ8.mono (by decide +kernel) (by decide))
      have hr_μ8 : μ8.2.2 = μ.2.2 := (hC_μ8.2 rfl : μ8.2.2 = μ.2.2).trans hr_μ
      exact ok_some ⟨hI_μ8, hF_μ8⟩
    · intro c7
      rw [ti_le] at c7
      refine ok_ite ?_ ?_
      · intro c10
        rw [ti_le] at c10
        exact ok_mono (k_X9_addPatterns_b40 _ ih a1 q1 a2 μ hI_μ (by omega)) (fun q h => ⟨h.1, hF_μ.trans h.2⟩)
      · intro c10
        rw [ti_le] at c10
        refine ok_bw (k_X9_add (44 : Int32) μ hI_μ) ?_
        rintro μ14 ⟨hI_μ14, hC_μ14⟩
        have hF_μ14 : Fr [(0, 159, 1), (1, 160, 0)] true μ μ14 := hF_μ.trans (hC_μ14.mono (by decide +kernel) (by decide))
        have hr_μ14 : μ14.2.2 = μ.2.2 := (hC_μ14.2 rfl : μ14.2.2 = μ.2.2).trans hr_μ
        exact ok_mono (k_X9_addPatterns_b40 _ ih a1 q1 a2 μ14 hI_μ14 (by (try rw [hr_μ14]); omega)) (fun q h => ⟨h.1, hF_μ14.trans h.2⟩)
set_option maxHeartbeats 4000000 in
set_option maxRecDepth 100000 in
theorem k_X9_addPatterns (a1 : Nat) (q1 : sh 0 a1 = (0, 1)) (μ : Mem) (hI_μ : IX μ) : ok (p_X9_addPatterns a1 μ) (fun q => IX q ∧ Fr [(0, 159, 1), (1, 160, 0)] true μ q) := by
  have li0 : (0 : Int32).toInt = 0 := by decide
  have li1 : (1 : Int32).toInt = 1 := by decide
  have li40 : (40 : Int32).toInt = 40 := by decide
  have li97 : (97 : Int32).toInt = 97 := by decide
  have hF_μ : Fr [(0, 159, 1), (1, 160, 0)] true μ μ := Fr.rf
  have hr_μ : μ.2.2 = μ.2.2 := rfl
  rw [p_X9_addPatterns_eq]
  have g1 := ti_lo (μ.1 a1 3)
  have g1h := ti_hi (μ.1 a1 3)
  refine ok_bw (k_X9_add ((97 : Int32) + ((μ.1 a1 3) / (6 : Int32))) μ hI_μ) ?_
  rintro μ2 ⟨hI_μ2, hC_μ2⟩
  have hF_μ2 : Fr [(0, 159, 1), (1, 160, 0)] true μ μ2 := hF_μ.trans (hC_μ2.mono (by decide +kernel) (by decide))
  have hr_μ2 : μ2.2.2 = μ.2.2 := (hC_μ2.2 rfl : μ2.2.2 = μ.2.2).trans hr_μ
  refine ok_bw (k_X9_add (40 : Int32) μ2 hI_μ2) ?_
  rintro μ4 ⟨hI_μ4, hC_μ4⟩
  have hF_μ4 : Fr [(0, 159, 1), (1, 160, 0)] true μ μ4 := hF_μ2.trans (hC_μ4.mono (by decide +kernel) (by decide))
  have hr_μ4 : μ4.2.2 = μ.2.2 := (hC_μ4.2 rfl : μ4.2.2 = μ2.2.2).trans hr_μ2
  obtain ⟨fu, hfu0, hfu⟩ := fuel_ex
  rw [hfu0]
  exact ok_mono (k_X9_addPatterns_b22  fu a1 q1 (0 : Int32) μ4 hI_μ4 (by (try rw [hr_μ4]); omega)) (fun q h => ⟨h.1, hF_μ4.trans h.2⟩)

set_option maxHeartbeats 4000000 in
set_option maxRecDepth 100000 in
theorem k_X9_addTwo (a2 : Int32) (a3 : Int32) (a4 : Int32) (a5 : Int32) (μ : Mem) (hI_μ : IX μ) : ok (p_X9_addTwo a2 a3 a4 a5 μ) (fun q => IX q ∧ Fr [(0, 159, 1), (1, 160, 0)] true μ q) := by
  have li0 : (0 : Int32).toInt = 0 := by decide
  have li1 : (1 : Int32).toInt = 1 := by decide
  have hF_μ : Fr [(0, 159, 1), (1, 160, 0)] true μ μ := Fr.rf
  have hr_μ : μ.2.2 = μ.2.2 := rfl
  rw [p_X9_addTwo_eq]
  have lo_a2 := ti_lo a2
  have hi_a2 := ti_hi a2
  have lo_a3 := ti_lo a3
  have hi_a3 := ti_hi a3
  have lo_a4 := ti_lo a4
  have hi_a4 := ti_hi a4
  have lo_a5 := ti_lo a5
  have hi_a5 := ti_hi a5
  refine ok_bw (k_X9_add a3 μ hI_μ) ?_
  rintro μ1 ⟨hI_μ1, hC_μ1⟩
  have hF_μ1 : Fr [(0, 159, 1), (1, 160, 0)] true μ μ1 := hF_μ.trans (hC_μ1.mono (by decide +kernel) (by decide))
  have hr_μ1 : μ1.2.2 = μ.2.2 := (hC_μ1.2 rfl : μ1.2.2 = μ.2.2).trans hr_μ
  refine ok_bd (k_X5_operand a2 (0 : Int32) μ1 hI_μ1) ?_
  rintro r4 μ3 hq9
  obtain rfl : μ1 = μ3 := hq9
  refine ok_bw (k_X9_addSymbol r4 μ1 hI_μ1) ?_
  rintro μ5 ⟨hI_μ5, hC_μ5⟩
  have hF_μ5 : Fr [(0, 159, 1), (1, 160, 0)] true μ μ5 := hF_μ1.trans (hC_μ5.mono (by decide +kernel) (by decide))
  have hr_μ5 : μ5.2.2 = μ.2.2 := (hC_μ5.2 rfl : μ5.2.2 = μ1.2.2).trans hr_μ1
  refine ok_bw (k_X9_add a4 μ5 hI_μ5) ?_
  rintro μ7 ⟨hI_μ7, hC_μ7⟩
  have hF_μ7 : Fr [(0, 159, 1), (1, 160, 0)] true μ μ7 := hF_μ5.trans (hC_μ7.mono (by decide +kernel) (by decide))
  have hr_μ7 : μ7.2.2 = μ.2.2 := (hC_μ7.2 rfl : μ7.2.2 = μ5.2.2).trans hr_μ5
  refine ok_bd (k_X5_operand a2 (1 : Int32) μ7 hI_μ7) ?_
  rintro r10 μ9 hq9
  obtain rfl : μ7 = μ9 := hq9
  refine ok_bw (k_X9_addSymbol r10 μ7 hI_μ7) ?_
  rintro μ11 ⟨hI_μ11, hC_μ11⟩
  have hF_μ11 : Fr [(0, 159, 1), (1, 160, 0)] true μ μ11 := hF_μ7.trans (hC_μ11.mono (by decide +kernel) (by decide))
  have hr_μ11 : μ11.2.2 = μ.2.2 := (hC_μ11.2 rfl : μ11.2.2 = μ7.2.2).trans hr_μ7
  refine ok_bw (k_X9_add a5 μ11 hI_μ11) ?_
  rintro μ13 ⟨hI_μ13, hC_μ13⟩
  have hF_μ13 : Fr [(0, 159, 1), (1, 160, 0)] true μ μ13 := hF_μ11.trans (hC_μ13.mono (by decide +kernel) (by decide))
  have hr_μ13 : μ13.2.2 = μ.2.2 := (hC_μ13.2 rfl : μ13.2.2 = μ11.2.2).trans hr_μ11
  exact ok_some ⟨hI_μ13, hF_μ13⟩

set_option maxHeartbeats 4000000 in
set_option maxRecDepth 100000 in
theorem k_X9_addCall_b50 {n33 : Nat} (K33 : Int32 → Int32 → Int32 → Mem → Option Mem) (hK33 : ∀ (z2 : Int32) (z3 : Int32) (z4 : Int32) (μ1 : Mem), IX μ1 → (0 ≤ (z4).toInt ∧ 2147483648 - (z4).toInt < n33) → ok (K33 z2 z3 z4 μ1) (fun q => IX q ∧ Fr [(0, 159, 1), (1, 160, 0)] true μ1 q)) (a2 : Int32) (a3 : Int32) (a4 : Int32) (μ : Mem) (hI_μ : IX μ) (hc : 0 ≤ (a4).toInt ∧ (a4).toInt < 2147483647 ∧ 2147483648 - (a4).toInt < n33 + 1) : ok (p_X9_addCall_b50 K33 a2 a3 a4 μ) (fun q => IX q ∧ Fr [(0, 159, 1), (1, 160, 0)] true μ q) := by
  have li0 : (0 : Int32).toInt = 0 := by decide
  have li1 : (1 : Int32).toInt = 1 := by decide
  have li2 : (2 : Int32).toInt = 2 := by decide
  have hF_μ : Fr [(0, 159, 1), (1, 160, 0)] true μ μ := Fr.rf
  have hr_μ : μ.2.2 = μ.2.2 := rfl
  rw [p_X9_addCall_b50_eq]
  have lo_a2 := ti_lo a2
  have hi_a2 := ti_hi a2
  have lo_a3 := ti_lo a3
  have hi_a3 := ti_hi a3
  have lo_a4 := ti_lo a4
  have hi_a4 := ti_hi a4
  refine ok_bd (k_X5_operand a2 ((2 : Int32) + a4) μ hI_μ) ?_
  rintro r16 μ15 hq9
  obtain rfl : μ = μ15 := hq9
  refine ok_bw (k_X9_addSymbol r16 μ hI_μ) ?_
  rintro μ17 ⟨hI_μ17, hC_μ17⟩
  have hF_μ17 : Fr [(0, 159, 1), (1, 160, 0)] true μ μ17 := hF_μ.trans (hC_μ17.mono (by decide +kernel) (by decide))
  have hr_μ17 : μ17.2.2 = μ.2.2 := (hC_μ17.2 rfl : μ17.2.2 = μ.2.2).trans hr_μ
  refine ok_bv (fun v19 ev19 => ?_)
  first | have tv19 : v19.toInt = (a4.toInt + 1) := (congrArg Int32.toInt ev19).trans (TI.e (n := (a4.toInt + 1)) (TI.add TI.rf (TI.lit (by decide)) (by omega) (by omega))) | have tv19 : v19.toInt ≤ a4.toInt + 1 := by rw [ev19]; exact ti_inc _ | skip
  exact ok_mono (hK33 a2 a3 v19 μ17 hI_μ17 (by (try rw [hr_μ17]); omega)) (fun q h => ⟨h.1, hF_μ17.trans h.2⟩)
set_option maxHeartbeats 4000000 in
set_option maxRecDepth 100000 in
theorem k_X9_addCall_b33 : ∀ (n : Nat) (a2 : Int32) (a3 : Int32) (a4 : Int32) (μ : Mem), IX μ → (0 ≤ (a4).toInt ∧ 2147483648 - (a4).toInt < n) → ok (p_X9_addCall_b33 n a2 a3 a4 μ) (fun q => IX q ∧ Fr [(0, 159, 1), (1, 160, 0)] true μ q) := by
  have li0 : (0 : Int32).toInt = 0 := by decide
  have li1 : (1 : Int32).toInt = 1 := by decide
  have li41 : (41 : Int32).toInt = 41 := by decide
  have li44 : (44 : Int32).toInt = 44 := by decide
  intro n
  induction n with
  | zero => intro a2 a3 a4 μ hI_μ hc; exact absurd hc (by have lo_a2 := ti_lo a2; have hi_a2 := ti_hi a2; have lo_a3 := ti_lo a3; have hi_a3 := ti_hi a3; have lo_a4 := ti_lo a4; have hi_a4 := ti_hi a4; omega)
  | succ n ih =>
    intro a2 a3 a4 μ hI_μ hc
    have hF_μ : Fr [(0, 159, 1), (1, 160, 0)] true μ μ := Fr.rf
    have hr_μ : μ.2.2 = μ.2.2 := rfl
    rw [p_X9_addCall_b33_s]
    have lo_a2 := ti_lo a2
    have hi_a2 := ti_hi a2
    have lo_a3 := ti_lo a3
    have hi_a3 := ti_hi a3
    have lo_a4 := ti_lo a4
    have hi_a4 := ti_hi a4
    refine ok_ite ?_ ?_
    · intro c11
      rw [ti_le] at c11
      refine ok_bw (k_X9_add (41 : Int32) μ hI_μ) ?_
      rintro μ12 ⟨hI_μ12, hC_μ12⟩
      have hF_μ12 : Fr [(0, 159, 1), (1, 160, 0)] true μ μ12 := hF_μ.trans (hC_μ12.mono (by decide +kernel) (by decide))
      have hr_μ12 : μ12.2.2 = μ.2.2 := (hC_μ12.2 rfl : μ12.2.2 = μ.2.2).trans hr_μ
      exact ok_some ⟨hI_μ12, hF_μ12⟩
    · intro c11
      rw [ti_le] at c11
      refine ok_ite ?_ ?_
      · intro c14
        rw [ti_le] at c14
        exact ok_mono (k_X9_addCall_b50 _ ih a2 a3 a4 μ hI_μ (by omega)) (fun q h => ⟨h.1, hF_μ.trans h.2⟩)
      · intro c14
        rw [ti_le] at c14
        refine ok_bw (k_X9_add (44 : Int32) μ hI_μ) ?_
        rintro μ20 ⟨hI_μ20, hC_μ20⟩
        have hF_μ20 : Fr [(0, 159, 1), (1, 160, 0)] true μ μ20 := hF_μ.trans (hC_μ20.mono (by decide +kernel) (by decide))
        have hr_μ20 : μ20.2.2 = μ.2.2 := (hC_μ20.2 rfl : μ20.2.2 = μ.2.2).trans hr_μ
        exact ok_mono (k_X9_addCall_b50 _ ih a2 a3 a4 μ20 hI_μ20 (by (try rw [hr_μ20]); omega)) (fun q h => ⟨h.1, hF_μ20.trans h.2⟩)
set_option maxHeartbeats 4000000 in
set_option maxRecDepth 100000 in
theorem k_X9_addCall (a2 : Int32) (μ : Mem) (hI_μ : IX μ) : ok (p_X9_addCall a2 μ) (fun q => IX q ∧ Fr [(0, 159, 1), (1, 160, 0)] true μ q) := by
  have li0 : (0 : Int32).toInt = 0 := by decide
  have li1 : (1 : Int32).toInt = 1 := by decide
  have li2 : (2 : Int32).toInt = 2 := by decide
  have li7 : (7 : Int32).toInt = 7 := by decide
  have li40 : (40 : Int32).toInt = 40 := by decide
  have li99 : (99 : Int32).toInt = 99 := by decide
  have hF_μ : Fr [(0, 159, 1), (1, 160, 0)] true μ μ := Fr.rf
  have hr_μ : μ.2.2 = μ.2.2 := rfl
  rw [p_X9_addCall_eq]
  have lo_a2 := ti_lo a2
  have hi_a2 := ti_hi a2
  refine ok_bw (k_X9_add (99 : Int32) μ hI_μ) ?_
  rintro μ1 ⟨hI_μ1, hC_μ1⟩
  have hF_μ1 : Fr [(0, 159, 1), (1, 160, 0)] true μ μ1 := hF_μ.trans (hC_μ1.mono (by decide +kernel) (by decide))
  have hr_μ1 : μ1.2.2 = μ.2.2 := (hC_μ1.2 rfl : μ1.2.2 = μ.2.2).trans hr_μ
  refine ok_bd (k_X5_cell a2 (2 : Int32) μ1 hI_μ1 (by (try rw [hr_μ1]); omega)) ?_
  rintro r4 μ3 hq9
  obtain rfl : μ1 = μ3 := hq9
  have lo_r4 := ti_lo r4
  have hi_r4 := ti_hi r4
  refine ok_bw (k_X9_addInt r4 μ1 hI_μ1) ?_
  rintro μ5 ⟨hI_μ5, hC_μ5⟩
  have hF_μ5 : Fr [(0, 159, 1), (1, 160, 0)] true μ μ5 := hF_μ1.trans (hC_μ5.mono (by decide +kernel) (by decide))
  have hr_μ5 : μ5.2.2 = μ.2.2 := (hC_μ5.2 rfl : μ5.2.2 = μ1.2.2).trans hr_μ1
  refine ok_bw (k_X9_add (40 : Int32) μ5 hI_μ5) ?_
  rintro μ7 ⟨hI_μ7, hC_μ7⟩
  have hF_μ7 : Fr [(0, 159, 1), (1, 160, 0)] true μ μ7 := hF_μ5.trans (hC_μ7.mono (by decide +kernel) (by decide))
  have hr_μ7 : μ7.2.2 = μ.2.2 := (hC_μ7.2 rfl : μ7.2.2 = μ5.2.2).trans hr_μ5
  refine ok_bd (k_X5_cell a2 (7 : Int32) μ7 hI_μ7 (by (try rw [hr_μ7]); omega)) ?_
  rintro r10 μ9 hq9
  obtain rfl : μ7 = μ9 := hq9
  have lo_r10 := ti_lo r10
  have hi_r10 := ti_hi r10
  obtain ⟨fu, hfu0, hfu⟩ := fuel_ex
  rw [hfu0]
  exact ok_mono (k_X9_addCall_b33  fu a2 r10 (0 : Int32) μ7 hI_μ7 (by (try rw [hr_μ7]); omega)) (fun q h => ⟨h.1, hF_μ7.trans h.2⟩)

set_option maxHeartbeats 4000000 in
set_option maxRecDepth 100000 in
theorem k_X9_byteAt (a1 : Int32) (μ : Mem) (hI_μ : IX μ) : ok (p_X9_byteAt a1 μ) (fun q => μ = q.2) := by
  have lim1 : (-1 : Int32).toInt = -1 := by decide
  have li0 : (0 : Int32).toInt = 0 := by decide
  have li1 : (1 : Int32).toInt = 1 := by decide
  have hF_μ : Fr [] true μ μ := Fr.rf
  have hr_μ : μ.2.2 = μ.2.2 := rfl
  rw [p_X9_byteAt_eq]
  have lo_a1 := ti_lo a1
  have hi_a1 := ti_hi a1
  refine ok_ite ?_ ?_
  · intro c1
    rw [ti_lt] at c1
    exact ok_some rfl
  · intro c1
    rw [ti_lt] at c1
    have g2 := rg_159_1 hI_μ
    refine ok_ite ?_ ?_
    · intro c3
      rw [ti_le] at c3
      exact ok_some rfl
    · intro c3
      rw [ti_le] at c3
      refine ok_gd (inb_iff.mpr (by omega)) ?_
      exact ok_some rfl

set_option maxHeartbeats 4000000 in
set_option maxRecDepth 100000 in
theorem k_X11_octet (a1 : Int32) (μ : Mem) (hI_μ : IX μ) : ok (p_X11_octet a1 μ) (fun q => μ = q.2) := by
  have li0 : (0 : Int32).toInt = 0 := by decide
  have li1 : (1 : Int32).toInt = 1 := by decide
  have hF_μ : Fr [] true μ μ := Fr.rf
  have hr_μ : μ.2.2 = μ.2.2 := rfl
  rw [p_X11_octet_eq]
  have lo_a1 := ti_lo a1
  have hi_a1 := ti_hi a1
  refine ok_bd (k_X9_byteAt a1 μ hI_μ) ?_
  rintro r2 μ1 hq9
  obtain rfl : μ = μ1 := hq9
  have lo_r2 := ti_lo r2
  have hi_r2 := ti_hi r2
  exact ok_some rfl

set_option maxHeartbeats 4000000 in
set_option maxRecDepth 100000 in
theorem k_X11_runBoth  (μ : Mem) (hI_μ : IX μ) : ok (p_X11_runBoth  μ) (fun q => IX q.2 ∧ Fr [(0, 30, 5), (0, 30, 7), (0, 30, 10), (0, 148, 5), (0, 151, 5), (0, 151, 6), (1, 33, 0), (1, 34, 0), (1, 38, 0), (1, 154, 0), (1, 155, 0), (2, 0, 0), (2, 0, 1), (2, 0, 2), (2, 0, 3), (2, 0, 4), (2, 0, 5), (2, 0, 6), (2, 1, 2), (2, 1, 3), (3, 0, 2)] false μ q.2 ∧ ((q.1).toInt = 0 ∨ (q.1).toInt = 1)) := by
  have li0 : (0 : Int32).toInt = 0 := by decide
  have li1 : (1 : Int32).toInt = 1 := by decide
  have hF_μ : Fr [(0, 30, 5), (0, 30, 7), (0, 30, 10), (0, 148, 5), (0, 151, 5), (0, 151, 6), (1, 33, 0), (1, 34, 0), (1, 38, 0), (1, 154, 0), (1, 155, 0), (2, 0, 0), (2, 0, 1), (2, 0, 2), (2, 0, 3), (2, 0, 4), (2, 0, 5), (2, 0, 6), (2, 1, 2), (2, 1, 3), (3, 0, 2)] false μ μ := Fr.rf
  have hr_μ : μ.2.2 = μ.2.2 := rfl
  rw [p_X11_runBoth_eq]
  refine ok_bd (k_X11_canRun (0 : Int32) μ hI_μ) ?_
  rintro r2 μ1 ⟨hq9, p_r2⟩
  obtain rfl : μ = μ1 := hq9
  dsimp only at p_r2
  have lo_r2 := ti_lo r2
  have hi_r2 := ti_hi r2
  refine ok_ite ?_ ?_
  · intro c3
    rw [ti_eq] at c3
    exact ok_some ⟨hI_μ, hF_μ, by (try dsimp only); omega⟩
  · intro c3
    rw [ti_eq] at c3
    refine ok_bd (k_X11_canRun (1 : Int32) μ hI_μ) ?_
    rintro r5 μ4 ⟨hq9, p_r5⟩
    obtain rfl : μ = μ4 := hq9
    dsimp only at p_r5
    have lo_r5 := ti_lo r5
    have hi_r5 := ti_hi r5
    refine ok_ite ?_ ?_
    · intro c6
      rw [ti_eq] at c6
      exact ok_some ⟨hI_μ, hF_μ, by (try dsimp only); omega⟩
    · intro c6
      rw [ti_eq] at c6
      refine ok_bw (k_X7_runTask (sel 2 (μ.2.2 0 4)) (sel_2 _) (sel 1 (μ.2.2 0 6)) (sel_1 _) (sel 1 (μ.2.2 0 8)) (sel_1 _) 125 shx_125 μ hI_μ) ?_
      rintro μ7 ⟨hI_μ7, hC_μ7⟩
      have hF_μ7 : Fr [(0, 30, 5), (0, 30, 7), (0, 30, 10), (0, 148, 5), (0, 151, 5), (0, 151, 6), (1, 33, 0), (1, 34, 0), (1, 38, 0), (1, 154, 0), (1, 155, 0), (2, 0, 0), (2, 0, 1), (2, 0, 2), (2, 0, 3), (2, 0, 4), (2, 0, 5), (2, 0, 6), (2, 1, 2), (2, 1, 3), (3, 0, 2)] false μ μ7 := hF_μ.trans (hC_μ7.mono (by decide +kernel) (by decide))
      have hr_μ7 : μ7.2.2 = μ7.2.2 := rfl
      refine ok_bw (k_X6_runResidue (sel 1 (μ7.2.2 0 8)) (sel_1 _) 131 shx_131 μ7 hI_μ7) ?_
      rintro μ9 ⟨hI_μ9, hC_μ9⟩
      have hF_μ9 : Fr [(0, 30, 5), (0, 30, 7), (0, 30, 10), (0, 148, 5), (0, 151, 5), (0, 151, 6), (1, 33, 0), (1, 34, 0), (1, 38, 0), (1, 154, 0), (1, 155, 0), (2, 0, 0), (2, 0, 1), (2, 0, 2), (2, 0, 3), (2, 0, 4), (2, 0, 5), (2, 0, 6), (2, 1, 2), (2, 1, 3), (3, 0, 2)] false μ μ9 := hF_μ7.trans (hC_μ9.mono (by decide +kernel) (by decide))
      have hr_μ9 : μ9.2.2 = μ9.2.2 := rfl
      exact ok_some ⟨hI_μ9, hF_μ9, by (try dsimp only); omega⟩

set_option maxHeartbeats 4000000 in
set_option maxRecDepth 100000 in
theorem k_X1_isLike_b74 : ∀ (n : Nat) (a0 : Nat) (q0 : sh 0 a0 = (0, 0)) (a1 : Nat) (q1 : sh 0 a1 = (0, 0)) (a2 : Int32) (μ : Mem), IX μ → (0 ≤ (a2).toInt ∧ (a2).toInt ≤ 8 ∧ 8 - (a2).toInt < n) → ok (p_X1_isLike_b74 n a0 a1 a2 μ) (fun q => μ = q.2 ∧ ((q.1).toInt = 0 ∨ (q.1).toInt = 1)) := by
  have li0 : (0 : Int32).toInt = 0 := by decide
  have li1 : (1 : Int32).toInt = 1 := by decide
  have li8 : (8 : Int32).toInt = 8 := by decide
  intro n
  induction n with
  | zero => intro a0 q0 a1 q1 a2 μ hI_μ hc; exact absurd hc (by have lo_a2 := ti_lo a2; have hi_a2 := ti_hi a2; omega)
  | succ n ih =>
    intro a0 q0 a1 q1 a2 μ hI_μ hc
    have hF_μ : Fr [] true μ μ := Fr.rf
    have hr_μ : μ.2.2 = μ.2.2 := rfl
    rw [p_X1_isLike_b74_s]
    have lo_a2 := ti_lo a2
    have hi_a2 := ti_hi a2
    refine ok_ite ?_ ?_
    · intro c15
      rw [ti_le] at c15
      exact ok_some ⟨rfl, by (try dsimp only); omega⟩
    · intro c15
      rw [ti_le] at c15
      refine ok_gd (inb_iff.mpr (by omega)) ?_
      refine ok_gd (inb_iff.mpr (by omega)) ?_
      refine ok_ite ?_ ?_
      · intro c16
        rw [ti_eq] at c16
        refine ok_bv (fun v17 ev17 => ?_)
        first | have tv17 : v17.toInt = (a2.toInt + 1) := (congrArg Int32.toInt ev17).trans (TI.e (n := (a2.toInt + 1)) (TI.add TI.rf (TI.lit (by decide)) (by omega) (by omega))) | have tv17 : v17.toInt ≤ a2.toInt + 1 := by rw [ev17]; exact ti_inc _ | skip
        exact ok_mono (ih a0 q0 a1 q1 v17 μ hI_μ (by omega)) (fun q h => h)
      · intro c16
        rw [ti_eq] at c16
        exact ok_some ⟨rfl, by (try dsimp only); omega⟩
set_option maxHeartbeats 4000000 in
set_option maxRecDepth 100000 in
theorem k_X1_isLike_b40 : ∀ (n : Nat) (a0 : Nat) (q0 : sh 0 a0 = (0, 0)) (a1 : Nat) (q1 : sh 0 a1 = (0, 0)) (a2 : Int32) (μ : Mem), IX μ → (0 ≤ (a2).toInt ∧ 2147483648 - (a2).toInt < n) → ok (p_X1_isLike_b40 n a0 a1 a2 μ) (fun q => μ = q.2 ∧ ((q.1).toInt = 0 ∨ (q.1).toInt = 1)) := by
  have li0 : (0 : Int32).toInt = 0 := by decide
  have li1 : (1 : Int32).toInt = 1 := by decide
  intro n
  induction n with
  | zero => intro a0 q0 a1 q1 a2 μ hI_μ hc; exact absurd hc (by have lo_a2 := ti_lo a2; have hi_a2 := ti_hi a2; omega)
  | succ n ih =>
    intro a0 q0 a1 q1 a2 μ hI_μ hc
    have hF_μ : Fr [] true μ μ := Fr.rf
    have hr_μ : μ.2.2 = μ.2.2 := rfl
    rw [p_X1_isLike_b40_s]
    have lo_a2 := ti_lo a2
    have hi_a2 := ti_hi a2
    refine ok_bd (k_X1_keptCount a0 q0 μ hI_μ) ?_
    rintro r13 μ12 ⟨hq9, p_r13⟩
    obtain rfl : μ = μ12 := hq9
    dsimp only at p_r13
    have lo_r13 := ti_lo r13
    have hi_r13 := ti_hi r13
    refine ok_ite ?_ ?_
    · intro c14
      rw [ti_le] at c14
      obtain ⟨fu, hfu0, hfu⟩ := fuel_ex
      rw [hfu0]
      exact ok_mono (k_X1_isLike_b74  fu a0 q0 a1 q1 (0 : Int32) μ hI_μ (by omega)) (fun q h => h)
    · intro c14
      rw [ti_le] at c14
      refine ok_gd (inb_iff.mpr (by omega)) ?_
      refine ok_gd (inb_iff.mpr (by omega)) ?_
      refine ok_ite ?_ ?_
      · intro c18
        rw [ti_eq] at c18
        refine ok_bv (fun v19 ev19 => ?_)
        first | have tv19 : v19.toInt = (a2.toInt + 1) := (congrArg Int32.toInt ev19).trans (TI.e (n := (a2.toInt + 1)) (TI.add TI.rf (TI.lit (by decide)) (by omega) (by omega))) | have tv19 : v19.toInt ≤ a2.toInt + 1 := by rw [ev19]; exact ti_inc _ | skip
        exact ok_mono (ih a0 q0 a1 q1 v19 μ hI_μ (by omega)) (fun q h => h)
      · intro c18
        rw [ti_eq] at c18
        exact ok_some ⟨rfl, by (try dsimp only); omega⟩
set_option maxHeartbeats 4000000 in
set_option maxRecDepth 100000 in
theorem k_X1_isLike (a0 : Nat) (q0 : sh 0 a0 = (0, 0)) (a1 : Nat) (q1 : sh 0 a1 = (0, 0)) (μ : Mem) (hI_μ : IX μ) : ok (p_X1_isLike a0 a1 μ) (fun q => μ = q.2 ∧ ((q.1).toInt = 0 ∨ (q.1).toInt = 1)) := by
  have li0 : (0 : Int32).toInt = 0 := by decide
  have li1 : (1 : Int32).toInt = 1 := by decide
  have hF_μ : Fr [] true μ μ := Fr.rf
  have hr_μ : μ.2.2 = μ.2.2 := rfl
  rw [p_X1_isLike_eq]
  have g1 := ti_lo (μ.1 a0 0)
  have g1h := ti_hi (μ.1 a0 0)
  have g2 := ti_lo (μ.1 a1 0)
  have g2h := ti_hi (μ.1 a1 0)
  refine ok_ite ?_ ?_
  · intro c3
    rw [ti_eq] at c3
    refine ok_bd (k_X2_isSame (a0 + 3) (rl_X1_9 q0) (a1 + 3) (rl_X1_9 q1) μ hI_μ) ?_
    rintro r5 μ4 ⟨hq9, p_r5⟩
    obtain rfl : μ = μ4 := hq9
    dsimp only at p_r5
    have lo_r5 := ti_lo r5
    have hi_r5 := ti_hi r5
    refine ok_ite ?_ ?_
    · intro c6
      rw [ti_eq] at c6
      exact ok_some ⟨rfl, by (try dsimp only); omega⟩
    · intro c6
      rw [ti_eq] at c6
      refine ok_bd (k_X1_keptCount a0 q0 μ hI_μ) ?_
      rintro r8 μ7 ⟨hq9, p_r8⟩
      obtain rfl : μ = μ7 := hq9
      dsimp only at p_r8
      have lo_r8 := ti_lo r8
      have hi_r8 := ti_hi r8
      refine ok_bd (k_X1_keptCount a1 q1 μ hI_μ) ?_
      rintro r10 μ9 ⟨hq9, p_r10⟩
      obtain rfl : μ = μ9 := hq9
      dsimp only at p_r10
      have lo_r10 := ti_lo r10
      have hi_r10 := ti_hi r10
      refine ok_ite ?_ ?_
      · intro c11
        rw [ti_eq] at c11
        obtain ⟨fu, hfu0, hfu⟩ := fuel_ex
        rw [hfu0]
        exact ok_mono (k_X1_isLike_b40  fu a0 q0 a1 q1 (0 : Int32) μ hI_μ (by omega)) (fun q h => h)
      · intro c11
        rw [ti_eq] at c11
        exact ok_some ⟨rfl, by (try dsimp only); omega⟩
  · intro c3
    rw [ti_eq] at c3
    exact ok_some ⟨rfl, by (try dsimp only); omega⟩

set_option maxHeartbeats 4000000 in
set_option maxRecDepth 100000 in
theorem k_X11_agree  (μ : Mem) (hI_μ : IX μ) : ok (p_X11_agree  μ) (fun q => IX q.2 ∧ Fr [(0, 30, 5), (0, 30, 7), (0, 30, 10), (0, 148, 5), (0, 151, 5), (0, 151, 6), (1, 33, 0), (1, 34, 0), (1, 38, 0), (1, 154, 0), (1, 155, 0), (2, 0, 0), (2, 0, 1), (2, 0, 2), (2, 0, 3), (2, 0, 4), (2, 0, 5), (2, 0, 6), (2, 1, 2), (2, 1, 3), (3, 0, 2)] false μ q.2) := by
  have lim1 : (-1 : Int32).toInt = -1 := by decide
  have li0 : (0 : Int32).toInt = 0 := by decide
  have li1 : (1 : Int32).toInt = 1 := by decide
  have hF_μ : Fr [(0, 30, 5), (0, 30, 7), (0, 30, 10), (0, 148, 5), (0, 151, 5), (0, 151, 6), (1, 33, 0), (1, 34, 0), (1, 38, 0), (1, 154, 0), (1, 155, 0), (2, 0, 0), (2, 0, 1), (2, 0, 2), (2, 0, 3), (2, 0, 4), (2, 0, 5), (2, 0, 6), (2, 1, 2), (2, 1, 3), (3, 0, 2)] false μ μ := Fr.rf
  have hr_μ : μ.2.2 = μ.2.2 := rfl
  rw [p_X11_agree_eq]
  refine ok_bd (k_X11_runBoth  μ hI_μ) ?_
  rintro r2 μ1 ⟨hI_μ1, hC_μ1, p_μ1⟩
  have hI_μ1 : IX μ1 := hI_μ1
  have hC_μ1 : Fr [(0, 30, 5), (0, 30, 7), (0, 30, 10), (0, 148, 5), (0, 151, 5), (0, 151, 6), (1, 33, 0), (1, 34, 0), (1, 38, 0), (1, 154, 0), (1, 155, 0), (2, 0, 0), (2, 0, 1), (2, 0, 2), (2, 0, 3), (2, 0, 4), (2, 0, 5), (2, 0, 6), (2, 1, 2), (2, 1, 3), (3, 0, 2)] false μ μ1 := hC_μ1
  dsimp only at p_μ1
  have lo_r2 := ti_lo r2
  have hi_r2 := ti_hi r2
  have hF_μ1 : Fr [(0, 30, 5), (0, 30, 7), (0, 30, 10), (0, 148, 5), (0, 151, 5), (0, 151, 6), (1, 33, 0), (1, 34, 0), (1, 38, 0), (1, 154, 0), (1, 155, 0), (2, 0, 0), (2, 0, 1), (2, 0, 2), (2, 0, 3), (2, 0, 4), (2, 0, 5), (2, 0, 6), (2, 1, 2), (2, 1, 3), (3, 0, 2)] false μ μ1 := hF_μ.trans (hC_μ1.mono (by decide +kernel) (by decide))
  have hr_μ1 : μ1.2.2 = μ1.2.2 := rfl
  refine ok_ite ?_ ?_
  · intro c3
    rw [ti_eq] at c3
    exact ok_some ⟨hI_μ1, hF_μ1⟩
  · intro c3
    rw [ti_eq] at c3
    refine ok_bd (k_X1_isLike 125 shx_125 131 shx_131 μ1 hI_μ1) ?_
    rintro r5 μ4 ⟨hq9, p_r5⟩
    obtain rfl : μ1 = μ4 := hq9
    dsimp only at p_r5
    have lo_r5 := ti_lo r5
    have hi_r5 := ti_hi r5
    refine ok_ite ?_ ?_
    · intro c6
      rw [ti_eq] at c6
      exact ok_some ⟨hI_μ1, hF_μ1⟩
    · intro c6
      rw [ti_eq] at c6
      exact ok_some ⟨hI_μ1, hF_μ1⟩

set_option maxHeartbeats 4000000 in
set_option maxRecDepth 100000 in
theorem k_X11_saved  (μ : Mem) (hI_μ : IX μ) : ok (p_X11_saved  μ) (fun q => IX q.2 ∧ Fr [(0, 30, 5), (0, 30, 7), (0, 30, 10), (0, 148, 5), (0, 151, 5), (0, 151, 6), (1, 33, 0), (1, 34, 0), (1, 38, 0), (1, 154, 0), (1, 155, 0), (2, 0, 0), (2, 0, 1), (2, 0, 2), (2, 0, 3), (2, 0, 4), (2, 0, 5), (2, 0, 6), (2, 1, 2), (2, 1, 3), (3, 0, 2)] false μ q.2) := by
  have lim1000 : (-1000 : Int32).toInt = -1000 := by decide
  have li0 : (0 : Int32).toInt = 0 := by decide
  have li1 : (1 : Int32).toInt = 1 := by decide
  have hF_μ : Fr [(0, 30, 5), (0, 30, 7), (0, 30, 10), (0, 148, 5), (0, 151, 5), (0, 151, 6), (1, 33, 0), (1, 34, 0), (1, 38, 0), (1, 154, 0), (1, 155, 0), (2, 0, 0), (2, 0, 1), (2, 0, 2), (2, 0, 3), (2, 0, 4), (2, 0, 5), (2, 0, 6), (2, 1, 2), (2, 1, 3), (3, 0, 2)] false μ μ := Fr.rf
  have hr_μ : μ.2.2 = μ.2.2 := rfl
  rw [p_X11_saved_eq]
  refine ok_bd (k_X11_runBoth  μ hI_μ) ?_
  rintro r2 μ1 ⟨hI_μ1, hC_μ1, p_μ1⟩
  have hI_μ1 : IX μ1 := hI_μ1
  have hC_μ1 : Fr [(0, 30, 5), (0, 30, 7), (0, 30, 10), (0, 148, 5), (0, 151, 5), (0, 151, 6), (1, 33, 0), (1, 34, 0), (1, 38, 0), (1, 154, 0), (1, 155, 0), (2, 0, 0), (2, 0, 1), (2, 0, 2), (2, 0, 3), (2, 0, 4), (2, 0, 5), (2, 0, 6), (2, 1, 2), (2, 1, 3), (3, 0, 2)] false μ μ1 := hC_μ1
  dsimp only at p_μ1
  have lo_r2 := ti_lo r2
  have hi_r2 := ti_hi r2
  have hF_μ1 : Fr [(0, 30, 5), (0, 30, 7), (0, 30, 10), (0, 148, 5), (0, 151, 5), (0, 151, 6), (1, 33, 0), (1, 34, 0), (1, 38, 0), (1, 154, 0), (1, 155, 0), (2, 0, 0), (2, 0, 1), (2, 0, 2), (2, 0, 3), (2, 0, 4), (2, 0, 5), (2, 0, 6), (2, 1, 2), (2, 1, 3), (3, 0, 2)] false μ μ1 := hF_μ.trans (hC_μ1.mono (by decide +kernel) (by decide))
  have hr_μ1 : μ1.2.2 = μ1.2.2 := rfl
  refine ok_ite ?_ ?_
  · intro c3
    rw [ti_eq] at c3
    exact ok_some ⟨hI_μ1, hF_μ1⟩
  · intro c3
    rw [ti_eq] at c3
    have g4 := ti_lo (μ1.1 125 0)
    have g4h := ti_hi (μ1.1 125 0)
    refine ok_ite ?_ ?_
    · intro c5
      rw [ti_eq] at c5
      have g6 := ti_lo (μ1.1 131 0)
      have g6h := ti_hi (μ1.1 131 0)
      refine ok_ite ?_ ?_
      · intro c7
        rw [ti_eq] at c7
        have g8 := ti_lo (μ1.1 125 1)
        have g8h := ti_hi (μ1.1 125 1)
        have g9 := ti_lo (μ1.1 131 1)
        have g9h := ti_hi (μ1.1 131 1)
        exact ok_some ⟨hI_μ1, hF_μ1⟩
      · intro c7
        rw [ti_eq] at c7
        exact ok_some ⟨hI_μ1, hF_μ1⟩
    · intro c5
      rw [ti_eq] at c5
      exact ok_some ⟨hI_μ1, hF_μ1⟩

set_option maxHeartbeats 4000000 in
set_option maxRecDepth 100000 in
theorem k_X11_op (a1 : Int32) (a2 : Int32) (a3 : Int32) (μ : Mem) (hI_μ : IX μ) : ok (p_X11_op a1 a2 a3 μ) (fun q => μ = q.2) := by
  have li0 : (0 : Int32).toInt = 0 := by decide
  have li1 : (1 : Int32).toInt = 1 := by decide
  have hF_μ : Fr [] true μ μ := Fr.rf
  have hr_μ : μ.2.2 = μ.2.2 := rfl
  rw [p_X11_op_eq]
  have lo_a1 := ti_lo a1
  have hi_a1 := ti_hi a1
  have lo_a2 := ti_lo a2
  have hi_a2 := ti_hi a2
  have lo_a3 := ti_lo a3
  have hi_a3 := ti_hi a3
  refine ok_ite ?_ ?_
  · intro c1
    rw [ti_eq] at c1
    exact ok_some rfl
  · intro c1
    rw [ti_eq] at c1
    refine ok_bv (fun v2 ev2 => ?_)
    exact ok_some rfl
