set_option maxHeartbeats 4000000 in
set_option maxRecDepth 100000 in
theorem k_X11_specialise_b17 : ∀ (n : Nat) (a1 : Int32) (μ : Mem), IX μ → (0 ≤ (a1).toInt ∧ (a1).toInt ≤ 1000000 ∧ 1000000 - (a1).toInt < n) → ok (p_X11_specialise_b17 n a1 μ) (fun q => IX q.2 ∧ Fr [(0, 30, 5), (0, 30, 7), (0, 30, 10), (0, 39, 0), (0, 39, 1), (0, 39, 2), (0, 39, 3), (0, 39, 4), (0, 39, 5), (0, 39, 6), (0, 137, 6), (0, 137, 7), (0, 137, 8), (0, 137, 9), (0, 137, 12), (0, 137, 13), (1, 33, 0), (1, 34, 0), (1, 38, 0), (1, 40, 0), (1, 42, 0), (1, 43, 0), (1, 45, 0), (1, 138, 0), (2, 1, 2), (2, 1, 3)] false μ q.2) := by
  have li0 : (0 : Int32).toInt = 0 := by decide
  have li1 : (1 : Int32).toInt = 1 := by decide
  have li1000000 : (1000000 : Int32).toInt = 1000000 := by decide
  intro n
  induction n with
  | zero => intro a1 μ hI_μ hc; exact absurd hc (by have lo_a1 := ti_lo a1; have hi_a1 := ti_hi a1; omega)
  | succ n ih =>
    intro a1 μ hI_μ hc
    have hF_μ : Fr [(0, 30, 5), (0, 30, 7), (0, 30, 10), (0, 39, 0), (0, 39, 1), (0, 39, 2), (0, 39, 3), (0, 39, 4), (0, 39, 5), (0, 39, 6), (0, 137, 6), (0, 137, 7), (0, 137, 8), (0, 137, 9), (0, 137, 12), (0, 137, 13), (1, 33, 0), (1, 34, 0), (1, 38, 0), (1, 40, 0), (1, 42, 0), (1, 43, 0), (1, 45, 0), (1, 138, 0), (2, 1, 2), (2, 1, 3)] false μ μ := Fr.rf
    have hr_μ : μ.2.2 = μ.2.2 := rfl
    rw [p_X11_specialise_b17_s]
    have lo_a1 := ti_lo a1
    have hi_a1 := ti_hi a1
    refine ok_ite ?_ ?_
    · intro c3
      rw [ti_le] at c3
      refine ok_bd (k_X10_answer  μ hI_μ) ?_
      rintro r5 μ4 ⟨hI_μ4, hC_μ4⟩
      have hI_μ4 : IX μ4 := hI_μ4
      have hC_μ4 : Fr [(0, 39, 0), (0, 39, 1), (0, 39, 2), (0, 39, 3), (0, 39, 4), (0, 39, 5), (0, 39, 6)] true μ μ4 := hC_μ4
      have lo_r5 := ti_lo r5
      have hi_r5 := ti_hi r5
      have hF_μ4 : Fr [(0, 30, 5), (0, 30, 7), (0, 30, 10), (0, 39, 0), (0, 39, 1), (0, 39, 2), (0, 39, 3), (0, 39, 4), (0, 39, 5), (0, 39, 6), (0, 137, 6), (0, 137, 7), (0, 137, 8), (0, 137, 9), (0, 137, 12), (0, 137, 13), (1, 33, 0), (1, 34, 0), (1, 38, 0), (1, 40, 0), (1, 42, 0), (1, 43, 0), (1, 45, 0), (1, 138, 0), (2, 1, 2), (2, 1, 3)] false μ μ4 := hF_μ.trans (hC_μ4.mono (by decide +kernel) (by decide))
      have hr_μ4 : μ4.2.2 = μ.2.2 := (hC_μ4.2 rfl : μ4.2.2 = μ.2.2).trans hr_μ
      try rw [hr_μ4]
      exact ok_some ⟨hI_μ4, hF_μ4⟩
    · intro c3
      rw [ti_le] at c3
      refine ok_bd (k_X10_isWorking  μ hI_μ) ?_
      rintro r7 μ6 ⟨hq9, p_r7⟩
      obtain rfl : μ = μ6 := hq9
      dsimp only at p_r7
      have lo_r7 := ti_lo r7
      have hi_r7 := ti_hi r7
      refine ok_ite ?_ ?_
      · intro c8
        rw [ti_eq] at c8
        refine ok_bd (k_X10_answer  μ hI_μ) ?_
        rintro r10 μ9 ⟨hI_μ9, hC_μ9⟩
        have hI_μ9 : IX μ9 := hI_μ9
        have hC_μ9 : Fr [(0, 39, 0), (0, 39, 1), (0, 39, 2), (0, 39, 3), (0, 39, 4), (0, 39, 5), (0, 39, 6)] true μ μ9 := hC_μ9
        have lo_r10 := ti_lo r10
        have hi_r10 := ti_hi r10
        have hF_μ9 : Fr [(0, 30, 5), (0, 30, 7), (0, 30, 10), (0, 39, 0), (0, 39, 1), (0, 39, 2), (0, 39, 3), (0, 39, 4), (0, 39, 5), (0, 39, 6), (0, 137, 6), (0, 137, 7), (0, 137, 8), (0, 137, 9), (0, 137, 12), (0, 137, 13), (1, 33, 0), (1, 34, 0), (1, 38, 0), (1, 40, 0), (1, 42, 0), (1, 43, 0), (1, 45, 0), (1, 138, 0), (2, 1, 2), (2, 1, 3)] false μ μ9 := hF_μ.trans (hC_μ9.mono (by decide +kernel) (by decide))
        have hr_μ9 : μ9.2.2 = μ.2.2 := (hC_μ9.2 rfl : μ9.2.2 = μ.2.2).trans hr_μ
        try rw [hr_μ9]
        exact ok_some ⟨hI_μ9, hF_μ9⟩
      · intro c8
        rw [ti_eq] at c8
        refine ok_bw (k_X10_step  μ hI_μ) ?_
        rintro μ11 ⟨hI_μ11, hC_μ11⟩
        have hF_μ11 : Fr [(0, 30, 5), (0, 30, 7), (0, 30, 10), (0, 39, 0), (0, 39, 1), (0, 39, 2), (0, 39, 3), (0, 39, 4), (0, 39, 5), (0, 39, 6), (0, 137, 6), (0, 137, 7), (0, 137, 8), (0, 137, 9), (0, 137, 12), (0, 137, 13), (1, 33, 0), (1, 34, 0), (1, 38, 0), (1, 40, 0), (1, 42, 0), (1, 43, 0), (1, 45, 0), (1, 138, 0), (2, 1, 2), (2, 1, 3)] false μ μ11 := hF_μ.trans (hC_μ11.mono (by decide +kernel) (by decide))
        have hr_μ11 : μ11.2.2 = μ11.2.2 := rfl
        refine ok_bv (fun v13 ev13 => ?_)
        first | have tv13 : v13.toInt = (a1.toInt + 1) := (congrArg Int32.toInt ev13).trans (TI.e (n := (a1.toInt + 1)) (TI.add TI.rf (TI.lit (by decide)) (by omega) (by omega))) | have tv13 : v13.toInt ≤ a1.toInt + 1 := by rw [ev13]; exact ti_inc _ | skip
        exact ok_mono (ih v13 μ11 hI_μ11 (by omega)) (fun q h => ⟨h.1, hF_μ11.trans h.2⟩)
set_option maxHeartbeats 4000000 in
set_option maxRecDepth 100000 in
theorem k_X11_specialise  (μ : Mem) (hI_μ : IX μ) : ok (p_X11_specialise  μ) (fun q => IX q.2 ∧ Fr [(0, 30, 5), (0, 30, 7), (0, 30, 10), (0, 39, 0), (0, 39, 1), (0, 39, 2), (0, 39, 3), (0, 39, 4), (0, 39, 5), (0, 39, 6), (0, 137, 6), (0, 137, 7), (0, 137, 8), (0, 137, 9), (0, 137, 12), (0, 137, 13), (1, 33, 0), (1, 34, 0), (1, 38, 0), (1, 40, 0), (1, 42, 0), (1, 43, 0), (1, 45, 0), (1, 138, 0), (2, 1, 2), (2, 1, 3)] false μ q.2) := by
  have li0 : (0 : Int32).toInt = 0 := by decide
  have li1 : (1 : Int32).toInt = 1 := by decide
  have hF_μ : Fr [(0, 30, 5), (0, 30, 7), (0, 30, 10), (0, 39, 0), (0, 39, 1), (0, 39, 2), (0, 39, 3), (0, 39, 4), (0, 39, 5), (0, 39, 6), (0, 137, 6), (0, 137, 7), (0, 137, 8), (0, 137, 9), (0, 137, 12), (0, 137, 13), (1, 33, 0), (1, 34, 0), (1, 38, 0), (1, 40, 0), (1, 42, 0), (1, 43, 0), (1, 45, 0), (1, 138, 0), (2, 1, 2), (2, 1, 3)] false μ μ := Fr.rf
  have hr_μ : μ.2.2 = μ.2.2 := rfl
  rw [p_X11_specialise_eq]
  refine ok_bw (k_X10_begin (sel 2 (μ.2.2 0 4)) (sel_2 _) (sel 1 (μ.2.2 0 6)) (sel_1 _) μ hI_μ) ?_
  rintro μ1 ⟨hI_μ1, hC_μ1⟩
  have hF_μ1 : Fr [(0, 30, 5), (0, 30, 7), (0, 30, 10), (0, 39, 0), (0, 39, 1), (0, 39, 2), (0, 39, 3), (0, 39, 4), (0, 39, 5), (0, 39, 6), (0, 137, 6), (0, 137, 7), (0, 137, 8), (0, 137, 9), (0, 137, 12), (0, 137, 13), (1, 33, 0), (1, 34, 0), (1, 38, 0), (1, 40, 0), (1, 42, 0), (1, 43, 0), (1, 45, 0), (1, 138, 0), (2, 1, 2), (2, 1, 3)] false μ μ1 := hF_μ.trans (hC_μ1.mono (by decide +kernel) (by decide))
  have hr_μ1 : μ1.2.2 = μ1.2.2 := rfl
  obtain ⟨fu, hfu0, hfu⟩ := fuel_ex
  rw [hfu0]
  exact ok_mono (k_X11_specialise_b17  fu (0 : Int32) μ1 hI_μ1 (by omega)) (fun q h => ⟨h.1, hF_μ1.trans h.2⟩)

set_option maxHeartbeats 4000000 in
set_option maxRecDepth 100000 in
theorem k_X5_countOf_b62 {n5 : Nat} (K5 : Int32 → Int32 → Int32 → Int32 → Mem → Option (Int32 × Mem)) (hK5 : ∀ (z1 : Int32) (z2 : Int32) (z3 : Int32) (z4 : Int32) (μ1 : Mem), IX μ1 → (0 ≤ (z4).toInt ∧ 2147483648 - (z4).toInt < n5) → ok (K5 z1 z2 z3 z4 μ1) (fun q => μ1 = q.2)) (a1 : Int32) (a2 : Int32) (a3 : Int32) (a4 : Int32) (μ : Mem) (hI_μ : IX μ) (hc : 0 ≤ (a4).toInt ∧ (a4).toInt < 300 ∧ 2147483648 - (a4).toInt < n5 + 1) : ok (p_X5_countOf_b62 K5 a1 a2 a3 a4 μ) (fun q => μ = q.2) := by
  have li0 : (0 : Int32).toInt = 0 := by decide
  have li1 : (1 : Int32).toInt = 1 := by decide
  have hF_μ : Fr [] true μ μ := Fr.rf
  have hr_μ : μ.2.2 = μ.2.2 := rfl
  rw [p_X5_countOf_b62_eq]
  have lo_a1 := ti_lo a1
  have hi_a1 := ti_hi a1
  have lo_a2 := ti_lo a2
  have hi_a2 := ti_hi a2
  have lo_a3 := ti_lo a3
  have hi_a3 := ti_hi a3
  have lo_a4 := ti_lo a4
  have hi_a4 := ti_hi a4
  refine ok_bv (fun v5 ev5 => ?_)
  first | have tv5 : v5.toInt = (a4.toInt + 1) := (congrArg Int32.toInt ev5).trans (TI.e (n := (a4.toInt + 1)) (TI.add TI.rf (TI.lit (by decide)) (by omega) (by omega))) | have tv5 : v5.toInt ≤ a4.toInt + 1 := by rw [ev5]; exact ti_inc _ | skip
  exact ok_mono (hK5 a1 a2 a3 v5 μ hI_μ (by omega)) (fun q h => h)
set_option maxHeartbeats 4000000 in
set_option maxRecDepth 100000 in
theorem k_X5_countOf_b59 {n5 : Nat} (K5 : Int32 → Int32 → Int32 → Int32 → Mem → Option (Int32 × Mem)) (hK5 : ∀ (z1 : Int32) (z2 : Int32) (z3 : Int32) (z4 : Int32) (μ1 : Mem), IX μ1 → (0 ≤ (z4).toInt ∧ 2147483648 - (z4).toInt < n5) → ok (K5 z1 z2 z3 z4 μ1) (fun q => μ1 = q.2)) (a1 : Int32) (a2 : Int32) (a3 : Int32) (a4 : Int32) (μ : Mem) (hI_μ : IX μ) (hc : 0 ≤ (a4).toInt ∧ (a4).toInt < 300 ∧ 2147483648 - (a4).toInt < n5 + 1) : ok (p_X5_countOf_b59 K5 a1 a2 a3 a4 μ) (fun q => μ = q.2) := by
  have li0 : (0 : Int32).toInt = 0 := by decide
  have li1 : (1 : Int32).toInt = 1 := by decide
  have hF_μ : Fr [] true μ μ := Fr.rf
  have hr_μ : μ.2.2 = μ.2.2 := rfl
  rw [p_X5_countOf_b59_eq]
  have lo_a1 := ti_lo a1
  have hi_a1 := ti_hi a1
  have lo_a2 := ti_lo a2
  have hi_a2 := ti_hi a2
  have lo_a3 := ti_lo a3
  have hi_a3 := ti_hi a3
  have lo_a4 := ti_lo a4
  have hi_a4 := ti_hi a4
  refine ok_bv (fun v7 ev7 => ?_)
  first | have tv7 : v7.toInt = (a3.toInt + 1) := (congrArg Int32.toInt ev7).trans (TI.e (n := (a3.toInt + 1)) (TI.add TI.rf (TI.lit (by decide)) (by omega) (by omega))) | have tv7 : v7.toInt ≤ a3.toInt + 1 := by rw [ev7]; exact ti_inc _ | skip
  exact ok_mono (k_X5_countOf_b62 _ hK5 a1 a2 v7 a4 μ hI_μ (by omega)) (fun q h => h)
set_option maxHeartbeats 4000000 in
set_option maxRecDepth 100000 in
theorem k_X5_countOf_b36 {n5 : Nat} (K5 : Int32 → Int32 → Int32 → Int32 → Mem → Option (Int32 × Mem)) (hK5 : ∀ (z1 : Int32) (z2 : Int32) (z3 : Int32) (z4 : Int32) (μ1 : Mem), IX μ1 → (0 ≤ (z4).toInt ∧ 2147483648 - (z4).toInt < n5) → ok (K5 z1 z2 z3 z4 μ1) (fun q => μ1 = q.2)) (a1 : Int32) (a2 : Int32) (a3 : Int32) (a4 : Int32) (k0 : Int32) (μ : Mem) (hI_μ : IX μ) (hc : 0 ≤ (a4).toInt ∧ (a4).toInt < 300 ∧ 2147483648 - (a4).toInt < n5 + 1) : ok (p_X5_countOf_b36 K5 a1 a2 a3 a4 k0 μ) (fun q => μ = q.2) := by
  have lim1 : (-1 : Int32).toInt = -1 := by decide
  have li0 : (0 : Int32).toInt = 0 := by decide
  have li1 : (1 : Int32).toInt = 1 := by decide
  have hF_μ : Fr [] true μ μ := Fr.rf
  have hr_μ : μ.2.2 = μ.2.2 := rfl
  rw [p_X5_countOf_b36_eq]
  have lo_a1 := ti_lo a1
  have hi_a1 := ti_hi a1
  have lo_a2 := ti_lo a2
  have hi_a2 := ti_hi a2
  have lo_a3 := ti_lo a3
  have hi_a3 := ti_hi a3
  have lo_a4 := ti_lo a4
  have hi_a4 := ti_hi a4
  have lo_k0 := ti_lo k0
  have hi_k0 := ti_hi k0
  refine ok_ite ?_ ?_
  · intro c4
    rw [ti_eq] at c4
    exact ok_mono (k_X5_countOf_b62 _ hK5 a1 a2 a3 a4 μ hI_μ (by omega)) (fun q h => h)
  · intro c4
    rw [ti_eq] at c4
    refine ok_ite ?_ ?_
    · intro c6
      rw [ti_eq] at c6
      exact ok_mono (k_X5_countOf_b59 _ hK5 a1 a2 a3 a4 μ hI_μ (by omega)) (fun q h => h)
    · intro c6
      rw [ti_eq] at c6
      refine ok_bd (k_X5_cell a4 (0 : Int32) μ hI_μ (by omega)) ?_
      rintro r9 μ8 hq9
      obtain rfl : μ = μ8 := hq9
      have lo_r9 := ti_lo r9
      have hi_r9 := ti_hi r9
      refine ok_ite ?_ ?_
      · intro c10
        rw [ti_eq] at c10
        exact ok_mono (k_X5_countOf_b59 _ hK5 a1 a2 a3 a4 μ hI_μ (by omega)) (fun q h => h)
      · intro c10
        rw [ti_eq] at c10
        exact ok_mono (k_X5_countOf_b62 _ hK5 a1 a2 a3 a4 μ hI_μ (by omega)) (fun q h => h)
set_option maxHeartbeats 4000000 in
set_option maxRecDepth 100000 in
theorem k_X5_countOf_b31 {n5 : Nat} (K5 : Int32 → Int32 → Int32 → Int32 → Mem → Option (Int32 × Mem)) (hK5 : ∀ (z1 : Int32) (z2 : Int32) (z3 : Int32) (z4 : Int32) (μ1 : Mem), IX μ1 → (0 ≤ (z4).toInt ∧ 2147483648 - (z4).toInt < n5) → ok (K5 z1 z2 z3 z4 μ1) (fun q => μ1 = q.2)) (a1 : Int32) (a2 : Int32) (a3 : Int32) (a4 : Int32) (μ : Mem) (hI_μ : IX μ) (hc : 0 ≤ (a4).toInt ∧ (a4).toInt < 300 ∧ 2147483648 - (a4).toInt < n5 + 1) : ok (p_X5_countOf_b31 K5 a1 a2 a3 a4 μ) (fun q => μ = q.2) := by
  have li0 : (0 : Int32).toInt = 0 := by decide
  have li1 : (1 : Int32).toInt = 1 := by decide
  have hF_μ : Fr [] true μ μ := Fr.rf
  have hr_μ : μ.2.2 = μ.2.2 := rfl
  rw [p_X5_countOf_b31_eq]
  have lo_a1 := ti_lo a1
  have hi_a1 := ti_hi a1
  have lo_a2 := ti_lo a2
  have hi_a2 := ti_hi a2
  have lo_a3 := ti_lo a3
  have hi_a3 := ti_hi a3
  have lo_a4 := ti_lo a4
  have hi_a4 := ti_hi a4
  exact ok_mono (k_X5_countOf_b36 _ hK5 a1 a2 a3 a4 (1 : Int32) μ hI_μ (by omega)) (fun q h => h)
set_option maxHeartbeats 4000000 in
set_option maxRecDepth 100000 in
theorem k_X5_countOf_b5 : ∀ (n : Nat) (a1 : Int32) (a2 : Int32) (a3 : Int32) (a4 : Int32) (μ : Mem), IX μ → (0 ≤ (a4).toInt ∧ 2147483648 - (a4).toInt < n) → ok (p_X5_countOf_b5 n a1 a2 a3 a4 μ) (fun q => μ = q.2) := by
  have lim1 : (-1 : Int32).toInt = -1 := by decide
  have li0 : (0 : Int32).toInt = 0 := by decide
  have li1 : (1 : Int32).toInt = 1 := by decide
  have li6 : (6 : Int32).toInt = 6 := by decide
  intro n
  induction n with
  | zero => intro a1 a2 a3 a4 μ hI_μ hc; exact absurd hc (by have lo_a1 := ti_lo a1; have hi_a1 := ti_hi a1; have lo_a2 := ti_lo a2; have hi_a2 := ti_hi a2; have lo_a3 := ti_lo a3; have hi_a3 := ti_hi a3; have lo_a4 := ti_lo a4; have hi_a4 := ti_hi a4; omega)
  | succ n ih =>
    intro a1 a2 a3 a4 μ hI_μ hc
    have hF_μ : Fr [] true μ μ := Fr.rf
    have hr_μ : μ.2.2 = μ.2.2 := rfl
    rw [p_X5_countOf_b5_s]
    have lo_a1 := ti_lo a1
    have hi_a1 := ti_hi a1
    have lo_a2 := ti_lo a2
    have hi_a2 := ti_hi a2
    have lo_a3 := ti_lo a3
    have hi_a3 := ti_hi a3
    have lo_a4 := ti_lo a4
    have hi_a4 := ti_hi a4
    have g1 := rg_39_1 hI_μ
    refine ok_ite ?_ ?_
    · intro c2
      rw [ti_le] at c2
      exact ok_some rfl
    · intro c2
      rw [ti_le] at c2
      refine ok_ite ?_ ?_
      · intro c3
        rw [ti_eq] at c3
        exact ok_mono (k_X5_countOf_b31 _ ih a1 a2 a3 a4 μ hI_μ (by omega)) (fun q h => h)
      · intro c3
        rw [ti_eq] at c3
        refine ok_bd (k_X5_cell a4 (6 : Int32) μ hI_μ (by omega)) ?_
        rintro r12 μ11 hq9
        obtain rfl : μ = μ11 := hq9
        have lo_r12 := ti_lo r12
        have hi_r12 := ti_hi r12
        refine ok_ite ?_ ?_
        · intro c13
          rw [ti_eq] at c13
          exact ok_mono (k_X5_countOf_b31 _ ih a1 a2 a3 a4 μ hI_μ (by omega)) (fun q h => h)
        · intro c13
          rw [ti_eq] at c13
          exact ok_mono (k_X5_countOf_b36 _ ih a1 a2 a3 a4 (0 : Int32) μ hI_μ (by omega)) (fun q h => h)
set_option maxHeartbeats 4000000 in
set_option maxRecDepth 100000 in
theorem k_X5_countOf (a1 : Int32) (a2 : Int32) (μ : Mem) (hI_μ : IX μ) : ok (p_X5_countOf a1 a2 μ) (fun q => μ = q.2) := by
  have li0 : (0 : Int32).toInt = 0 := by decide
  have li1 : (1 : Int32).toInt = 1 := by decide
  have hF_μ : Fr [] true μ μ := Fr.rf
  have hr_μ : μ.2.2 = μ.2.2 := rfl
  rw [p_X5_countOf_eq]
  have lo_a1 := ti_lo a1
  have hi_a1 := ti_hi a1
  have lo_a2 := ti_lo a2
  have hi_a2 := ti_hi a2
  obtain ⟨fu, hfu0, hfu⟩ := fuel_ex
  rw [hfu0]
  exact ok_mono (k_X5_countOf_b5  fu a1 a2 (0 : Int32) (0 : Int32) μ hI_μ (by omega)) (fun q h => h)

set_option maxHeartbeats 4000000 in
set_option maxRecDepth 100000 in
theorem k_X5_about (a1 : Int32) (μ : Mem) (hI_μ : IX μ) : ok (p_X5_about a1 μ) (fun q => μ = q.2) := by
  have lim1 : (-1 : Int32).toInt = -1 := by decide
  have li0 : (0 : Int32).toInt = 0 := by decide
  have li1 : (1 : Int32).toInt = 1 := by decide
  have li2 : (2 : Int32).toInt = 2 := by decide
  have li3 : (3 : Int32).toInt = 3 := by decide
  have li4 : (4 : Int32).toInt = 4 := by decide
  have li5 : (5 : Int32).toInt = 5 := by decide
  have li6 : (6 : Int32).toInt = 6 := by decide
  have li7 : (7 : Int32).toInt = 7 := by decide
  have li8 : (8 : Int32).toInt = 8 := by decide
  have li9 : (9 : Int32).toInt = 9 := by decide
  have li10 : (10 : Int32).toInt = 10 := by decide
  have li11 : (11 : Int32).toInt = 11 := by decide
  have hF_μ : Fr [] true μ μ := Fr.rf
  have hr_μ : μ.2.2 = μ.2.2 := rfl
  rw [p_X5_about_eq]
  have lo_a1 := ti_lo a1
  have hi_a1 := ti_hi a1
  have g1 := ti_lo (μ.1 39 0)
  have g1h := ti_hi (μ.1 39 0)
  refine ok_ite ?_ ?_
  · intro c2
    rw [ti_eq] at c2
    exact ok_some rfl
  · intro c2
    rw [ti_eq] at c2
    refine ok_ite ?_ ?_
    · intro c4
      rw [ti_eq] at c4
      have g5 := rg_39_2 hI_μ
      exact ok_some rfl
    intro c4
    rw [ti_eq] at c4
    refine ok_ite ?_ ?_
    · intro c6
      rw [ti_eq] at c6
      have g7 := rg_39_1 hI_μ
      exact ok_some rfl
    intro c6
    rw [ti_eq] at c6
    refine ok_ite ?_ ?_
    · intro c8
      rw [ti_eq] at c8
      have g9 := ti_lo (μ.1 39 3)
      have g9h := ti_hi (μ.1 39 3)
      exact ok_some rfl
    intro c8
    rw [ti_eq] at c8
    refine ok_ite ?_ ?_
    · intro c10
      rw [ti_eq] at c10
      refine ok_bd (k_X5_countOf (-1 : Int32) (11 : Int32) μ hI_μ) ?_
      rintro r12 μ11 hq9
      obtain rfl : μ = μ11 := hq9
      have lo_r12 := ti_lo r12
      have hi_r12 := ti_hi r12
      exact ok_some rfl
    intro c10
    rw [ti_eq] at c10
    refine ok_ite ?_ ?_
    · intro c13
      rw [ti_eq] at c13
      refine ok_bd (k_X5_countOf (-1 : Int32) (7 : Int32) μ hI_μ) ?_
      rintro r15 μ14 hq9
      obtain rfl : μ = μ14 := hq9
      have lo_r15 := ti_lo r15
      have hi_r15 := ti_hi r15
      exact ok_some rfl
    intro c13
    rw [ti_eq] at c13
    refine ok_ite ?_ ?_
    · intro c16
      rw [ti_eq] at c16
      refine ok_bd (k_X5_countOf (-1 : Int32) (8 : Int32) μ hI_μ) ?_
      rintro r18 μ17 hq9
      obtain rfl : μ = μ17 := hq9
      have lo_r18 := ti_lo r18
      have hi_r18 := ti_hi r18
      refine ok_bd (k_X5_countOf (-1 : Int32) (9 : Int32) μ hI_μ) ?_
      rintro r20 μ19 hq9
      obtain rfl : μ = μ19 := hq9
      have lo_r20 := ti_lo r20
      have hi_r20 := ti_hi r20
      exact ok_some rfl
    intro c16
    rw [ti_eq] at c16
    refine ok_ite ?_ ?_
    · intro c21
      rw [ti_eq] at c21
      refine ok_bd (k_X5_countOf (-1 : Int32) (10 : Int32) μ hI_μ) ?_
      rintro r23 μ22 hq9
      obtain rfl : μ = μ22 := hq9
      have lo_r23 := ti_lo r23
      have hi_r23 := ti_hi r23
      exact ok_some rfl
    intro c21
    rw [ti_eq] at c21
    refine ok_ite ?_ ?_
    · intro c24
      rw [ti_eq] at c24
      refine ok_bd (k_X5_countOf (-1 : Int32) (6 : Int32) μ hI_μ) ?_
      rintro r26 μ25 hq9
      obtain rfl : μ = μ25 := hq9
      have lo_r26 := ti_lo r26
      have hi_r26 := ti_hi r26
      exact ok_some rfl
    intro c24
    rw [ti_eq] at c24
    refine ok_ite ?_ ?_
    · intro c27
      rw [ti_eq] at c27
      have g28 := ti_lo (μ.1 39 4)
      have g28h := ti_hi (μ.1 39 4)
      exact ok_some rfl
    intro c27
    rw [ti_eq] at c27
    refine ok_ite ?_ ?_
    · intro c29
      rw [ti_eq] at c29
      have g30 := ti_lo (μ.1 39 5)
      have g30h := ti_hi (μ.1 39 5)
      exact ok_some rfl
    intro c29
    rw [ti_eq] at c29
    exact ok_some rfl

set_option maxHeartbeats 4000000 in
set_option maxRecDepth 100000 in
theorem k_X11_residue (a1 : Int32) (μ : Mem) (hI_μ : IX μ) : ok (p_X11_residue a1 μ) (fun q => μ = q.2) := by
  have li0 : (0 : Int32).toInt = 0 := by decide
  have li1 : (1 : Int32).toInt = 1 := by decide
  have hF_μ : Fr [] true μ μ := Fr.rf
  have hr_μ : μ.2.2 = μ.2.2 := rfl
  rw [p_X11_residue_eq]
  have lo_a1 := ti_lo a1
  have hi_a1 := ti_hi a1
  refine ok_bd (k_X5_about a1 μ hI_μ) ?_
  rintro r2 μ1 hq9
  obtain rfl : μ = μ1 := hq9
  have lo_r2 := ti_lo r2
  have hi_r2 := ti_hi r2
  exact ok_some rfl

set_option maxHeartbeats 4000000 in
set_option maxRecDepth 100000 in
theorem k_X5_hasVariant (a1 : Int32) (μ : Mem) (hI_μ : IX μ) : ok (p_X5_hasVariant a1 μ) (fun q => μ = q.2 ∧ ((q.1).toInt = 0 ∨ (q.1).toInt = 1)) := by
  have li0 : (0 : Int32).toInt = 0 := by decide
  have li1 : (1 : Int32).toInt = 1 := by decide
  have hF_μ : Fr [] true μ μ := Fr.rf
  have hr_μ : μ.2.2 = μ.2.2 := rfl
  rw [p_X5_hasVariant_eq]
  have lo_a1 := ti_lo a1
  have hi_a1 := ti_hi a1
  have g1 := ti_lo (μ.1 39 0)
  have g1h := ti_hi (μ.1 39 0)
  refine ok_ite ?_ ?_
  · intro c2
    rw [ti_eq] at c2
    exact ok_some ⟨rfl, by (try dsimp only); omega⟩
  · intro c2
    rw [ti_eq] at c2
    refine ok_ite ?_ ?_
    · intro c3
      rw [ti_lt] at c3
      exact ok_some ⟨rfl, by (try dsimp only); omega⟩
    · intro c3
      rw [ti_lt] at c3
      have g4 := rg_39_2 hI_μ
      refine ok_ite ?_ ?_
      · intro c5
        rw [ti_le] at c5
        exact ok_some ⟨rfl, by (try dsimp only); omega⟩
      · intro c5
        rw [ti_le] at c5
        exact ok_some ⟨rfl, by (try dsimp only); omega⟩

set_option maxHeartbeats 4000000 in
set_option maxRecDepth 100000 in
theorem k_X2_numbers_b27 {n4 : Nat} (K4 : Nat → Int32 → Int32 → Mem → Option (Int32 × Mem)) (hK4 : ∀ (z0 : Nat) (w0 : sh 0 z0 = (0, 1)) (z1 : Int32) (z2 : Int32) (μ1 : Mem), IX μ1 → (0 ≤ (z2).toInt ∧ 2147483648 - (z2).toInt < n4) → ok (K4 z0 z1 z2 μ1) (fun q => μ1 = q.2)) (a0 : Nat) (q0 : sh 0 a0 = (0, 1)) (a1 : Int32) (a2 : Int32) (μ : Mem) (hI_μ : IX μ) (hc : 0 ≤ (a2).toInt ∧ (a2).toInt < 200 ∧ 2147483648 - (a2).toInt < n4 + 1) : ok (p_X2_numbers_b27 K4 a0 a1 a2 μ) (fun q => μ = q.2) := by
  have li0 : (0 : Int32).toInt = 0 := by decide
  have li1 : (1 : Int32).toInt = 1 := by decide
  have hF_μ : Fr [] true μ μ := Fr.rf
  have hr_μ : μ.2.2 = μ.2.2 := rfl
  rw [p_X2_numbers_b27_eq]
  have lo_a1 := ti_lo a1
  have hi_a1 := ti_hi a1
  have lo_a2 := ti_lo a2
  have hi_a2 := ti_hi a2
  refine ok_bv (fun v4 ev4 => ?_)
  first | have tv4 : v4.toInt = (a2.toInt + 1) := (congrArg Int32.toInt ev4).trans (TI.e (n := (a2.toInt + 1)) (TI.add TI.rf (TI.lit (by decide)) (by omega) (by omega))) | have tv4 : v4.toInt ≤ a2.toInt + 1 := by rw [ev4]; exact ti_inc _ | skip
  exact ok_mono (hK4 a0 q0 a1 v4 μ hI_μ (by omega)) (fun q h => h)
set_option maxHeartbeats 4000000 in
set_option maxRecDepth 100000 in
theorem k_X2_numbers_b4 : ∀ (n : Nat) (a0 : Nat) (q0 : sh 0 a0 = (0, 1)) (a1 : Int32) (a2 : Int32) (μ : Mem), IX μ → (0 ≤ (a2).toInt ∧ 2147483648 - (a2).toInt < n) → ok (p_X2_numbers_b4 n a0 a1 a2 μ) (fun q => μ = q.2) := by
  have li0 : (0 : Int32).toInt = 0 := by decide
  have li1 : (1 : Int32).toInt = 1 := by decide
  intro n
  induction n with
  | zero => intro a0 q0 a1 a2 μ hI_μ hc; exact absurd hc (by have lo_a1 := ti_lo a1; have hi_a1 := ti_hi a1; have lo_a2 := ti_lo a2; have hi_a2 := ti_hi a2; omega)
  | succ n ih =>
    intro a0 q0 a1 a2 μ hI_μ hc
    have hF_μ : Fr [] true μ μ := Fr.rf
    have hr_μ : μ.2.2 = μ.2.2 := rfl
    rw [p_X2_numbers_b4_s]
    have lo_a1 := ti_lo a1
    have hi_a1 := ti_hi a1
    have lo_a2 := ti_lo a2
    have hi_a2 := ti_hi a2
    have g1 := rgp q0 hI_μ
    refine ok_ite ?_ ?_
    · intro c2
      rw [ti_le] at c2
      exact ok_some rfl
    · intro c2
      rw [ti_le] at c2
      refine ok_gd (inb_iff.mpr (by omega)) ?_
      refine ok_ite ?_ ?_
      · intro c3
        rw [ti_eq] at c3
        exact ok_mono (k_X2_numbers_b27 _ ih a0 q0 a1 a2 μ hI_μ (by omega)) (fun q h => h)
      · intro c3
        rw [ti_eq] at c3
        refine ok_bv (fun v5 ev5 => ?_)
        first | have tv5 : v5.toInt = (a1.toInt + 1) := (congrArg Int32.toInt ev5).trans (TI.e (n := (a1.toInt + 1)) (TI.add TI.rf (TI.lit (by decide)) (by omega) (by omega))) | have tv5 : v5.toInt ≤ a1.toInt + 1 := by rw [ev5]; exact ti_inc _ | skip
        exact ok_mono (k_X2_numbers_b27 _ ih a0 q0 v5 a2 μ hI_μ (by omega)) (fun q h => h)
set_option maxHeartbeats 4000000 in
set_option maxRecDepth 100000 in
theorem k_X2_numbers (a0 : Nat) (q0 : sh 0 a0 = (0, 1)) (μ : Mem) (hI_μ : IX μ) : ok (p_X2_numbers a0 μ) (fun q => μ = q.2) := by
  have li0 : (0 : Int32).toInt = 0 := by decide
  have li1 : (1 : Int32).toInt = 1 := by decide
  have hF_μ : Fr [] true μ μ := Fr.rf
  have hr_μ : μ.2.2 = μ.2.2 := rfl
  rw [p_X2_numbers_eq]
  obtain ⟨fu, hfu0, hfu⟩ := fuel_ex
  rw [hfu0]
  exact ok_mono (k_X2_numbers_b4  fu a0 q0 (0 : Int32) (0 : Int32) μ hI_μ (by omega)) (fun q h => h)

set_option maxHeartbeats 4000000 in
set_option maxRecDepth 100000 in
theorem k_X5_aboutVariant (a1 : Int32) (a2 : Int32) (μ : Mem) (hI_μ : IX μ) : ok (p_X5_aboutVariant a1 a2 μ) (fun q => μ = q.2) := by
  have lim1 : (-1 : Int32).toInt = -1 := by decide
  have li0 : (0 : Int32).toInt = 0 := by decide
  have li1 : (1 : Int32).toInt = 1 := by decide
  have li2 : (2 : Int32).toInt = 2 := by decide
  have li3 : (3 : Int32).toInt = 3 := by decide
  have li4 : (4 : Int32).toInt = 4 := by decide
  have li5 : (5 : Int32).toInt = 5 := by decide
  have li6 : (6 : Int32).toInt = 6 := by decide
  have hF_μ : Fr [] true μ μ := Fr.rf
  have hr_μ : μ.2.2 = μ.2.2 := rfl
  rw [p_X5_aboutVariant_eq]
  have lo_a1 := ti_lo a1
  have hi_a1 := ti_hi a1
  have lo_a2 := ti_lo a2
  have hi_a2 := ti_hi a2
  refine ok_bd (k_X5_hasVariant a1 μ hI_μ) ?_
  rintro r2 μ1 ⟨hq9, p_r2⟩
  obtain rfl : μ = μ1 := hq9
  dsimp only at p_r2
  have lo_r2 := ti_lo r2
  have hi_r2 := ti_hi r2
  refine ok_ite ?_ ?_
  · intro c3
    rw [ti_eq] at c3
    exact ok_some rfl
  · intro c3
    rw [ti_eq] at c3
    refine ok_ite ?_ ?_
    · intro c5
      rw [ti_eq] at c5
      refine ok_bd (k_X5_patternOf a1 μ hI_μ) ?_
      rintro r7 μ6 ⟨hq9, p_r7⟩
      obtain rfl : μ = μ6 := hq9
      have qr7 : sh 0 r7 = (0, 1) := p_r7
      have g8 := ti_lo (μ.1 r7 3)
      have g8h := ti_hi (μ.1 r7 3)
      exact ok_some rfl
    intro c5
    rw [ti_eq] at c5
    refine ok_ite ?_ ?_
    · intro c9
      rw [ti_eq] at c9
      refine ok_bd (k_X5_ofVariant a1 (2 : Int32) μ hI_μ (by omega)) ?_
      rintro r11 μ10 hq9
      obtain rfl : μ = μ10 := hq9
      have lo_r11 := ti_lo r11
      have hi_r11 := ti_hi r11
      exact ok_some rfl
    intro c9
    rw [ti_eq] at c9
    refine ok_ite ?_ ?_
    · intro c12
      rw [ti_eq] at c12
      refine ok_bd (k_X5_patternOf a1 μ hI_μ) ?_
      rintro r14 μ13 ⟨hq9, p_r14⟩
      obtain rfl : μ = μ13 := hq9
      have qr14 : sh 0 r14 = (0, 1) := p_r14
      refine ok_bd (k_X2_stars r14 qr14 μ hI_μ) ?_
      rintro r16 μ15 hq9
      obtain rfl : μ = μ15 := hq9
      have lo_r16 := ti_lo r16
      have hi_r16 := ti_hi r16
      exact ok_some rfl
    intro c12
    rw [ti_eq] at c12
    refine ok_ite ?_ ?_
    · intro c17
      rw [ti_eq] at c17
      refine ok_bd (k_X5_countOf a1 (-1 : Int32) μ hI_μ) ?_
      rintro r19 μ18 hq9
      obtain rfl : μ = μ18 := hq9
      have lo_r19 := ti_lo r19
      have hi_r19 := ti_hi r19
      exact ok_some rfl
    intro c17
    rw [ti_eq] at c17
    refine ok_ite ?_ ?_
    · intro c20
      rw [ti_eq] at c20
      refine ok_bd (k_X5_ofVariant a1 (0 : Int32) μ hI_μ (by omega)) ?_
      rintro r22 μ21 hq9
      obtain rfl : μ = μ21 := hq9
      have lo_r22 := ti_lo r22
      have hi_r22 := ti_hi r22
      exact ok_some rfl
    intro c20
    rw [ti_eq] at c20
    refine ok_ite ?_ ?_
    · intro c23
      rw [ti_eq] at c23
      refine ok_bd (k_X5_ofVariant a1 (1 : Int32) μ hI_μ (by omega)) ?_
      rintro r25 μ24 hq9
      obtain rfl : μ = μ24 := hq9
      have lo_r25 := ti_lo r25
      have hi_r25 := ti_hi r25
      exact ok_some rfl
    intro c23
    rw [ti_eq] at c23
    refine ok_ite ?_ ?_
    · intro c26
      rw [ti_eq] at c26
      refine ok_bd (k_X5_patternOf a1 μ hI_μ) ?_
      rintro r28 μ27 ⟨hq9, p_r28⟩
      obtain rfl : μ = μ27 := hq9
      have qr28 : sh 0 r28 = (0, 1) := p_r28
      refine ok_bd (k_X2_numbers r28 qr28 μ hI_μ) ?_
      rintro r30 μ29 hq9
      obtain rfl : μ = μ29 := hq9
      have lo_r30 := ti_lo r30
      have hi_r30 := ti_hi r30
      exact ok_some rfl
    intro c26
    rw [ti_eq] at c26
    exact ok_some rfl

set_option maxHeartbeats 4000000 in
set_option maxRecDepth 100000 in
theorem k_X11_variant (a1 : Int32) (a2 : Int32) (μ : Mem) (hI_μ : IX μ) : ok (p_X11_variant a1 a2 μ) (fun q => μ = q.2) := by
  have li0 : (0 : Int32).toInt = 0 := by decide
  have li1 : (1 : Int32).toInt = 1 := by decide
  have hF_μ : Fr [] true μ μ := Fr.rf
  have hr_μ : μ.2.2 = μ.2.2 := rfl
  rw [p_X11_variant_eq]
  have lo_a1 := ti_lo a1
  have hi_a1 := ti_hi a1
  have lo_a2 := ti_lo a2
  have hi_a2 := ti_hi a2
  refine ok_bd (k_X5_aboutVariant a1 a2 μ hI_μ) ?_
  rintro r2 μ1 hq9
  obtain rfl : μ = μ1 := hq9
  have lo_r2 := ti_lo r2
  have hi_r2 := ti_hi r2
  exact ok_some rfl

set_option maxHeartbeats 4000000 in
set_option maxRecDepth 100000 in
theorem k_X11_kinds (a1 : Int32) (a2 : Int32) (μ : Mem) (hI_μ : IX μ) : ok (p_X11_kinds a1 a2 μ) (fun q => μ = q.2) := by
  have lim1 : (-1 : Int32).toInt = -1 := by decide
  have li0 : (0 : Int32).toInt = 0 := by decide
  have li1 : (1 : Int32).toInt = 1 := by decide
  have li13 : (13 : Int32).toInt = 13 := by decide
  have hF_μ : Fr [] true μ μ := Fr.rf
  have hr_μ : μ.2.2 = μ.2.2 := rfl
  rw [p_X11_kinds_eq]
  have lo_a1 := ti_lo a1
  have hi_a1 := ti_hi a1
  have lo_a2 := ti_lo a2
  have hi_a2 := ti_hi a2
  refine ok_bd (k_X5_hasVariant a1 μ hI_μ) ?_
  rintro r2 μ1 ⟨hq9, p_r2⟩
  obtain rfl : μ = μ1 := hq9
  dsimp only at p_r2
  have lo_r2 := ti_lo r2
  have hi_r2 := ti_hi r2
  refine ok_ite ?_ ?_
  · intro c3
    rw [ti_eq] at c3
    exact ok_some rfl
  · intro c3
    rw [ti_eq] at c3
    refine ok_ite ?_ ?_
    · intro c4
      rw [ti_lt] at c4
      exact ok_some rfl
    · intro c4
      rw [ti_lt] at c4
      refine ok_ite ?_ ?_
      · intro c5
        rw [ti_lt] at c5
        refine ok_bd (k_X5_countOf a1 a2 μ hI_μ) ?_
        rintro r7 μ6 hq9
        obtain rfl : μ = μ6 := hq9
        have lo_r7 := ti_lo r7
        have hi_r7 := ti_hi r7
        exact ok_some rfl
      · intro c5
        rw [ti_lt] at c5
        exact ok_some rfl

set_option maxHeartbeats 4000000 in
set_option maxRecDepth 100000 in
theorem k_X11_canRun_b25  (μ : Mem) (hI_μ : IX μ) : ok (p_X11_canRun_b25  μ) (fun q => μ = q.2 ∧ ((q.1).toInt = 0 ∨ (q.1).toInt = 1)) := by
  have li0 : (0 : Int32).toInt = 0 := by decide
  have li1 : (1 : Int32).toInt = 1 := by decide
  have hF_μ : Fr [] true μ μ := Fr.rf
  have hr_μ : μ.2.2 = μ.2.2 := rfl
  rw [p_X11_canRun_b25_eq]
  have g3 := ti_lo (μ.1 0 10)
  have g3h := ti_hi (μ.1 0 10)
  refine ok_ite ?_ ?_
  · intro c4
    rw [ti_eq] at c4
    refine ok_bd (k_X2_stars (sel 1 (μ.2.2 0 6)) (sel_1 _) μ hI_μ) ?_
    rintro r6 μ5 hq9
    obtain rfl : μ = μ5 := hq9
    have lo_r6 := ti_lo r6
    have hi_r6 := ti_hi r6
    refine ok_ite ?_ ?_
    · intro c7
      rw [ti_eq] at c7
      exact ok_some ⟨rfl, by (try dsimp only); omega⟩
    · intro c7
      rw [ti_eq] at c7
      exact ok_some ⟨rfl, by (try dsimp only); omega⟩
  · intro c4
    rw [ti_eq] at c4
    exact ok_some ⟨rfl, by (try dsimp only); omega⟩
set_option maxHeartbeats 4000000 in
set_option maxRecDepth 100000 in
theorem k_X11_canRun_b11 (a1 : Int32) (μ : Mem) (hI_μ : IX μ) : ok (p_X11_canRun_b11 a1 μ) (fun q => μ = q.2 ∧ ((q.1).toInt = 0 ∨ (q.1).toInt = 1)) := by
  have li0 : (0 : Int32).toInt = 0 := by decide
  have li1 : (1 : Int32).toInt = 1 := by decide
  have hF_μ : Fr [] true μ μ := Fr.rf
  have hr_μ : μ.2.2 = μ.2.2 := rfl
  rw [p_X11_canRun_b11_eq]
  have lo_a1 := ti_lo a1
  have hi_a1 := ti_hi a1
  refine ok_ite ?_ ?_
  · intro c2
    rw [ti_eq] at c2
    exact ok_mono (k_X11_canRun_b25   μ hI_μ) (fun q h => h)
  · intro c2
    rw [ti_eq] at c2
    have g8 := ti_lo (μ.1 39 0)
    have g8h := ti_hi (μ.1 39 0)
    refine ok_ite ?_ ?_
    · intro c9
      rw [ti_eq] at c9
      exact ok_some ⟨rfl, by (try dsimp only); omega⟩
    · intro c9
      rw [ti_eq] at c9
      exact ok_mono (k_X11_canRun_b25   μ hI_μ) (fun q h => h)
set_option maxHeartbeats 4000000 in
set_option maxRecDepth 100000 in
theorem k_X11_canRun (a1 : Int32) (μ : Mem) (hI_μ : IX μ) : ok (p_X11_canRun a1 μ) (fun q => μ = q.2 ∧ ((q.1).toInt = 0 ∨ (q.1).toInt = 1)) := by
  have li0 : (0 : Int32).toInt = 0 := by decide
  have li1 : (1 : Int32).toInt = 1 := by decide
  have hF_μ : Fr [] true μ μ := Fr.rf
  have hr_μ : μ.2.2 = μ.2.2 := rfl
  rw [p_X11_canRun_eq]
  have lo_a1 := ti_lo a1
  have hi_a1 := ti_hi a1
  refine ok_ite ?_ ?_
  · intro c1
    rw [ti_eq] at c1
    exact ok_mono (k_X11_canRun_b11  a1 μ hI_μ) (fun q h => h)
  · intro c1
    rw [ti_eq] at c1
    refine ok_ite ?_ ?_
    · intro c10
      rw [ti_eq] at c10
      exact ok_mono (k_X11_canRun_b11  a1 μ hI_μ) (fun q h => h)
    · intro c10
      rw [ti_eq] at c10
      exact ok_some ⟨rfl, by (try dsimp only); omega⟩

set_option maxHeartbeats 4000000 in
set_option maxRecDepth 100000 in
theorem k_X1_begin_b45 : ∀ (n : Nat) (a0 : Nat) (q0 : sh 0 a0 = (0, 0)) (a1 : Int32) (μ : Mem), IX μ → (0 ≤ (a1).toInt ∧ (a1).toInt ≤ 8 ∧ (μ.1 a0 4).toInt = 0 ∧ 8 - (a1).toInt < n) → ok (p_X1_begin_b45 n a0 a1 μ) (fun q => IX q ∧ Fr [(2, 0, 0), (2, 0, 1), (2, 0, 2), (2, 0, 3), (2, 0, 4), (2, 0, 5), (2, 0, 6), (2, 1, 2), (2, 1, 3), (3, 0, 2)] true μ q ∧ ((q.1 a0 4).toInt = 0)) := by
  have li0 : (0 : Int32).toInt = 0 := by decide
  have li1 : (1 : Int32).toInt = 1 := by decide
  have li8 : (8 : Int32).toInt = 8 := by decide
  intro n
  induction n with
  | zero => intro a0 q0 a1 μ hI_μ hc; exact absurd hc (by have lo_a1 := ti_lo a1; have hi_a1 := ti_hi a1; omega)
  | succ n ih =>
    intro a0 q0 a1 μ hI_μ hc
    have hF_μ : Fr [(2, 0, 0), (2, 0, 1), (2, 0, 2), (2, 0, 3), (2, 0, 4), (2, 0, 5), (2, 0, 6), (2, 1, 2), (2, 1, 3), (3, 0, 2)] true μ μ := Fr.rf
    have hr_μ : μ.2.2 = μ.2.2 := rfl
    rw [p_X1_begin_b45_s]
    have lo_a1 := ti_lo a1
    have hi_a1 := ti_hi a1
    have g10 := rgc_0_4 q0 hI_μ
    refine ok_ite ?_ ?_
    · intro c11
      rw [ti_le] at c11
      exact ok_some ⟨hI_μ, hF_μ, by (try dsimp only); omega⟩
    · intro c11
      rw [ti_le] at c11
      refine ok_gd (inb_iff.mpr (by omega)) ?_
      refine ok_bv (fun μ12 e_μ12 => ?_)
      have hI_μ12 : IX μ12 := by rw [e_μ12]; exact IX_F hI_μ (rtr_0_2 q0 _ _)
      have hF_μ12 : Fr [(2, 0, 0), (2, 0, 1), (2, 0, 2), (2, 0, 3), (2, 0, 4), (2, 0, 5), (2, 0, 6), (2, 1, 2), (2, 1, 3), (3, 0, 2)] true μ μ12 := by rw [e_μ12]; exact Fr.putr (ci := 0) (off := 2) hF_μ (by decide +kernel) q0
      have hr_μ12 : μ12.2.2 = μ.2.2 := (by rw [e_μ12]; rfl : μ12.2.2 = μ.2.2).trans hr_μ
      refine ok_bv (fun v13 ev13 => ?_)
      first | have tv13 : v13.toInt = (a1.toInt + 1) := (congrArg Int32.toInt ev13).trans (TI.e (n := (a1.toInt + 1)) (TI.add TI.rf (TI.lit (by decide)) (by omega) (by omega))) | have tv13 : v13.toInt ≤ a1.toInt + 1 := by rw [ev13]; exact ti_inc _ | skip
      have g14 := rgc_0_4 q0 hI_μ12
      have f15 : (μ12.1 a0 4).toInt = (μ.1 a0 4).toInt := congrArg Int32.toInt ((by rw [e_μ12]; exact sF_i (ne_sh q0 (rl_X1_8 q0) (by simp)) : μ12.1 a0 4 = μ.1 a0 4))
      exact ok_mono (ih a0 q0 v13 μ12 hI_μ12 (by (try rw [hr_μ12]); omega)) (fun q h => ⟨h.1, hF_μ12.trans h.2.1, h.2.2⟩)
set_option maxHeartbeats 4000000 in
set_option maxRecDepth 100000 in
theorem k_X1_begin (a0 : Nat) (q0 : sh 0 a0 = (0, 0)) (μ : Mem) (hI_μ : IX μ) : ok (p_X1_begin a0 μ) (fun q => IX q ∧ Fr [(2, 0, 0), (2, 0, 1), (2, 0, 2), (2, 0, 3), (2, 0, 4), (2, 0, 5), (2, 0, 6), (2, 1, 2), (2, 1, 3), (3, 0, 2)] true μ q ∧ ((q.1 a0 4).toInt = 0)) := by
  have lim1 : (-1 : Int32).toInt = -1 := by decide
  have li0 : (0 : Int32).toInt = 0 := by decide
  have li1 : (1 : Int32).toInt = 1 := by decide
  have hF_μ : Fr [(2, 0, 0), (2, 0, 1), (2, 0, 2), (2, 0, 3), (2, 0, 4), (2, 0, 5), (2, 0, 6), (2, 1, 2), (2, 1, 3), (3, 0, 2)] true μ μ := Fr.rf
  have hr_μ : μ.2.2 = μ.2.2 := rfl
  rw [p_X1_begin_eq]
  refine ok_bv (fun μ1 e_μ1 => ?_)
  have hI_μ1 : IX μ1 := by rw [e_μ1]; exact IX_F hI_μ (rtc_0_0 q0 _)
  have hF_μ1 : Fr [(2, 0, 0), (2, 0, 1), (2, 0, 2), (2, 0, 3), (2, 0, 4), (2, 0, 5), (2, 0, 6), (2, 1, 2), (2, 1, 3), (3, 0, 2)] true μ μ1 := by rw [e_μ1]; exact Fr.putc (ci := 0) hF_μ (by decide +kernel) q0
  have v_μ1 : (μ1.1 a0 0).toInt = (-1) := by rw [e_μ1, sF_v]; exact TI.e (n := (-1)) (TI.lit (by decide))
  have hr_μ1 : μ1.2.2 = μ.2.2 := (by rw [e_μ1]; rfl : μ1.2.2 = μ.2.2).trans hr_μ
  refine ok_bv (fun μ2 e_μ2 => ?_)
  have hI_μ2 : IX μ2 := by rw [e_μ2]; exact IX_F hI_μ1 (rtc_0_1 q0 _)
  have hF_μ2 : Fr [(2, 0, 0), (2, 0, 1), (2, 0, 2), (2, 0, 3), (2, 0, 4), (2, 0, 5), (2, 0, 6), (2, 1, 2), (2, 1, 3), (3, 0, 2)] true μ μ2 := by rw [e_μ2]; exact Fr.putc (ci := 0) hF_μ1 (by decide +kernel) q0
  have v_μ2 : (μ2.1 a0 1).toInt = 0 := by rw [e_μ2, sF_v]; exact TI.e (n := 0) (TI.lit (by decide))
  have hr_μ2 : μ2.2.2 = μ.2.2 := (by rw [e_μ2]; rfl : μ2.2.2 = μ1.2.2).trans hr_μ1
  refine ok_bv (fun μ3 e_μ3 => ?_)
  have hI_μ3 : IX μ3 := by rw [e_μ3]; exact IX_F hI_μ2 (rtc_0_2 q0 _)
  have hF_μ3 : Fr [(2, 0, 0), (2, 0, 1), (2, 0, 2), (2, 0, 3), (2, 0, 4), (2, 0, 5), (2, 0, 6), (2, 1, 2), (2, 1, 3), (3, 0, 2)] true μ μ3 := by rw [e_μ3]; exact Fr.putc (ci := 0) hF_μ2 (by decide +kernel) q0
  have v_μ3 : (μ3.1 a0 2).toInt = 0 := by rw [e_μ3, sF_v]; exact TI.e (n := 0) (TI.lit (by decide))
  have hr_μ3 : μ3.2.2 = μ.2.2 := (by rw [e_μ3]; rfl : μ3.2.2 = μ2.2.2).trans hr_μ2
  refine ok_bv (fun μ4 e_μ4 => ?_)
  have hI_μ4 : IX μ4 := by rw [e_μ4]; exact IX_F hI_μ3 (rtc_0_3 q0 _)
  have hF_μ4 : Fr [(2, 0, 0), (2, 0, 1), (2, 0, 2), (2, 0, 3), (2, 0, 4), (2, 0, 5), (2, 0, 6), (2, 1, 2), (2, 1, 3), (3, 0, 2)] true μ μ4 := by rw [e_μ4]; exact Fr.putc (ci := 0) hF_μ3 (by decide +kernel) q0
  have v_μ4 : (μ4.1 a0 3).toInt = 0 := by rw [e_μ4, sF_v]; exact TI.e (n := 0) (TI.lit (by decide))
  have hr_μ4 : μ4.2.2 = μ.2.2 := (by rw [e_μ4]; rfl : μ4.2.2 = μ3.2.2).trans hr_μ3
  refine ok_bv (fun μ5 e_μ5 => ?_)
  have hI_μ5 : IX μ5 := by rw [e_μ5]; exact IX_F hI_μ4 (rpc_0_4 q0 (by omega))
  have hF_μ5 : Fr [(2, 0, 0), (2, 0, 1), (2, 0, 2), (2, 0, 3), (2, 0, 4), (2, 0, 5), (2, 0, 6), (2, 1, 2), (2, 1, 3), (3, 0, 2)] true μ μ5 := by rw [e_μ5]; exact Fr.putc (ci := 0) hF_μ4 (by decide +kernel) q0
  have v_μ5 : (μ5.1 a0 4).toInt = 0 := by rw [e_μ5, sF_v]; exact TI.e (n := 0) (TI.lit (by decide))
  have hr_μ5 : μ5.2.2 = μ.2.2 := (by rw [e_μ5]; rfl : μ5.2.2 = μ4.2.2).trans hr_μ4
  refine ok_bv (fun μ6 e_μ6 => ?_)
  have hI_μ6 : IX μ6 := by rw [e_μ6]; exact IX_F hI_μ5 (rtc_0_5 q0 _)
  have hF_μ6 : Fr [(2, 0, 0), (2, 0, 1), (2, 0, 2), (2, 0, 3), (2, 0, 4), (2, 0, 5), (2, 0, 6), (2, 1, 2), (2, 1, 3), (3, 0, 2)] true μ μ6 := by rw [e_μ6]; exact Fr.putc (ci := 0) hF_μ5 (by decide +kernel) q0
  have v_μ6 : (μ6.1 a0 5).toInt = 0 := by rw [e_μ6, sF_v]; exact TI.e (n := 0) (TI.lit (by decide))
  have hr_μ6 : μ6.2.2 = μ.2.2 := (by rw [e_μ6]; rfl : μ6.2.2 = μ5.2.2).trans hr_μ5
  refine ok_bv (fun μ7 e_μ7 => ?_)
  have hI_μ7 : IX μ7 := by rw [e_μ7]; exact IX_F hI_μ6 (rtc_0_6 q0 _)
  have hF_μ7 : Fr [(2, 0, 0), (2, 0, 1), (2, 0, 2), (2, 0, 3), (2, 0, 4), (2, 0, 5), (2, 0, 6), (2, 1, 2), (2, 1, 3), (3, 0, 2)] true μ μ7 := by rw [e_μ7]; exact Fr.putc (ci := 0) hF_μ6 (by decide +kernel) q0
  have v_μ7 : (μ7.1 a0 6).toInt = 0 := by rw [e_μ7, sF_v]; exact TI.e (n := 0) (TI.lit (by decide))
  have hr_μ7 : μ7.2.2 = μ.2.2 := (by rw [e_μ7]; rfl : μ7.2.2 = μ6.2.2).trans hr_μ6
  refine ok_bw (k_X2_begin (a0 + 3) (rl_X1_9 q0) (0 : Int32) μ7 hI_μ7) ?_
  rintro μ8 ⟨hI_μ8, hC_μ8⟩
  have hF_μ8 : Fr [(2, 0, 0), (2, 0, 1), (2, 0, 2), (2, 0, 3), (2, 0, 4), (2, 0, 5), (2, 0, 6), (2, 1, 2), (2, 1, 3), (3, 0, 2)] true μ μ8 := hF_μ7.trans (hC_μ8.mono (by decide +kernel) (by decide))
  have hr_μ8 : μ8.2.2 = μ.2.2 := (hC_μ8.2 rfl : μ8.2.2 = μ7.2.2).trans hr_μ7
  have g16 := rgc_0_4 q0 hI_μ8
  have f17 : (μ8.1 a0 4).toInt = (μ5.1 a0 4).toInt := congrArg Int32.toInt ((hC_μ8.1 _ _ (cls_free (by decide +kernel) q0)).trans (((by rw [e_μ7]; exact sF_k (by decide) : μ7.1 a0 4 = μ6.1 a0 4)).trans ((by rw [e_μ6]; exact sF_k (by decide) : μ6.1 a0 4 = μ5.1 a0 4))))
  obtain ⟨fu, hfu0, hfu⟩ := fuel_ex
  rw [hfu0]
  exact ok_mono (k_X1_begin_b45  fu a0 q0 (0 : Int32) μ8 hI_μ8 (by (try rw [hr_μ8]); omega)) (fun q h => ⟨h.1, hF_μ8.trans h.2.1, h.2.2⟩)

set_option maxHeartbeats 4000000 in
set_option maxRecDepth 100000 in
theorem k_X1_clear (a0 : Nat) (q0 : sh 0 a0 = (0, 0)) (μ : Mem) (hI_μ : IX μ) : ok (p_X1_clear a0 μ) (fun q => IX q ∧ Fr [(2, 0, 0), (2, 0, 1), (2, 0, 2), (2, 0, 3), (2, 0, 4), (2, 0, 5), (2, 0, 6), (2, 1, 2), (2, 1, 3), (3, 0, 2)] true μ q ∧ ((q.1 a0 4).toInt = 0)) := by
  have li0 : (0 : Int32).toInt = 0 := by decide
  have li1 : (1 : Int32).toInt = 1 := by decide
  have hF_μ : Fr [(2, 0, 0), (2, 0, 1), (2, 0, 2), (2, 0, 3), (2, 0, 4), (2, 0, 5), (2, 0, 6), (2, 1, 2), (2, 1, 3), (3, 0, 2)] true μ μ := Fr.rf
  have hr_μ : μ.2.2 = μ.2.2 := rfl
  rw [p_X1_clear_eq]
  refine ok_bw (k_X1_begin a0 q0 μ hI_μ) ?_
  rintro μ1 ⟨hI_μ1, hC_μ1, p_μ1⟩
  have hF_μ1 : Fr [(2, 0, 0), (2, 0, 1), (2, 0, 2), (2, 0, 3), (2, 0, 4), (2, 0, 5), (2, 0, 6), (2, 1, 2), (2, 1, 3), (3, 0, 2)] true μ μ1 := hF_μ.trans (hC_μ1.mono (by decide +kernel) (by decide))
  have hr_μ1 : μ1.2.2 = μ.2.2 := (hC_μ1.2 rfl : μ1.2.2 = μ.2.2).trans hr_μ
  have g3 := rgc_0_4 q0 hI_μ1
  exact ok_some ⟨hI_μ1, hF_μ1, by (try dsimp only); (try rw [hr_μ1]); omega⟩

set_option maxHeartbeats 4000000 in
set_option maxRecDepth 100000 in
theorem k_X1_isRunning (a0 : Nat) (q0 : sh 0 a0 = (0, 0)) (μ : Mem) (hI_μ : IX μ) : ok (p_X1_isRunning a0 μ) (fun q => μ = q.2 ∧ ((q.1).toInt = 0 ∨ (q.1).toInt = 1)) := by
  have lim1 : (-1 : Int32).toInt = -1 := by decide
  have li0 : (0 : Int32).toInt = 0 := by decide
  have li1 : (1 : Int32).toInt = 1 := by decide
  have hF_μ : Fr [] true μ μ := Fr.rf
  have hr_μ : μ.2.2 = μ.2.2 := rfl
  rw [p_X1_isRunning_eq]
  have g1 := ti_lo (μ.1 a0 0)
  have g1h := ti_hi (μ.1 a0 0)
  refine ok_ite ?_ ?_
  · intro c2
    rw [ti_eq] at c2
    exact ok_some ⟨rfl, by (try dsimp only); omega⟩
  · intro c2
    rw [ti_eq] at c2
    exact ok_some ⟨rfl, by (try dsimp only); omega⟩
