/-! THE TEXT OF A VARIANT: every part of it ends, within the ranges -/
set_option maxHeartbeats 4000000 in
set_option maxRecDepth 100000 in
theorem k_X9_addChoice {nE : Nat} (RE : Int32 → Int32 → Mem → Option Mem) (hRE : ∀ (z2 : Int32) (z3 : Int32) (μ1 : Mem), IX μ1 → (0 ≤ (z3).toInt ∧ (z3).toInt ≤ 45 ∧ 45 - (z3).toInt < nE) → ok (RE z2 z3 μ1) (fun q => IX q ∧ Fr [(0, 159, 1), (1, 160, 0)] true μ1 q)) (a2 : Int32) (a3 : Int32) (μ : Mem) (hI_μ : IX μ) (hc : 0 ≤ (a3).toInt ∧ (a3).toInt < 45 ∧ 44 - (a3).toInt < nE) : ok (p_X9_addChoice RE a2 a3 μ) (fun q => IX q ∧ Fr [(0, 159, 1), (1, 160, 0)] true μ q) := by
  have li0 : (0 : Int32).toInt = 0 := by decide
  have li1 : (1 : Int32).toInt = 1 := by decide
  have li3 : (3 : Int32).toInt = 3 := by decide
  have li4 : (4 : Int32).toInt = 4 := by decide
  have li63 : (63 : Int32).toInt = 63 := by decide
  have li123 : (123 : Int32).toInt = 123 := by decide
  have li125 : (125 : Int32).toInt = 125 := by decide
  have hF_μ : Fr [(0, 159, 1), (1, 160, 0)] true μ μ := Fr.rf
  have hr_μ : μ.2.2 = μ.2.2 := rfl
  rw [p_X9_addChoice_eq]
  have lo_a2 := ti_lo a2
  have hi_a2 := ti_hi a2
  have lo_a3 := ti_lo a3
  have hi_a3 := ti_hi a3
  refine ok_bw (k_X9_add (63 : Int32) μ hI_μ) ?_
  rintro μ1 ⟨hI_μ1, hC_μ1⟩
  have hF_μ1 : Fr [(0, 159, 1), (1, 160, 0)] true μ μ1 := hF_μ.trans (hC_μ1.mono (by decide +kernel) (by decide))
  have hr_μ1 : μ1.2.2 = μ.2.2 := (hC_μ1.2 rfl : μ1.2.2 = μ.2.2).trans hr_μ
  refine ok_bd (k_X5_operand a2 (0 : Int32) μ1 hI_μ1) ?_
  rintro r4 μ3 hq9
  obtain rfl : μ1 = μ3 := hq9
  refine ok_bw (k_X9_addSymbol r4 μ1 hI_μ1) ?_
  rintro μ5 ⟨hI_μ5, hC_μ5⟩
  have hF_μ5 : Fr [(0, 159, 1), (1, 160, 0)] true μ μ5 := hF_μ1.trans (hC_μ5.mono (by decide +kernel) (by decide))
  have hr_μ5 : μ5.2.2 = μ.2.2 := (hC_μ5.2 rfl : μ5.2.2 = μ1.2.2).trans hr_μ1
  refine ok_bw (k_X9_add (123 : Int32) μ5 hI_μ5) ?_
  rintro μ7 ⟨hI_μ7, hC_μ7⟩
  have hF_μ7 : Fr [(0, 159, 1), (1, 160, 0)] true μ μ7 := hF_μ5.trans (hC_μ7.mono (by decide +kernel) (by decide))
  have hr_μ7 : μ7.2.2 = μ.2.2 := (hC_μ7.2 rfl : μ7.2.2 = μ5.2.2).trans hr_μ5
  refine ok_bd (k_X5_cell a2 (3 : Int32) μ7 hI_μ7 (by (try rw [hr_μ7]); omega)) ?_
  rintro r10 μ9 hq9
  obtain rfl : μ7 = μ9 := hq9
  have lo_r10 := ti_lo r10
  have hi_r10 := ti_hi r10
  refine ok_bw (hRE r10 (a3 + (1 : Int32)) μ7 hI_μ7 (by (try rw [hr_μ7]); (try rw [TI.e (e := (a3 + (1 : Int32))) (n := (a3.toInt + 1)) (TI.add TI.rf (TI.lit (by decide)) (by omega) (by omega))]); omega)) ?_
  rintro μ11 ⟨hI_μ11, hC_μ11⟩
  have hF_μ11 : Fr [(0, 159, 1), (1, 160, 0)] true μ μ11 := hF_μ7.trans (hC_μ11.mono (by decide +kernel) (by decide))
  have hr_μ11 : μ11.2.2 = μ.2.2 := (hC_μ11.2 rfl : μ11.2.2 = μ7.2.2).trans hr_μ7
  refine ok_bw (k_X9_add (125 : Int32) μ11 hI_μ11) ?_
  rintro μ13 ⟨hI_μ13, hC_μ13⟩
  have hF_μ13 : Fr [(0, 159, 1), (1, 160, 0)] true μ μ13 := hF_μ11.trans (hC_μ13.mono (by decide +kernel) (by decide))
  have hr_μ13 : μ13.2.2 = μ.2.2 := (hC_μ13.2 rfl : μ13.2.2 = μ11.2.2).trans hr_μ11
  refine ok_bw (k_X9_add (123 : Int32) μ13 hI_μ13) ?_
  rintro μ15 ⟨hI_μ15, hC_μ15⟩
  have hF_μ15 : Fr [(0, 159, 1), (1, 160, 0)] true μ μ15 := hF_μ13.trans (hC_μ15.mono (by decide +kernel) (by decide))
  have hr_μ15 : μ15.2.2 = μ.2.2 := (hC_μ15.2 rfl : μ15.2.2 = μ13.2.2).trans hr_μ13
  refine ok_bd (k_X5_cell a2 (4 : Int32) μ15 hI_μ15 (by (try rw [hr_μ15]); omega)) ?_
  rintro r18 μ17 hq9
  obtain rfl : μ15 = μ17 := hq9
  have lo_r18 := ti_lo r18
  have hi_r18 := ti_hi r18
  refine ok_bw (hRE r18 (a3 + (1 : Int32)) μ15 hI_μ15 (by (try rw [hr_μ15]); (try rw [TI.e (e := (a3 + (1 : Int32))) (n := (a3.toInt + 1)) (TI.add TI.rf (TI.lit (by decide)) (by omega) (by omega))]); omega)) ?_
  rintro μ19 ⟨hI_μ19, hC_μ19⟩
  have hF_μ19 : Fr [(0, 159, 1), (1, 160, 0)] true μ μ19 := hF_μ15.trans (hC_μ19.mono (by decide +kernel) (by decide))
  have hr_μ19 : μ19.2.2 = μ.2.2 := (hC_μ19.2 rfl : μ19.2.2 = μ15.2.2).trans hr_μ15
  refine ok_bw (k_X9_add (125 : Int32) μ19 hI_μ19) ?_
  rintro μ21 ⟨hI_μ21, hC_μ21⟩
  have hF_μ21 : Fr [(0, 159, 1), (1, 160, 0)] true μ μ21 := hF_μ19.trans (hC_μ21.mono (by decide +kernel) (by decide))
  have hr_μ21 : μ21.2.2 = μ.2.2 := (hC_μ21.2 rfl : μ21.2.2 = μ19.2.2).trans hr_μ19
  exact ok_some ⟨hI_μ21, hF_μ21⟩

set_option maxHeartbeats 4000000 in
set_option maxRecDepth 100000 in
theorem k_X9_addInstruction_b242 {nE : Nat} (RE : Int32 → Int32 → Mem → Option Mem) (hRE : ∀ (z2 : Int32) (z3 : Int32) (μ1 : Mem), IX μ1 → (0 ≤ (z3).toInt ∧ (z3).toInt ≤ 45 ∧ 45 - (z3).toInt < nE) → ok (RE z2 z3 μ1) (fun q => IX q ∧ Fr [(0, 159, 1), (1, 160, 0)] true μ1 q)) (a2 : Int32) (k0 : Int32) (μ : Mem) (hI_μ : IX μ) : ok (p_X9_addInstruction_b242 RE a2 k0 μ) (fun q => IX q ∧ Fr [(0, 159, 1), (1, 160, 0)] true μ q) := by
  have li0 : (0 : Int32).toInt = 0 := by decide
  have li1 : (1 : Int32).toInt = 1 := by decide
  have hF_μ : Fr [(0, 159, 1), (1, 160, 0)] true μ μ := Fr.rf
  have hr_μ : μ.2.2 = μ.2.2 := rfl
  rw [p_X9_addInstruction_b242_eq]
  have lo_a2 := ti_lo a2
  have hi_a2 := ti_hi a2
  have lo_k0 := ti_lo k0
  have hi_k0 := ti_hi k0
  refine ok_bw (k_X9_add k0 μ hI_μ) ?_
  rintro μ12 ⟨hI_μ12, hC_μ12⟩
  have hF_μ12 : Fr [(0, 159, 1), (1, 160, 0)] true μ μ12 := hF_μ.trans (hC_μ12.mono (by decide +kernel) (by decide))
  have hr_μ12 : μ12.2.2 = μ.2.2 := (hC_μ12.2 rfl : μ12.2.2 = μ.2.2).trans hr_μ
  refine ok_bd (k_X5_operand a2 (0 : Int32) μ12 hI_μ12) ?_
  rintro r15 μ14 hq9
  obtain rfl : μ12 = μ14 := hq9
  refine ok_bw (k_X9_addSymbol r15 μ12 hI_μ12) ?_
  rintro μ16 ⟨hI_μ16, hC_μ16⟩
  have hF_μ16 : Fr [(0, 159, 1), (1, 160, 0)] true μ μ16 := hF_μ12.trans (hC_μ16.mono (by decide +kernel) (by decide))
  have hr_μ16 : μ16.2.2 = μ.2.2 := (hC_μ16.2 rfl : μ16.2.2 = μ12.2.2).trans hr_μ12
  exact ok_some ⟨hI_μ16, hF_μ16⟩
set_option maxHeartbeats 4000000 in
set_option maxRecDepth 100000 in
theorem k_X9_addInstruction_b240 {nE : Nat} (RE : Int32 → Int32 → Mem → Option Mem) (hRE : ∀ (z2 : Int32) (z3 : Int32) (μ1 : Mem), IX μ1 → (0 ≤ (z3).toInt ∧ (z3).toInt ≤ 45 ∧ 45 - (z3).toInt < nE) → ok (RE z2 z3 μ1) (fun q => IX q ∧ Fr [(0, 159, 1), (1, 160, 0)] true μ1 q)) (a2 : Int32) (μ : Mem) (hI_μ : IX μ) : ok (p_X9_addInstruction_b240 RE a2 μ) (fun q => IX q ∧ Fr [(0, 159, 1), (1, 160, 0)] true μ q) := by
  have li0 : (0 : Int32).toInt = 0 := by decide
  have li1 : (1 : Int32).toInt = 1 := by decide
  have li32 : (32 : Int32).toInt = 32 := by decide
  have hF_μ : Fr [(0, 159, 1), (1, 160, 0)] true μ μ := Fr.rf
  have hr_μ : μ.2.2 = μ.2.2 := rfl
  rw [p_X9_addInstruction_b240_eq]
  have lo_a2 := ti_lo a2
  have hi_a2 := ti_hi a2
  exact ok_mono (k_X9_addInstruction_b242 RE hRE a2 (32 : Int32) μ hI_μ) (fun q h => ⟨h.1, hF_μ.trans h.2⟩)
set_option maxHeartbeats 4000000 in
set_option maxRecDepth 100000 in
theorem k_X9_addInstruction_b35 {nE : Nat} (RE : Int32 → Int32 → Mem → Option Mem) (hRE : ∀ (z2 : Int32) (z3 : Int32) (μ1 : Mem), IX μ1 → (0 ≤ (z3).toInt ∧ (z3).toInt ≤ 45 ∧ 45 - (z3).toInt < nE) → ok (RE z2 z3 μ1) (fun q => IX q ∧ Fr [(0, 159, 1), (1, 160, 0)] true μ1 q)) (a2 : Int32) (a3 : Int32) (a4 : Int32) (μ : Mem) (hI_μ : IX μ) (hc : 0 ≤ (a3).toInt ∧ (a3).toInt < 45 ∧ 44 - (a3).toInt < nE) : ok (p_X9_addInstruction_b35 RE a2 a3 a4 μ) (fun q => IX q ∧ Fr [(0, 159, 1), (1, 160, 0)] true μ q) := by
  have li0 : (0 : Int32).toInt = 0 := by decide
  have li1 : (1 : Int32).toInt = 1 := by decide
  have li2 : (2 : Int32).toInt = 2 := by decide
  have li3 : (3 : Int32).toInt = 3 := by decide
  have li4 : (4 : Int32).toInt = 4 := by decide
  have li5 : (5 : Int32).toInt = 5 := by decide
  have li6 : (6 : Int32).toInt = 6 := by decide
  have li7 : (7 : Int32).toInt = 7 := by decide
  have li8 : (8 : Int32).toInt = 8 := by decide
  have li9 : (9 : Int32).toInt = 9 := by decide
  have li10 : (10 : Int32).toInt = 10 := by decide
  have li11 : (11 : Int32).toInt = 11 := by decide
  have li12 : (12 : Int32).toInt = 12 := by decide
  have li38 : (38 : Int32).toInt = 38 := by decide
  have li40 : (40 : Int32).toInt = 40 := by decide
  have li41 : (41 : Int32).toInt = 41 := by decide
  have li44 : (44 : Int32).toInt = 44 := by decide
  have li45 : (45 : Int32).toInt = 45 := by decide
  have li91 : (91 : Int32).toInt = 91 := by decide
  have li93 : (93 : Int32).toInt = 93 := by decide
  have li95 : (95 : Int32).toInt = 95 := by decide
  have hF_μ : Fr [(0, 159, 1), (1, 160, 0)] true μ μ := Fr.rf
  have hr_μ : μ.2.2 = μ.2.2 := rfl
  rw [p_X9_addInstruction_b35_eq]
  have lo_a2 := ti_lo a2
  have hi_a2 := ti_hi a2
  have lo_a3 := ti_lo a3
  have hi_a3 := ti_hi a3
  have lo_a4 := ti_lo a4
  have hi_a4 := ti_hi a4
  refine ok_ite ?_ ?_
  · intro c5
    rw [ti_eq] at c5
    refine ok_bd (k_X5_cell a2 (2 : Int32) μ hI_μ (by omega)) ?_
    rintro r7 μ6 hq9
    obtain rfl : μ = μ6 := hq9
    have lo_r7 := ti_lo r7
    have hi_r7 := ti_hi r7
    refine ok_bw (k_X9_addTwo a2 (40 : Int32) r7 (41 : Int32) μ hI_μ) ?_
    rintro μ8 ⟨hI_μ8, hC_μ8⟩
    have hF_μ8 : Fr [(0, 159, 1), (1, 160, 0)] true μ μ8 := hF_μ.trans (hC_μ8.mono (by decide +kernel) (by decide))
    have hr_μ8 : μ8.2.2 = μ.2.2 := (hC_μ8.2 rfl : μ8.2.2 = μ.2.2).trans hr_μ
    exact ok_some ⟨hI_μ8, hF_μ8⟩
  intro c5
  rw [ti_eq] at c5
  refine ok_ite ?_ ?_
  · intro c10
    rw [ti_eq] at c10
    refine ok_ite ?_ ?_
    · intro c11
      rw [ti_lt] at c11
      exact ok_mono (k_X9_addInstruction_b240 RE hRE a2 μ hI_μ) (fun q h => ⟨h.1, hF_μ.trans h.2⟩)
    · intro c11
      rw [ti_lt] at c11
      refine ok_ite ?_ ?_
      · intro c18
        rw [ti_le] at c18
        exact ok_mono (k_X9_addInstruction_b240 RE hRE a2 μ hI_μ) (fun q h => ⟨h.1, hF_μ.trans h.2⟩)
      · intro c18
        rw [ti_le] at c18
        refine ok_gd (inb_iff.mpr (by omega)) ?_
        exact ok_mono (k_X9_addInstruction_b242 RE hRE a2 (sgc a4) μ hI_μ) (fun q h => ⟨h.1, hF_μ.trans h.2⟩)
  intro c10
  rw [ti_eq] at c10
  refine ok_ite ?_ ?_
  · intro c19
    rw [ti_eq] at c19
    refine ok_ite ?_ ?_
    · intro c20
      rw [ti_lt] at c20
      exact ok_mono (k_X9_addInstruction_b240 RE hRE a2 μ hI_μ) (fun q h => ⟨h.1, hF_μ.trans h.2⟩)
    · intro c20
      rw [ti_lt] at c20
      refine ok_ite ?_ ?_
      · intro c21
        rw [ti_le] at c21
        exact ok_mono (k_X9_addInstruction_b240 RE hRE a2 μ hI_μ) (fun q h => ⟨h.1, hF_μ.trans h.2⟩)
      · intro c21
        rw [ti_le] at c21
        refine ok_gd (inb_iff.mpr (by omega)) ?_
        exact ok_mono (k_X9_addInstruction_b242 RE hRE a2 (sgc a4) μ hI_μ) (fun q h => ⟨h.1, hF_μ.trans h.2⟩)
  intro c19
  rw [ti_eq] at c19
  refine ok_ite ?_ ?_
  · intro c22
    rw [ti_eq] at c22
    refine ok_ite ?_ ?_
    · intro c23
      rw [ti_lt] at c23
      exact ok_mono (k_X9_addInstruction_b240 RE hRE a2 μ hI_μ) (fun q h => ⟨h.1, hF_μ.trans h.2⟩)
    · intro c23
      rw [ti_lt] at c23
      refine ok_ite ?_ ?_
      · intro c24
        rw [ti_le] at c24
        exact ok_mono (k_X9_addInstruction_b240 RE hRE a2 μ hI_μ) (fun q h => ⟨h.1, hF_μ.trans h.2⟩)
      · intro c24
        rw [ti_le] at c24
        refine ok_gd (inb_iff.mpr (by omega)) ?_
        exact ok_mono (k_X9_addInstruction_b242 RE hRE a2 (sgc a4) μ hI_μ) (fun q h => ⟨h.1, hF_μ.trans h.2⟩)
  intro c22
  rw [ti_eq] at c22
  refine ok_ite ?_ ?_
  · intro c25
    rw [ti_eq] at c25
    refine ok_ite ?_ ?_
    · intro c26
      rw [ti_lt] at c26
      exact ok_mono (k_X9_addInstruction_b240 RE hRE a2 μ hI_μ) (fun q h => ⟨h.1, hF_μ.trans h.2⟩)
    · intro c26
      rw [ti_lt] at c26
      refine ok_ite ?_ ?_
      · intro c27
        rw [ti_le] at c27
        exact ok_mono (k_X9_addInstruction_b240 RE hRE a2 μ hI_μ) (fun q h => ⟨h.1, hF_μ.trans h.2⟩)
      · intro c27
        rw [ti_le] at c27
        refine ok_gd (inb_iff.mpr (by omega)) ?_
        exact ok_mono (k_X9_addInstruction_b242 RE hRE a2 (sgc a4) μ hI_μ) (fun q h => ⟨h.1, hF_μ.trans h.2⟩)
  intro c25
  rw [ti_eq] at c25
  refine ok_ite ?_ ?_
  · intro c28
    rw [ti_eq] at c28
    refine ok_ite ?_ ?_
    · intro c29
      rw [ti_lt] at c29
      exact ok_mono (k_X9_addInstruction_b240 RE hRE a2 μ hI_μ) (fun q h => ⟨h.1, hF_μ.trans h.2⟩)
    · intro c29
      rw [ti_lt] at c29
      refine ok_ite ?_ ?_
      · intro c30
        rw [ti_le] at c30
        exact ok_mono (k_X9_addInstruction_b240 RE hRE a2 μ hI_μ) (fun q h => ⟨h.1, hF_μ.trans h.2⟩)
      · intro c30
        rw [ti_le] at c30
        refine ok_gd (inb_iff.mpr (by omega)) ?_
        exact ok_mono (k_X9_addInstruction_b242 RE hRE a2 (sgc a4) μ hI_μ) (fun q h => ⟨h.1, hF_μ.trans h.2⟩)
  intro c28
  rw [ti_eq] at c28
  refine ok_ite ?_ ?_
  · intro c31
    rw [ti_eq] at c31
    refine ok_bw (k_X9_addChoice RE hRE a2 a3 μ hI_μ (by omega)) ?_
    rintro μ32 ⟨hI_μ32, hC_μ32⟩
    have hF_μ32 : Fr [(0, 159, 1), (1, 160, 0)] true μ μ32 := hF_μ.trans (hC_μ32.mono (by decide +kernel) (by decide))
    have hr_μ32 : μ32.2.2 = μ.2.2 := (hC_μ32.2 rfl : μ32.2.2 = μ.2.2).trans hr_μ
    exact ok_some ⟨hI_μ32, hF_μ32⟩
  intro c31
  rw [ti_eq] at c31
  refine ok_ite ?_ ?_
  · intro c34
    rw [ti_eq] at c34
    refine ok_ite ?_ ?_
    · intro c35
      rw [ti_lt] at c35
      exact ok_mono (k_X9_addInstruction_b240 RE hRE a2 μ hI_μ) (fun q h => ⟨h.1, hF_μ.trans h.2⟩)
    · intro c35
      rw [ti_lt] at c35
      refine ok_ite ?_ ?_
      · intro c36
        rw [ti_le] at c36
        exact ok_mono (k_X9_addInstruction_b240 RE hRE a2 μ hI_μ) (fun q h => ⟨h.1, hF_μ.trans h.2⟩)
      · intro c36
        rw [ti_le] at c36
        refine ok_gd (inb_iff.mpr (by omega)) ?_
        exact ok_mono (k_X9_addInstruction_b242 RE hRE a2 (sgc a4) μ hI_μ) (fun q h => ⟨h.1, hF_μ.trans h.2⟩)
  intro c34
  rw [ti_eq] at c34
  refine ok_ite ?_ ?_
  · intro c37
    rw [ti_eq] at c37
    refine ok_bw (k_X9_add (38 : Int32) μ hI_μ) ?_
    rintro μ38 ⟨hI_μ38, hC_μ38⟩
    have hF_μ38 : Fr [(0, 159, 1), (1, 160, 0)] true μ μ38 := hF_μ.trans (hC_μ38.mono (by decide +kernel) (by decide))
    have hr_μ38 : μ38.2.2 = μ.2.2 := (hC_μ38.2 rfl : μ38.2.2 = μ.2.2).trans hr_μ
    refine ok_bd (k_X5_cell a2 (2 : Int32) μ38 hI_μ38 (by (try rw [hr_μ38]); omega)) ?_
    rintro r41 μ40 hq9
    obtain rfl : μ38 = μ40 := hq9
    have lo_r41 := ti_lo r41
    have hi_r41 := ti_hi r41
    refine ok_bw (k_X9_addInt r41 μ38 hI_μ38) ?_
    rintro μ42 ⟨hI_μ42, hC_μ42⟩
    have hF_μ42 : Fr [(0, 159, 1), (1, 160, 0)] true μ μ42 := hF_μ38.trans (hC_μ42.mono (by decide +kernel) (by decide))
    have hr_μ42 : μ42.2.2 = μ.2.2 := (hC_μ42.2 rfl : μ42.2.2 = μ38.2.2).trans hr_μ38
    refine ok_bd (k_X5_operand a2 (0 : Int32) μ42 hI_μ42) ?_
    rintro r45 μ44 hq9
    obtain rfl : μ42 = μ44 := hq9
    refine ok_bw (k_X9_addSymbol r45 μ42 hI_μ42) ?_
    rintro μ46 ⟨hI_μ46, hC_μ46⟩
    have hF_μ46 : Fr [(0, 159, 1), (1, 160, 0)] true μ μ46 := hF_μ42.trans (hC_μ46.mono (by decide +kernel) (by decide))
    have hr_μ46 : μ46.2.2 = μ.2.2 := (hC_μ46.2 rfl : μ46.2.2 = μ42.2.2).trans hr_μ42
    exact ok_some ⟨hI_μ46, hF_μ46⟩
  intro c37
  rw [ti_eq] at c37
  refine ok_ite ?_ ?_
  · intro c48
    rw [ti_eq] at c48
    refine ok_bw (k_X9_add (95 : Int32) μ hI_μ) ?_
    rintro μ49 ⟨hI_μ49, hC_μ49⟩
    have hF_μ49 : Fr [(0, 159, 1), (1, 160, 0)] true μ μ49 := hF_μ.trans (hC_μ49.mono (by decide +kernel) (by decide))
    have hr_μ49 : μ49.2.2 = μ.2.2 := (hC_μ49.2 rfl : μ49.2.2 = μ.2.2).trans hr_μ
    refine ok_bd (k_X5_cell a2 (2 : Int32) μ49 hI_μ49 (by (try rw [hr_μ49]); omega)) ?_
    rintro r52 μ51 hq9
    obtain rfl : μ49 = μ51 := hq9
    have lo_r52 := ti_lo r52
    have hi_r52 := ti_hi r52
    refine ok_bw (k_X9_addInt r52 μ49 hI_μ49) ?_
    rintro μ53 ⟨hI_μ53, hC_μ53⟩
    have hF_μ53 : Fr [(0, 159, 1), (1, 160, 0)] true μ μ53 := hF_μ49.trans (hC_μ53.mono (by decide +kernel) (by decide))
    have hr_μ53 : μ53.2.2 = μ.2.2 := (hC_μ53.2 rfl : μ53.2.2 = μ49.2.2).trans hr_μ49
    exact ok_some ⟨hI_μ53, hF_μ53⟩
  intro c48
  rw [ti_eq] at c48
  refine ok_ite ?_ ?_
  · intro c55
    rw [ti_eq] at c55
    refine ok_bw (k_X9_addTwo a2 (91 : Int32) (44 : Int32) (93 : Int32) μ hI_μ) ?_
    rintro μ56 ⟨hI_μ56, hC_μ56⟩
    have hF_μ56 : Fr [(0, 159, 1), (1, 160, 0)] true μ μ56 := hF_μ.trans (hC_μ56.mono (by decide +kernel) (by decide))
    have hr_μ56 : μ56.2.2 = μ.2.2 := (hC_μ56.2 rfl : μ56.2.2 = μ.2.2).trans hr_μ
    exact ok_some ⟨hI_μ56, hF_μ56⟩
  intro c55
  rw [ti_eq] at c55
  refine ok_ite ?_ ?_
  · intro c58
    rw [ti_eq] at c58
    refine ok_bw (k_X9_addCall a2 μ hI_μ) ?_
    rintro μ59 ⟨hI_μ59, hC_μ59⟩
    have hF_μ59 : Fr [(0, 159, 1), (1, 160, 0)] true μ μ59 := hF_μ.trans (hC_μ59.mono (by decide +kernel) (by decide))
    have hr_μ59 : μ59.2.2 = μ.2.2 := (hC_μ59.2 rfl : μ59.2.2 = μ.2.2).trans hr_μ
    exact ok_some ⟨hI_μ59, hF_μ59⟩
  intro c58
  rw [ti_eq] at c58
  refine ok_ite ?_ ?_
  · intro c61
    rw [ti_eq] at c61
    refine ok_bw (k_X9_add (45 : Int32) μ hI_μ) ?_
    rintro μ62 ⟨hI_μ62, hC_μ62⟩
    have hF_μ62 : Fr [(0, 159, 1), (1, 160, 0)] true μ μ62 := hF_μ.trans (hC_μ62.mono (by decide +kernel) (by decide))
    have hr_μ62 : μ62.2.2 = μ.2.2 := (hC_μ62.2 rfl : μ62.2.2 = μ.2.2).trans hr_μ
    exact ok_some ⟨hI_μ62, hF_μ62⟩
  intro c61
  rw [ti_eq] at c61
  refine ok_ite ?_ ?_
  · intro c64
    rw [ti_lt] at c64
    exact ok_mono (k_X9_addInstruction_b240 RE hRE a2 μ hI_μ) (fun q h => ⟨h.1, hF_μ.trans h.2⟩)
  · intro c64
    rw [ti_lt] at c64
    refine ok_ite ?_ ?_
    · intro c65
      rw [ti_le] at c65
      exact ok_mono (k_X9_addInstruction_b240 RE hRE a2 μ hI_μ) (fun q h => ⟨h.1, hF_μ.trans h.2⟩)
    · intro c65
      rw [ti_le] at c65
      refine ok_gd (inb_iff.mpr (by omega)) ?_
      exact ok_mono (k_X9_addInstruction_b242 RE hRE a2 (sgc a4) μ hI_μ) (fun q h => ⟨h.1, hF_μ.trans h.2⟩)
set_option maxHeartbeats 4000000 in
set_option maxRecDepth 100000 in
theorem k_X9_addInstruction {nE : Nat} (RE : Int32 → Int32 → Mem → Option Mem) (hRE : ∀ (z2 : Int32) (z3 : Int32) (μ1 : Mem), IX μ1 → (0 ≤ (z3).toInt ∧ (z3).toInt ≤ 45 ∧ 45 - (z3).toInt < nE) → ok (RE z2 z3 μ1) (fun q => IX q ∧ Fr [(0, 159, 1), (1, 160, 0)] true μ1 q)) (a2 : Int32) (a3 : Int32) (μ : Mem) (hI_μ : IX μ) (hc : 0 ≤ (a3).toInt ∧ (a3).toInt < 45 ∧ 44 - (a3).toInt < nE) : ok (p_X9_addInstruction RE a2 a3 μ) (fun q => IX q ∧ Fr [(0, 159, 1), (1, 160, 0)] true μ q) := by
  have li0 : (0 : Int32).toInt = 0 := by decide
  have li1 : (1 : Int32).toInt = 1 := by decide
  have li7 : (7 : Int32).toInt = 7 := by decide
  have li61 : (61 : Int32).toInt = 61 := by decide
  have hF_μ : Fr [(0, 159, 1), (1, 160, 0)] true μ μ := Fr.rf
  have hr_μ : μ.2.2 = μ.2.2 := rfl
  rw [p_X9_addInstruction_eq]
  have lo_a2 := ti_lo a2
  have hi_a2 := ti_hi a2
  have lo_a3 := ti_lo a3
  have hi_a3 := ti_hi a3
  refine ok_bd (k_X5_cell a2 (0 : Int32) μ hI_μ (by omega)) ?_
  rintro r2 μ1 hq9
  obtain rfl : μ = μ1 := hq9
  have lo_r2 := ti_lo r2
  have hi_r2 := ti_hi r2
  refine ok_ite ?_ ?_
  · intro c3
    rw [ti_eq] at c3
    exact ok_mono (k_X9_addInstruction_b35 RE hRE a2 a3 r2 μ hI_μ (by omega)) (fun q h => ⟨h.1, hF_μ.trans h.2⟩)
  · intro c3
    rw [ti_eq] at c3
    refine ok_bd (k_X5_cell a2 (1 : Int32) μ hI_μ (by omega)) ?_
    rintro r67 μ66 hq9
    obtain rfl : μ = μ66 := hq9
    have lo_r67 := ti_lo r67
    have hi_r67 := ti_hi r67
    refine ok_bw (k_X9_addSymbol (s_X0_make (3 : Int32) r67) μ hI_μ) ?_
    rintro μ68 ⟨hI_μ68, hC_μ68⟩
    have hF_μ68 : Fr [(0, 159, 1), (1, 160, 0)] true μ μ68 := hF_μ.trans (hC_μ68.mono (by decide +kernel) (by decide))
    have hr_μ68 : μ68.2.2 = μ.2.2 := (hC_μ68.2 rfl : μ68.2.2 = μ.2.2).trans hr_μ
    refine ok_bw (k_X9_add (61 : Int32) μ68 hI_μ68) ?_
    rintro μ70 ⟨hI_μ70, hC_μ70⟩
    have hF_μ70 : Fr [(0, 159, 1), (1, 160, 0)] true μ μ70 := hF_μ68.trans (hC_μ70.mono (by decide +kernel) (by decide))
    have hr_μ70 : μ70.2.2 = μ.2.2 := (hC_μ70.2 rfl : μ70.2.2 = μ68.2.2).trans hr_μ68
    exact ok_mono (k_X9_addInstruction_b35 RE hRE a2 a3 r2 μ70 hI_μ70 (by (try rw [hr_μ70]); omega)) (fun q h => ⟨h.1, hF_μ70.trans h.2⟩)

set_option maxHeartbeats 4000000 in
set_option maxRecDepth 100000 in
theorem k_X9_addBlock_b10 {nE : Nat} (RE : Int32 → Int32 → Mem → Option Mem) (hRE : ∀ (z2 : Int32) (z3 : Int32) (μ1 : Mem), IX μ1 → (0 ≤ (z3).toInt ∧ (z3).toInt ≤ 45 ∧ 45 - (z3).toInt < nE) → ok (RE z2 z3 μ1) (fun q => IX q ∧ Fr [(0, 159, 1), (1, 160, 0)] true μ1 q)) : ∀ (n : Nat) (a2 : Int32) (a3 : Int32) (a4 : Int32) (a5 : Int32) (μ : Mem), IX μ → (0 ≤ (a5).toInt ∧ (a5).toInt ≤ 300 ∧ 300 - (a5).toInt < n ∧ 0 ≤ (a3).toInt ∧ (a3).toInt ≤ 45 ∧ 45 - (a3).toInt < nE + 1) → ok (p_X9_addBlock_b10 RE n a2 a3 a4 a5 μ) (fun q => IX q ∧ Fr [(0, 159, 1), (1, 160, 0)] true μ q) := by
  have lim1 : (-1 : Int32).toInt = -1 := by decide
  have li0 : (0 : Int32).toInt = 0 := by decide
  have li1 : (1 : Int32).toInt = 1 := by decide
  have li5 : (5 : Int32).toInt = 5 := by decide
  have li45 : (45 : Int32).toInt = 45 := by decide
  have li59 : (59 : Int32).toInt = 59 := by decide
  have li300 : (300 : Int32).toInt = 300 := by decide
  intro n
  induction n with
  | zero => intro a2 a3 a4 a5 μ hI_μ hc; exact absurd hc (by have lo_a2 := ti_lo a2; have hi_a2 := ti_hi a2; have lo_a3 := ti_lo a3; have hi_a3 := ti_hi a3; have lo_a4 := ti_lo a4; have hi_a4 := ti_hi a4; have lo_a5 := ti_lo a5; have hi_a5 := ti_hi a5; omega)
  | succ n ih =>
    intro a2 a3 a4 a5 μ hI_μ hc
    have hF_μ : Fr [(0, 159, 1), (1, 160, 0)] true μ μ := Fr.rf
    have hr_μ : μ.2.2 = μ.2.2 := rfl
    rw [p_X9_addBlock_b10_s]
    have lo_a2 := ti_lo a2
    have hi_a2 := ti_hi a2
    have lo_a3 := ti_lo a3
    have hi_a3 := ti_hi a3
    have lo_a4 := ti_lo a4
    have hi_a4 := ti_hi a4
    have lo_a5 := ti_lo a5
    have hi_a5 := ti_hi a5
    refine ok_ite ?_ ?_
    · intro c3
      rw [ti_le] at c3
      refine ok_bd (k_X5_endOf a2 μ hI_μ) ?_
      rintro r5 μ4 hq9
      obtain rfl : μ = μ4 := hq9
      refine ok_bw (k_X9_addSymbol r5 μ hI_μ) ?_
      rintro μ6 ⟨hI_μ6, hC_μ6⟩
      have hF_μ6 : Fr [(0, 159, 1), (1, 160, 0)] true μ μ6 := hF_μ.trans (hC_μ6.mono (by decide +kernel) (by decide))
      have hr_μ6 : μ6.2.2 = μ.2.2 := (hC_μ6.2 rfl : μ6.2.2 = μ.2.2).trans hr_μ
      exact ok_some ⟨hI_μ6, hF_μ6⟩
    · intro c3
      rw [ti_le] at c3
      refine ok_ite ?_ ?_
      · intro c8
        rw [ti_eq] at c8
        refine ok_bd (k_X5_endOf a2 μ hI_μ) ?_
        rintro r10 μ9 hq9
        obtain rfl : μ = μ9 := hq9
        refine ok_bw (k_X9_addSymbol r10 μ hI_μ) ?_
        rintro μ11 ⟨hI_μ11, hC_μ11⟩
        have hF_μ11 : Fr [(0, 159, 1), (1, 160, 0)] true μ μ11 := hF_μ.trans (hC_μ11.mono (by decide +kernel) (by decide))
        have hr_μ11 : μ11.2.2 = μ.2.2 := (hC_μ11.2 rfl : μ11.2.2 = μ.2.2).trans hr_μ
        exact ok_some ⟨hI_μ11, hF_μ11⟩
      · intro c8
        rw [ti_eq] at c8
        refine ok_ite ?_ ?_
        · intro c13
          rw [ti_le] at c13
          refine ok_bd (k_X5_endOf a2 μ hI_μ) ?_
          rintro r15 μ14 hq9
          obtain rfl : μ = μ14 := hq9
          refine ok_bw (k_X9_addSymbol r15 μ hI_μ) ?_
          rintro μ16 ⟨hI_μ16, hC_μ16⟩
          have hF_μ16 : Fr [(0, 159, 1), (1, 160, 0)] true μ μ16 := hF_μ.trans (hC_μ16.mono (by decide +kernel) (by decide))
          have hr_μ16 : μ16.2.2 = μ.2.2 := (hC_μ16.2 rfl : μ16.2.2 = μ.2.2).trans hr_μ
          exact ok_some ⟨hI_μ16, hF_μ16⟩
        · intro c13
          rw [ti_le] at c13
          refine ok_bw (k_X9_addInstruction RE hRE a4 a3 μ hI_μ (by omega)) ?_
          rintro μ18 ⟨hI_μ18, hC_μ18⟩
          have hF_μ18 : Fr [(0, 159, 1), (1, 160, 0)] true μ μ18 := hF_μ.trans (hC_μ18.mono (by decide +kernel) (by decide))
          have hr_μ18 : μ18.2.2 = μ.2.2 := (hC_μ18.2 rfl : μ18.2.2 = μ.2.2).trans hr_μ
          refine ok_bw (k_X9_add (59 : Int32) μ18 hI_μ18) ?_
          rintro μ20 ⟨hI_μ20, hC_μ20⟩
          have hF_μ20 : Fr [(0, 159, 1), (1, 160, 0)] true μ μ20 := hF_μ18.trans (hC_μ20.mono (by decide +kernel) (by decide))
          have hr_μ20 : μ20.2.2 = μ.2.2 := (hC_μ20.2 rfl : μ20.2.2 = μ18.2.2).trans hr_μ18
          refine ok_bd (k_X5_cell a4 (5 : Int32) μ20 hI_μ20 (by (try rw [hr_μ20]); omega)) ?_
          rintro r23 μ22 hq9
          obtain rfl : μ20 = μ22 := hq9
          have lo_r23 := ti_lo r23
          have hi_r23 := ti_hi r23
          refine ok_bv (fun v24 ev24 => ?_)
          first | have tv24 : v24.toInt = (a5.toInt + 1) := (congrArg Int32.toInt ev24).trans (TI.e (n := (a5.toInt + 1)) (TI.add TI.rf (TI.lit (by decide)) (by omega) (by omega))) | have tv24 : v24.toInt ≤ a5.toInt + 1 := by rw [ev24]; exact ti_inc _ | skip
          exact ok_mono (ih a2 a3 r23 v24 μ20 hI_μ20 (by (try rw [hr_μ20]); omega)) (fun q h => ⟨h.1, hF_μ20.trans h.2⟩)
set_option maxHeartbeats 4000000 in
set_option maxRecDepth 100000 in
theorem k_X9_addBlock {nE : Nat} (RE : Int32 → Int32 → Mem → Option Mem) (hRE : ∀ (z2 : Int32) (z3 : Int32) (μ1 : Mem), IX μ1 → (0 ≤ (z3).toInt ∧ (z3).toInt ≤ 45 ∧ 45 - (z3).toInt < nE) → ok (RE z2 z3 μ1) (fun q => IX q ∧ Fr [(0, 159, 1), (1, 160, 0)] true μ1 q)) (a2 : Int32) (a3 : Int32) (μ : Mem) (hI_μ : IX μ) (hc : 0 ≤ (a3).toInt ∧ (a3).toInt ≤ 45 ∧ 45 - (a3).toInt < nE + 1) : ok (p_X9_addBlock RE a2 a3 μ) (fun q => IX q ∧ Fr [(0, 159, 1), (1, 160, 0)] true μ q) := by
  have li0 : (0 : Int32).toInt = 0 := by decide
  have li1 : (1 : Int32).toInt = 1 := by decide
  have hF_μ : Fr [(0, 159, 1), (1, 160, 0)] true μ μ := Fr.rf
  have hr_μ : μ.2.2 = μ.2.2 := rfl
  rw [p_X9_addBlock_eq]
  have lo_a2 := ti_lo a2
  have hi_a2 := ti_hi a2
  have lo_a3 := ti_lo a3
  have hi_a3 := ti_hi a3
  refine ok_bd (k_X5_firstOf a2 μ hI_μ) ?_
  rintro r2 μ1 hq9
  obtain rfl : μ = μ1 := hq9
  have lo_r2 := ti_lo r2
  have hi_r2 := ti_hi r2
  obtain ⟨fu, hfu0, hfu⟩ := fuel_ex
  rw [hfu0]
  exact ok_mono (k_X9_addBlock_b10 RE hRE fu a2 a3 r2 (0 : Int32) μ hI_μ (by omega)) (fun q h => ⟨h.1, hF_μ.trans h.2⟩)
theorem kr_X9_addBlock : ∀ (n : Nat) (a2 : Int32) (a3 : Int32) (μ : Mem), IX μ → (0 ≤ (a3).toInt ∧ (a3).toInt ≤ 45 ∧ 45 - (a3).toInt < n) → ok (pr_X9_addBlock n a2 a3 μ) (fun q => IX q ∧ Fr [(0, 159, 1), (1, 160, 0)] true μ q) := by
  intro n
  induction n with
  | zero => intro a2 a3 μ hI hc; exact absurd hc (by omega)
  | succ n ih =>
    intro a2 a3 μ hI hc
    rw [pr_X9_addBlock_s]
    exact k_X9_addBlock (nE := n) (pr_X9_addBlock n) ih a2 a3 μ hI (by omega)

set_option maxHeartbeats 4000000 in
set_option maxRecDepth 100000 in
theorem k_X9_writeVariant (a2 : Int32) (μ : Mem) (hI_μ : IX μ) : ok (p_X9_writeVariant a2 μ) (fun q => IX q.2 ∧ Fr [(0, 159, 1), (1, 160, 0)] true μ q.2) := by
  have li0 : (0 : Int32).toInt = 0 := by decide
  have li1 : (1 : Int32).toInt = 1 := by decide
  have li3 : (3 : Int32).toInt = 3 := by decide
  have li59 : (59 : Int32).toInt = 59 := by decide
  have li61 : (61 : Int32).toInt = 61 := by decide
  have hF_μ : Fr [(0, 159, 1), (1, 160, 0)] true μ μ := Fr.rf
  have hr_μ : μ.2.2 = μ.2.2 := rfl
  rw [p_X9_writeVariant_eq]
  have lo_a2 := ti_lo a2
  have hi_a2 := ti_hi a2
  refine ok_bv (fun μ1 e_μ1 => ?_)
  have hI_μ1 : IX μ1 := by rw [e_μ1]; exact IX_F hI_μ (rp_159_1 (by omega))
  have hF_μ1 : Fr [(0, 159, 1), (1, 160, 0)] true μ μ1 := by rw [e_μ1]; exact Fr.put hF_μ (by decide +kernel)
  have v_μ1 : (μ1.1 159 1).toInt = 0 := by rw [e_μ1, sF_v]; exact TI.e (n := 0) (TI.lit (by decide))
  have hr_μ1 : μ1.2.2 = μ.2.2 := (by rw [e_μ1]; rfl : μ1.2.2 = μ.2.2).trans hr_μ
  refine ok_bd (k_X5_patternOf a2 μ1 hI_μ1) ?_
  rintro r3 μ2 ⟨hq9, p_r3⟩
  obtain rfl : μ1 = μ2 := hq9
  have qr3 : sh 0 r3 = (0, 1) := p_r3
  refine ok_bw (k_X9_addPatterns r3 qr3 μ1 hI_μ1) ?_
  rintro μ4 ⟨hI_μ4, hC_μ4⟩
  have hF_μ4 : Fr [(0, 159, 1), (1, 160, 0)] true μ μ4 := hF_μ1.trans (hC_μ4.mono (by decide +kernel) (by decide))
  have hr_μ4 : μ4.2.2 = μ.2.2 := (hC_μ4.2 rfl : μ4.2.2 = μ1.2.2).trans hr_μ1
  refine ok_bw (k_X9_add (61 : Int32) μ4 hI_μ4) ?_
  rintro μ6 ⟨hI_μ6, hC_μ6⟩
  have hF_μ6 : Fr [(0, 159, 1), (1, 160, 0)] true μ μ6 := hF_μ4.trans (hC_μ6.mono (by decide +kernel) (by decide))
  have hr_μ6 : μ6.2.2 = μ.2.2 := (hC_μ6.2 rfl : μ6.2.2 = μ4.2.2).trans hr_μ4
  refine ok_bd (k_X5_ofVariant a2 (3 : Int32) μ6 hI_μ6 (by (try rw [hr_μ6]); omega)) ?_
  rintro r9 μ8 hq9
  obtain rfl : μ6 = μ8 := hq9
  have lo_r9 := ti_lo r9
  have hi_r9 := ti_hi r9
  refine ok_bw (kr_X9_addBlock 50 r9 (0 : Int32) μ6 hI_μ6 (by (try rw [hr_μ6]); omega)) ?_
  rintro μ10 ⟨hI_μ10, hC_μ10⟩
  have hF_μ10 : Fr [(0, 159, 1), (1, 160, 0)] true μ μ10 := hF_μ6.trans (hC_μ10.mono (by decide +kernel) (by decide))
  have hr_μ10 : μ10.2.2 = μ.2.2 := (hC_μ10.2 rfl : μ10.2.2 = μ6.2.2).trans hr_μ6
  refine ok_bw (k_X9_add (59 : Int32) μ10 hI_μ10) ?_
  rintro μ12 ⟨hI_μ12, hC_μ12⟩
  have hF_μ12 : Fr [(0, 159, 1), (1, 160, 0)] true μ μ12 := hF_μ10.trans (hC_μ12.mono (by decide +kernel) (by decide))
  have hr_μ12 : μ12.2.2 = μ.2.2 := (hC_μ12.2 rfl : μ12.2.2 = μ10.2.2).trans hr_μ10
  have g14 := rg_159_1 hI_μ12
  exact ok_some ⟨hI_μ12, hF_μ12⟩

set_option maxHeartbeats 4000000 in
set_option maxRecDepth 100000 in
theorem k_X11_write (a1 : Int32) (μ : Mem) (hI_μ : IX μ) : ok (p_X11_write a1 μ) (fun q => IX q.2 ∧ Fr [(0, 159, 1), (1, 160, 0)] true μ q.2) := by
  have lim1 : (-1 : Int32).toInt = -1 := by decide
  have li0 : (0 : Int32).toInt = 0 := by decide
  have li1 : (1 : Int32).toInt = 1 := by decide
  have hF_μ : Fr [(0, 159, 1), (1, 160, 0)] true μ μ := Fr.rf
  have hr_μ : μ.2.2 = μ.2.2 := rfl
  rw [p_X11_write_eq]
  have lo_a1 := ti_lo a1
  have hi_a1 := ti_hi a1
  refine ok_bd (k_X5_hasVariant a1 μ hI_μ) ?_
  rintro r2 μ1 ⟨hq9, p_r2⟩
  obtain rfl : μ = μ1 := hq9
  dsimp only at p_r2
  have lo_r2 := ti_lo r2
  have hi_r2 := ti_hi r2
  refine ok_ite ?_ ?_
  · intro c3
    rw [ti_eq] at c3
    exact ok_some ⟨hI_μ, hF_μ⟩
  · intro c3
    rw [ti_eq] at c3
    refine ok_bd (k_X9_writeVariant a1 μ hI_μ) ?_
    rintro r5 μ4 ⟨hI_μ4, hC_μ4⟩
    have hI_μ4 : IX μ4 := hI_μ4
    have hC_μ4 : Fr [(0, 159, 1), (1, 160, 0)] true μ μ4 := hC_μ4
    have lo_r5 := ti_lo r5
    have hi_r5 := ti_hi r5
    have hF_μ4 : Fr [(0, 159, 1), (1, 160, 0)] true μ μ4 := hF_μ.trans (hC_μ4.mono (by decide +kernel) (by decide))
    have hr_μ4 : μ4.2.2 = μ.2.2 := (hC_μ4.2 rfl : μ4.2.2 = μ.2.2).trans hr_μ
    try rw [hr_μ4]
    exact ok_some ⟨hI_μ4, hF_μ4⟩
