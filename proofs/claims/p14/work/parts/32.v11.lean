set_option maxHeartbeats 4000000 in
set_option maxRecDepth 100000 in
theorem k_X10_leaveCallTo_b113 : ∀ (n : Nat) (a1 : Int32) (a2 : Int32) (a3 : Int64) (a5 : Int32) (a6 : Int32) (μ : Mem), IX μ → (0 ≤ (a6).toInt ∧ 0 ≤ (a2).toInt ∧ (a2).toInt ≤ 8 ∧ 2147483648 - (a6).toInt < n) → ok (p_X10_leaveCallTo_b113 n a1 a2 a3 a5 a6 μ) (fun q => IX q ∧ Fr [(0, 30, 7), (0, 39, 1), (0, 137, 6), (1, 40, 0), (1, 42, 0), (1, 43, 0), (1, 45, 0)] true μ q) := by
  have li0 : (0 : Int32).toInt = 0 := by decide
  have li1 : (1 : Int32).toInt = 1 := by decide
  have li2 : (2 : Int32).toInt = 2 := by decide
  intro n
  induction n with
  | zero => intro a1 a2 a3 a5 a6 μ hI_μ hc; exact absurd hc (by have lo_a1 := ti_lo a1; have hi_a1 := ti_hi a1; have lo_a2 := ti_lo a2; have hi_a2 := ti_hi a2; have lo_a5 := ti_lo a5; have hi_a5 := ti_hi a5; have lo_a6 := ti_lo a6; have hi_a6 := ti_hi a6; omega)
  | succ n ih =>
    intro a1 a2 a3 a5 a6 μ hI_μ hc
    have hF_μ : Fr [(0, 30, 7), (0, 39, 1), (0, 137, 6), (1, 40, 0), (1, 42, 0), (1, 43, 0), (1, 45, 0)] true μ μ := Fr.rf
    have hr_μ : μ.2.2 = μ.2.2 := rfl
    rw [p_X10_leaveCallTo_b113_s]
    have lo_a1 := ti_lo a1
    have hi_a1 := ti_hi a1
    have lo_a2 := ti_lo a2
    have hi_a2 := ti_hi a2
    have lo_a5 := ti_lo a5
    have hi_a5 := ti_hi a5
    have lo_a6 := ti_lo a6
    have hi_a6 := ti_hi a6
    refine ok_ite ?_ ?_
    · intro c11
      rw [ti_le] at c11
      refine ok_bd (k_X5_ofVariant a1 (1 : Int32) μ hI_μ (by omega)) ?_
      rintro r13 μ12 hq9
      obtain rfl : μ = μ12 := hq9
      have lo_r13 := ti_lo r13
      have hi_r13 := ti_hi r13
      refine ok_bw (k_X5_setVariant a1 (1 : Int32) (r13 + (1 : Int32)) μ hI_μ (by (try rw [TI.e (e := (r13 + (1 : Int32))) (n := (r13.toInt + 1)) (TI.add TI.rf (TI.lit (by decide)) (by omega) (by omega))]); omega)) ?_
      rintro μ14 ⟨hI_μ14, hC_μ14⟩
      have hF_μ14 : Fr [(0, 30, 7), (0, 39, 1), (0, 137, 6), (1, 40, 0), (1, 42, 0), (1, 43, 0), (1, 45, 0)] true μ μ14 := hF_μ.trans (hC_μ14.mono (by decide +kernel) (by decide))
      have hr_μ14 : μ14.2.2 = μ.2.2 := (hC_μ14.2 rfl : μ14.2.2 = μ.2.2).trans hr_μ
      try rw [hr_μ14]
      refine ok_bw (k_X8_push a3 μ14 hI_μ14) ?_
      rintro μ16 ⟨hI_μ16, hC_μ16⟩
      have hF_μ16 : Fr [(0, 30, 7), (0, 39, 1), (0, 137, 6), (1, 40, 0), (1, 42, 0), (1, 43, 0), (1, 45, 0)] true μ μ16 := hF_μ14.trans (hC_μ16.mono (by decide +kernel) (by decide))
      have hr_μ16 : μ16.2.2 = μ.2.2 := (hC_μ16.2 rfl : μ16.2.2 = μ14.2.2).trans hr_μ14
      try rw [hr_μ16]
      exact ok_some ⟨hI_μ16, hF_μ16⟩
    · intro c11
      rw [ti_le] at c11
      refine ok_gd (inb_iff.mpr (by omega)) ?_
      refine ok_bw (k_X5_setOperand a5 ((2 : Int32) + a6) (μ.2.1 141 a6.toNatClampNeg) μ hI_μ) ?_
      rintro μ18 ⟨hI_μ18, hC_μ18⟩
      have hF_μ18 : Fr [(0, 30, 7), (0, 39, 1), (0, 137, 6), (1, 40, 0), (1, 42, 0), (1, 43, 0), (1, 45, 0)] true μ μ18 := hF_μ.trans (hC_μ18.mono (by decide +kernel) (by decide))
      have hr_μ18 : μ18.2.2 = μ.2.2 := (hC_μ18.2 rfl : μ18.2.2 = μ.2.2).trans hr_μ
      try rw [hr_μ18]
      refine ok_bv (fun v20 ev20 => ?_)
      first | have tv20 : v20.toInt = (a6.toInt + 1) := (congrArg Int32.toInt ev20).trans (TI.e (n := (a6.toInt + 1)) (TI.add TI.rf (TI.lit (by decide)) (by omega) (by omega))) | have tv20 : v20.toInt ≤ a6.toInt + 1 := by rw [ev20]; exact ti_inc _ | skip
      exact ok_mono (ih a1 a2 a3 a5 v20 μ18 hI_μ18 (by (try rw [hr_μ18]); omega)) (fun q h => ⟨h.1, hF_μ18.trans h.2⟩)
set_option maxHeartbeats 4000000 in
set_option maxRecDepth 100000 in
theorem k_X10_leaveCallTo_b69 (a1 : Int32) (a2 : Int32) (μ : Mem) (hI_μ : IX μ) (hc : 0 ≤ (a2).toInt ∧ (a2).toInt ≤ 8) : ok (p_X10_leaveCallTo_b69 a1 a2 μ) (fun q => IX q ∧ Fr [(0, 30, 7), (0, 39, 1), (0, 137, 6), (1, 40, 0), (1, 42, 0), (1, 43, 0), (1, 45, 0)] true μ q) := by
  have li0 : (0 : Int32).toInt = 0 := by decide
  have li1 : (1 : Int32).toInt = 1 := by decide
  have li7 : (7 : Int32).toInt = 7 := by decide
  have li11 : (11 : Int32).toInt = 11 := by decide
  have hF_μ : Fr [(0, 30, 7), (0, 39, 1), (0, 137, 6), (1, 40, 0), (1, 42, 0), (1, 43, 0), (1, 45, 0)] true μ μ := Fr.rf
  have hr_μ : μ.2.2 = μ.2.2 := rfl
  rw [p_X10_leaveCallTo_b69_eq]
  have lo_a1 := ti_lo a1
  have hi_a1 := ti_hi a1
  have lo_a2 := ti_lo a2
  have hi_a2 := ti_hi a2
  refine ok_bd (k_X10_leave (11 : Int32) a1 (0 : Int64) (0 : Int64) μ hI_μ) ?_
  rintro r4 μ3 ⟨hI_μ3, hC_μ3⟩
  have hI_μ3 : IX μ3 := hI_μ3
  have hC_μ3 : Fr [(0, 39, 1), (0, 137, 6), (1, 40, 0), (1, 42, 0), (1, 43, 0), (1, 45, 0)] true μ μ3 := hC_μ3
  have hF_μ3 : Fr [(0, 30, 7), (0, 39, 1), (0, 137, 6), (1, 40, 0), (1, 42, 0), (1, 43, 0), (1, 45, 0)] true μ μ3 := hF_μ.trans (hC_μ3.mono (by decide +kernel) (by decide))
  have hr_μ3 : μ3.2.2 = μ.2.2 := (hC_μ3.2 rfl : μ3.2.2 = μ.2.2).trans hr_μ
  try rw [hr_μ3]
  have g5 := ti_lo (μ3.1 137 6)
  have g5h := ti_hi (μ3.1 137 6)
  refine ok_ite ?_ ?_
  · intro c6
    rw [ti_eq] at c6
    have g7 := rg_39_1 hI_μ3
    refine ok_bv (fun v8 ev8 => ?_)
    first | have tv8 : v8.toInt = ((μ3.1 39 1).toInt - 1) := (congrArg Int32.toInt ev8).trans (TI.e (n := ((μ3.1 39 1).toInt - 1)) (TI.sub TI.rf (TI.lit (by decide)) (by omega) (by omega))) | skip
    refine ok_bw (k_X5_setCell v8 (7 : Int32) a2 μ3 hI_μ3 (by (try rw [hr_μ3]); omega)) ?_
    rintro μ9 ⟨hI_μ9, hC_μ9⟩
    have hF_μ9 : Fr [(0, 30, 7), (0, 39, 1), (0, 137, 6), (1, 40, 0), (1, 42, 0), (1, 43, 0), (1, 45, 0)] true μ μ9 := hF_μ3.trans (hC_μ9.mono (by decide +kernel) (by decide))
    have hr_μ9 : μ9.2.2 = μ.2.2 := (hC_μ9.2 rfl : μ9.2.2 = μ3.2.2).trans hr_μ3
    try rw [hr_μ9]
    obtain ⟨fu, hfu0, hfu⟩ := fuel_ex
    rw [hfu0]
    exact ok_mono (k_X10_leaveCallTo_b113  fu a1 a2 r4 v8 (0 : Int32) μ9 hI_μ9 (by (try rw [hr_μ9]); omega)) (fun q h => ⟨h.1, hF_μ9.trans h.2⟩)
  · intro c6
    rw [ti_eq] at c6
    exact ok_some ⟨hI_μ3, hF_μ3⟩
set_option maxHeartbeats 4000000 in
set_option maxRecDepth 100000 in
theorem k_X10_leaveCallTo_b63 {n4 : Nat} (K4 : Int32 → Int32 → Int32 → Mem → Option Mem) (hK4 : ∀ (z1 : Int32) (z2 : Int32) (z3 : Int32) (μ1 : Mem), IX μ1 → (0 ≤ (z2).toInt ∧ (z2).toInt ≤ 8 ∧ 0 ≤ (z3).toInt ∧ 2147483648 - (z3).toInt < n4) → ok (K4 z1 z2 z3 μ1) (fun q => IX q ∧ Fr [(0, 30, 7), (0, 39, 1), (0, 137, 6), (1, 40, 0), (1, 42, 0), (1, 43, 0), (1, 45, 0)] true μ1 q)) (a1 : Int32) (a2 : Int32) (a3 : Int32) (μ : Mem) (hI_μ : IX μ) (hc : 0 ≤ (a2).toInt ∧ (a2).toInt ≤ 8 ∧ 0 ≤ (a3).toInt ∧ (a3).toInt < 200 ∧ 2147483648 - (a3).toInt < n4 + 1) : ok (p_X10_leaveCallTo_b63 K4 a1 a2 a3 μ) (fun q => IX q ∧ Fr [(0, 30, 7), (0, 39, 1), (0, 137, 6), (1, 40, 0), (1, 42, 0), (1, 43, 0), (1, 45, 0)] true μ q) := by
  have li0 : (0 : Int32).toInt = 0 := by decide
  have li1 : (1 : Int32).toInt = 1 := by decide
  have hF_μ : Fr [(0, 30, 7), (0, 39, 1), (0, 137, 6), (1, 40, 0), (1, 42, 0), (1, 43, 0), (1, 45, 0)] true μ μ := Fr.rf
  have hr_μ : μ.2.2 = μ.2.2 := rfl
  rw [p_X10_leaveCallTo_b63_eq]
  have lo_a1 := ti_lo a1
  have hi_a1 := ti_hi a1
  have lo_a2 := ti_lo a2
  have hi_a2 := ti_hi a2
  have lo_a3 := ti_lo a3
  have hi_a3 := ti_hi a3
  refine ok_bv (fun v28 ev28 => ?_)
  first | have tv28 : v28.toInt = (a3.toInt + 1) := (congrArg Int32.toInt ev28).trans (TI.e (n := (a3.toInt + 1)) (TI.add TI.rf (TI.lit (by decide)) (by omega) (by omega))) | have tv28 : v28.toInt ≤ a3.toInt + 1 := by rw [ev28]; exact ti_inc _ | skip
  exact ok_mono (hK4 a1 a2 v28 μ hI_μ (by omega)) (fun q h => ⟨h.1, hF_μ.trans h.2⟩)
set_option maxHeartbeats 4000000 in
set_option maxRecDepth 100000 in
theorem k_X10_leaveCallTo_b4 : ∀ (n : Nat) (a1 : Int32) (a2 : Int32) (a3 : Int32) (μ : Mem), IX μ → (0 ≤ (a2).toInt ∧ (a2).toInt ≤ 8 ∧ 0 ≤ (a3).toInt ∧ 2147483648 - (a3).toInt < n) → ok (p_X10_leaveCallTo_b4 n a1 a2 a3 μ) (fun q => IX q ∧ Fr [(0, 30, 7), (0, 39, 1), (0, 137, 6), (1, 40, 0), (1, 42, 0), (1, 43, 0), (1, 45, 0)] true μ q) := by
  have li0 : (0 : Int32).toInt = 0 := by decide
  have li1 : (1 : Int32).toInt = 1 := by decide
  have li8 : (8 : Int32).toInt = 8 := by decide
  intro n
  induction n with
  | zero => intro a1 a2 a3 μ hI_μ hc; exact absurd hc (by have lo_a1 := ti_lo a1; have hi_a1 := ti_hi a1; have lo_a2 := ti_lo a2; have hi_a2 := ti_hi a2; have lo_a3 := ti_lo a3; have hi_a3 := ti_hi a3; omega)
  | succ n ih =>
    intro a1 a2 a3 μ hI_μ hc
    have hF_μ : Fr [(0, 30, 7), (0, 39, 1), (0, 137, 6), (1, 40, 0), (1, 42, 0), (1, 43, 0), (1, 45, 0)] true μ μ := Fr.rf
    have hr_μ : μ.2.2 = μ.2.2 := rfl
    rw [p_X10_leaveCallTo_b4_s]
    have lo_a1 := ti_lo a1
    have hi_a1 := ti_hi a1
    have lo_a2 := ti_lo a2
    have hi_a2 := ti_hi a2
    have lo_a3 := ti_lo a3
    have hi_a3 := ti_hi a3
    have g1 := rgp (sel_1 (μ.2.2 137 14)) hI_μ
    refine ok_ite ?_ ?_
    · intro c2
      rw [ti_le] at c2
      exact ok_mono (k_X10_leaveCallTo_b69  a1 a2 μ hI_μ (by omega)) (fun q h => ⟨h.1, hF_μ.trans h.2⟩)
    · intro c2
      rw [ti_le] at c2
      refine ok_ite ?_ ?_
      · intro c21
        rw [ti_le] at c21
        exact ok_mono (k_X10_leaveCallTo_b69  a1 a2 μ hI_μ (by omega)) (fun q h => ⟨h.1, hF_μ.trans h.2⟩)
      · intro c21
        rw [ti_le] at c21
        refine ok_gd (inb_iff.mpr (by omega)) ?_
        refine ok_ite ?_ ?_
        · intro c22
          rw [ti_eq] at c22
          have l23 := pl_eq (sel_1 (μ.2.2 137 14))
          refine ok_gd (inb_iff.mpr (by omega)) ?_
          refine ok_bd (kr_X10_lift 50 (μ.2.1 ((sel 1 (μ.2.2 137 14)) + 2) a3.toNatClampNeg) (0 : Int32) μ hI_μ (by omega)) ?_
          rintro r25 μ24 ⟨hI_μ24, hC_μ24⟩
          have hI_μ24 : IX μ24 := hI_μ24
          have hC_μ24 : Fr [(0, 39, 1), (0, 137, 6), (1, 40, 0), (1, 42, 0), (1, 43, 0), (1, 45, 0)] true μ μ24 := hC_μ24
          have hF_μ24 : Fr [(0, 30, 7), (0, 39, 1), (0, 137, 6), (1, 40, 0), (1, 42, 0), (1, 43, 0), (1, 45, 0)] true μ μ24 := hF_μ.trans (hC_μ24.mono (by decide +kernel) (by decide))
          have hr_μ24 : μ24.2.2 = μ.2.2 := (hC_μ24.2 rfl : μ24.2.2 = μ.2.2).trans hr_μ
          try rw [hr_μ24]
          refine ok_gd (inb_iff.mpr (by omega)) ?_
          refine ok_bv (fun μ26 e_μ26 => ?_)
          have hI_μ26 : IX μ26 := by rw [e_μ26]; exact IX_L hI_μ24
          have hF_μ26 : Fr [(0, 30, 7), (0, 39, 1), (0, 137, 6), (1, 40, 0), (1, 42, 0), (1, 43, 0), (1, 45, 0)] true μ μ26 := by rw [e_μ26]; exact hF_μ24
          have hr_μ26 : μ26.2.2 = μ.2.2 := (by rw [e_μ26]; rfl : μ26.2.2 = μ24.2.2).trans hr_μ24
          try rw [hr_μ26]
          refine ok_bv (fun v27 ev27 => ?_)
          first | have tv27 : v27.toInt = (a2.toInt + 1) := (congrArg Int32.toInt ev27).trans (TI.e (n := (a2.toInt + 1)) (TI.add TI.rf (TI.lit (by decide)) (by omega) (by omega))) | have tv27 : v27.toInt ≤ a2.toInt + 1 := by rw [ev27]; exact ti_inc _ | skip
          exact ok_mono (k_X10_leaveCallTo_b63 _ ih a1 v27 a3 μ26 hI_μ26 (by (try rw [hr_μ26]); omega)) (fun q h => ⟨h.1, hF_μ26.trans h.2⟩)
        · intro c22
          rw [ti_eq] at c22
          exact ok_mono (k_X10_leaveCallTo_b63 _ ih a1 a2 a3 μ hI_μ (by omega)) (fun q h => ⟨h.1, hF_μ.trans h.2⟩)
set_option maxHeartbeats 4000000 in
set_option maxRecDepth 100000 in
theorem k_X10_leaveCallTo (a1 : Int32) (μ : Mem) (hI_μ : IX μ) : ok (p_X10_leaveCallTo a1 μ) (fun q => IX q ∧ Fr [(0, 30, 7), (0, 39, 1), (0, 137, 6), (1, 40, 0), (1, 42, 0), (1, 43, 0), (1, 45, 0)] true μ q) := by
  have li0 : (0 : Int32).toInt = 0 := by decide
  have li1 : (1 : Int32).toInt = 1 := by decide
  have hF_μ : Fr [(0, 30, 7), (0, 39, 1), (0, 137, 6), (1, 40, 0), (1, 42, 0), (1, 43, 0), (1, 45, 0)] true μ μ := Fr.rf
  have hr_μ : μ.2.2 = μ.2.2 := rfl
  rw [p_X10_leaveCallTo_eq]
  have lo_a1 := ti_lo a1
  have hi_a1 := ti_hi a1
  obtain ⟨fu, hfu0, hfu⟩ := fuel_ex
  rw [hfu0]
  exact ok_mono (k_X10_leaveCallTo_b4  fu a1 (0 : Int32) (0 : Int32) μ hI_μ (by omega)) (fun q h => ⟨h.1, hF_μ.trans h.2⟩)

set_option maxHeartbeats 4000000 in
set_option maxRecDepth 100000 in
theorem k_X10_leaveCall_b86 (a2 : Int32) (μ : Mem) (hI_μ : IX μ) : ok (p_X10_leaveCall_b86 a2 μ) (fun q => IX q ∧ Fr [(0, 30, 7), (0, 39, 1), (0, 39, 2), (0, 39, 5), (0, 137, 6), (1, 40, 0), (1, 42, 0), (1, 43, 0), (1, 45, 0), (2, 1, 2), (2, 1, 3)] false μ q) := by
  have lim4 : (-4 : Int32).toInt = -4 := by decide
  have lim1 : (-1 : Int32).toInt = -1 := by decide
  have li0 : (0 : Int32).toInt = 0 := by decide
  have li1 : (1 : Int32).toInt = 1 := by decide
  have hF_μ : Fr [(0, 30, 7), (0, 39, 1), (0, 39, 2), (0, 39, 5), (0, 137, 6), (1, 40, 0), (1, 42, 0), (1, 43, 0), (1, 45, 0), (2, 1, 2), (2, 1, 3)] false μ μ := Fr.rf
  have hr_μ : μ.2.2 = μ.2.2 := rfl
  rw [p_X10_leaveCall_b86_eq]
  have lo_a2 := ti_lo a2
  have hi_a2 := ti_hi a2
  refine ok_ite ?_ ?_
  · intro c11
    rw [ti_eq] at c11
    refine ok_bw (k_X10_breakOff (-4 : Int32) μ hI_μ) ?_
    rintro μ12 ⟨hI_μ12, hC_μ12⟩
    have hF_μ12 : Fr [(0, 30, 7), (0, 39, 1), (0, 39, 2), (0, 39, 5), (0, 137, 6), (1, 40, 0), (1, 42, 0), (1, 43, 0), (1, 45, 0), (2, 1, 2), (2, 1, 3)] false μ μ12 := hF_μ.trans (hC_μ12.mono (by decide +kernel) (by decide))
    have hr_μ12 : μ12.2.2 = μ.2.2 := (hC_μ12.2 rfl : μ12.2.2 = μ.2.2).trans hr_μ
    try rw [hr_μ12]
    exact ok_some ⟨hI_μ12, hF_μ12⟩
  · intro c11
    rw [ti_eq] at c11
    refine ok_bw (k_X10_leaveCallTo a2 μ hI_μ) ?_
    rintro μ14 ⟨hI_μ14, hC_μ14⟩
    have hF_μ14 : Fr [(0, 30, 7), (0, 39, 1), (0, 39, 2), (0, 39, 5), (0, 137, 6), (1, 40, 0), (1, 42, 0), (1, 43, 0), (1, 45, 0), (2, 1, 2), (2, 1, 3)] false μ μ14 := hF_μ.trans (hC_μ14.mono (by decide +kernel) (by decide))
    have hr_μ14 : μ14.2.2 = μ.2.2 := (hC_μ14.2 rfl : μ14.2.2 = μ.2.2).trans hr_μ
    try rw [hr_μ14]
    exact ok_some ⟨hI_μ14, hF_μ14⟩
set_option maxHeartbeats 4000000 in
set_option maxRecDepth 100000 in
theorem k_X10_leaveCall_b65 (a2 : Int32) (μ : Mem) (hI_μ : IX μ) : ok (p_X10_leaveCall_b65 a2 μ) (fun q => IX q ∧ Fr [(0, 30, 7), (0, 39, 1), (0, 39, 2), (0, 39, 5), (0, 137, 6), (1, 40, 0), (1, 42, 0), (1, 43, 0), (1, 45, 0), (2, 1, 2), (2, 1, 3)] false μ q) := by
  have lim1 : (-1 : Int32).toInt = -1 := by decide
  have li0 : (0 : Int32).toInt = 0 := by decide
  have li1 : (1 : Int32).toInt = 1 := by decide
  have hF_μ : Fr [(0, 30, 7), (0, 39, 1), (0, 39, 2), (0, 39, 5), (0, 137, 6), (1, 40, 0), (1, 42, 0), (1, 43, 0), (1, 45, 0), (2, 1, 2), (2, 1, 3)] false μ μ := Fr.rf
  have hr_μ : μ.2.2 = μ.2.2 := rfl
  rw [p_X10_leaveCall_b65_eq]
  have lo_a2 := ti_lo a2
  have hi_a2 := ti_hi a2
  refine ok_ite ?_ ?_
  · intro c7
    rw [ti_eq] at c7
    have g8 := ti_lo (μ.1 137 7)
    have g8h := ti_hi (μ.1 137 7)
    refine ok_bd (k_X5_addVariant (sel 1 (μ.2.2 137 14)) (sel_1 _) (μ.1 137 7) μ hI_μ) ?_
    rintro r10 μ9 ⟨hI_μ9, hC_μ9⟩
    have hI_μ9 : IX μ9 := hI_μ9
    have hC_μ9 : Fr [(0, 39, 2), (1, 45, 0), (2, 1, 2), (2, 1, 3)] true μ μ9 := hC_μ9
    have lo_r10 := ti_lo r10
    have hi_r10 := ti_hi r10
    have hF_μ9 : Fr [(0, 30, 7), (0, 39, 1), (0, 39, 2), (0, 39, 5), (0, 137, 6), (1, 40, 0), (1, 42, 0), (1, 43, 0), (1, 45, 0), (2, 1, 2), (2, 1, 3)] false μ μ9 := hF_μ.trans (hC_μ9.mono (by decide +kernel) (by decide))
    have hr_μ9 : μ9.2.2 = μ.2.2 := (hC_μ9.2 rfl : μ9.2.2 = μ.2.2).trans hr_μ
    try rw [hr_μ9]
    exact ok_mono (k_X10_leaveCall_b86  r10 μ9 hI_μ9) (fun q h => ⟨h.1, hF_μ9.trans h.2⟩)
  · intro c7
    rw [ti_eq] at c7
    exact ok_mono (k_X10_leaveCall_b86  a2 μ hI_μ) (fun q h => ⟨h.1, hF_μ.trans h.2⟩)
set_option maxHeartbeats 4000000 in
set_option maxRecDepth 100000 in
theorem k_X10_leaveCall (a1 : Int32) (μ : Mem) (hI_μ : IX μ) : ok (p_X10_leaveCall a1 μ) (fun q => IX q ∧ Fr [(0, 30, 7), (0, 39, 1), (0, 39, 2), (0, 39, 5), (0, 137, 6), (1, 40, 0), (1, 42, 0), (1, 43, 0), (1, 45, 0), (2, 1, 2), (2, 1, 3)] false μ q) := by
  have lim1 : (-1 : Int32).toInt = -1 := by decide
  have li0 : (0 : Int32).toInt = 0 := by decide
  have li1 : (1 : Int32).toInt = 1 := by decide
  have hF_μ : Fr [(0, 30, 7), (0, 39, 1), (0, 39, 2), (0, 39, 5), (0, 137, 6), (1, 40, 0), (1, 42, 0), (1, 43, 0), (1, 45, 0), (2, 1, 2), (2, 1, 3)] false μ μ := Fr.rf
  have hr_μ : μ.2.2 = μ.2.2 := rfl
  rw [p_X10_leaveCall_eq]
  have lo_a1 := ti_lo a1
  have hi_a1 := ti_hi a1
  refine ok_bd (k_X5_find (sel 1 (μ.2.2 137 14)) (sel_1 _) μ hI_μ) ?_
  rintro r2 μ1 hq9
  obtain rfl : μ = μ1 := hq9
  have lo_r2 := ti_lo r2
  have hi_r2 := ti_hi r2
  refine ok_ite ?_ ?_
  · intro c3
    rw [ti_eq] at c3
    refine ok_bd (k_X10_isTooMuch a1 μ hI_μ) ?_
    rintro r5 μ4 ⟨hq9, p_r5⟩
    obtain rfl : μ = μ4 := hq9
    dsimp only at p_r5
    have lo_r5 := ti_lo r5
    have hi_r5 := ti_hi r5
    refine ok_ite ?_ ?_
    · intro c6
      rw [ti_eq] at c6
      exact ok_mono (k_X10_leaveCall_b65  r2 μ hI_μ) (fun q h => ⟨h.1, hF_μ.trans h.2⟩)
    · intro c6
      rw [ti_eq] at c6
      have g16 := ti_lo (μ.1 39 5)
      have g16h := ti_hi (μ.1 39 5)
      refine ok_bv (fun μ17 e_μ17 => ?_)
      have hI_μ17 : IX μ17 := by rw [e_μ17]; exact IX_F hI_μ (rt_39_5 _)
      have hF_μ17 : Fr [(0, 30, 7), (0, 39, 1), (0, 39, 2), (0, 39, 5), (0, 137, 6), (1, 40, 0), (1, 42, 0), (1, 43, 0), (1, 45, 0), (2, 1, 2), (2, 1, 3)] false μ μ17 := by rw [e_μ17]; exact Fr.put hF_μ (by decide +kernel)
      have hr_μ17 : μ17.2.2 = μ.2.2 := (by rw [e_μ17]; rfl : μ17.2.2 = μ.2.2).trans hr_μ
      try rw [hr_μ17]
      refine ok_bw (k_X2_letAllGo (sel 1 (μ.2.2 137 14)) (sel_1 _) (sel 1 (μ.2.2 137 15)) (sel_1 _) μ17 hI_μ17) ?_
      rintro μ18 ⟨hI_μ18, hC_μ18⟩
      have hF_μ18 : Fr [(0, 30, 7), (0, 39, 1), (0, 39, 2), (0, 39, 5), (0, 137, 6), (1, 40, 0), (1, 42, 0), (1, 43, 0), (1, 45, 0), (2, 1, 2), (2, 1, 3)] false μ μ18 := hF_μ17.trans (hC_μ18.mono (by decide +kernel) (by decide))
      have hr_μ18 : μ18.2.2 = μ.2.2 := (hC_μ18.2 rfl : μ18.2.2 = μ17.2.2).trans hr_μ17
      try rw [hr_μ18]
      refine ok_bw (k_X10_swapCalls  μ18 hI_μ18) ?_
      rintro μ20 ⟨hI_μ20, hC_μ20⟩
      have hF_μ20 : Fr [(0, 30, 7), (0, 39, 1), (0, 39, 2), (0, 39, 5), (0, 137, 6), (1, 40, 0), (1, 42, 0), (1, 43, 0), (1, 45, 0), (2, 1, 2), (2, 1, 3)] false μ μ20 := hF_μ18.trans (hC_μ20.mono (by decide +kernel) (by decide))
      have hr_μ20 : μ20.2.2 = μ20.2.2 := rfl
      refine ok_bd (k_X5_find (sel 1 (μ20.2.2 137 14)) (sel_1 _) μ20 hI_μ20) ?_
      rintro r23 μ22 hq9
      obtain rfl : μ20 = μ22 := hq9
      have lo_r23 := ti_lo r23
      have hi_r23 := ti_hi r23
      exact ok_mono (k_X10_leaveCall_b65  r23 μ20 hI_μ20) (fun q h => ⟨h.1, hF_μ20.trans h.2⟩)
  · intro c3
    rw [ti_eq] at c3
    exact ok_mono (k_X10_leaveCall_b65  r2 μ hI_μ) (fun q h => ⟨h.1, hF_μ.trans h.2⟩)

set_option maxHeartbeats 4000000 in
set_option maxRecDepth 100000 in
theorem k_X8_closeFrame  (μ : Mem) (hI_μ : IX μ) : ok (p_X8_closeFrame  μ) (fun q => IX q.2 ∧ Fr [(0, 30, 10)] true μ q.2) := by
  have lim1 : (-1 : Int32).toInt = -1 := by decide
  have li0 : (0 : Int32).toInt = 0 := by decide
  have li1 : (1 : Int32).toInt = 1 := by decide
  have hF_μ : Fr [(0, 30, 10)] true μ μ := Fr.rf
  have hr_μ : μ.2.2 = μ.2.2 := rfl
  rw [p_X8_closeFrame_eq]
  have g1 := rg_30_10 hI_μ
  refine ok_ite ?_ ?_
  · intro c2
    rw [ti_le] at c2
    refine ok_bv (fun μ3 e_μ3 => ?_)
    have hI_μ3 : IX μ3 := by rw [e_μ3]; exact IX_F hI_μ (rp_30_10 (by (try rw [TI.e (e := ((μ.1 30 10) - (1 : Int32))) (n := ((μ.1 30 10).toInt - 1)) (TI.sub TI.rf (TI.lit (by decide)) (by omega) (by omega))]); omega))
    have hF_μ3 : Fr [(0, 30, 10)] true μ μ3 := by rw [e_μ3]; exact Fr.put hF_μ (by decide +kernel)
    have v_μ3 : (μ3.1 30 10).toInt = ((μ.1 30 10).toInt - 1) := by rw [e_μ3, sF_v]; exact TI.e (n := ((μ.1 30 10).toInt - 1)) (TI.sub TI.rf (TI.lit (by decide)) (by omega) (by omega))
    have hr_μ3 : μ3.2.2 = μ.2.2 := (by rw [e_μ3]; rfl : μ3.2.2 = μ.2.2).trans hr_μ
    have g4 := rg_30_10 hI_μ3
    refine ok_gd (inb_iff.mpr (by (try rw [TI.e (e := ((μ3.1 30 10) + (1 : Int32))) (n := ((μ3.1 30 10).toInt + 1)) (TI.add TI.rf (TI.lit (by decide)) (by omega) (by omega))]); omega)) ?_
    exact ok_some ⟨hI_μ3, hF_μ3⟩
  · intro c2
    rw [ti_le] at c2
    exact ok_some ⟨hI_μ, hF_μ⟩

set_option maxHeartbeats 4000000 in
set_option maxRecDepth 100000 in
theorem k_X10_goBack  (μ : Mem) (hI_μ : IX μ) : ok (p_X10_goBack  μ) (fun q => IX q ∧ Fr [(0, 30, 5), (0, 30, 7), (0, 30, 10), (0, 39, 1), (0, 39, 6), (0, 137, 6), (0, 137, 7), (0, 137, 8), (0, 137, 9), (0, 137, 12), (0, 137, 13), (1, 33, 0), (1, 34, 0), (1, 40, 0), (1, 42, 0), (1, 43, 0), (1, 45, 0)] true μ q) := by
  have lim1 : (-1 : Int32).toInt = -1 := by decide
  have li0 : (0 : Int32).toInt = 0 := by decide
  have li1 : (1 : Int32).toInt = 1 := by decide
  have hF_μ : Fr [(0, 30, 5), (0, 30, 7), (0, 30, 10), (0, 39, 1), (0, 39, 6), (0, 137, 6), (0, 137, 7), (0, 137, 8), (0, 137, 9), (0, 137, 12), (0, 137, 13), (1, 33, 0), (1, 34, 0), (1, 40, 0), (1, 42, 0), (1, 43, 0), (1, 45, 0)] true μ μ := Fr.rf
  have hr_μ : μ.2.2 = μ.2.2 := rfl
  rw [p_X10_goBack_eq]
  refine ok_bd (k_X8_closeFrame  μ hI_μ) ?_
  rintro r2 μ1 ⟨hI_μ1, hC_μ1⟩
  have hI_μ1 : IX μ1 := hI_μ1
  have hC_μ1 : Fr [(0, 30, 10)] true μ μ1 := hC_μ1
  have lo_r2 := ti_lo r2
  have hi_r2 := ti_hi r2
  have hF_μ1 : Fr [(0, 30, 5), (0, 30, 7), (0, 30, 10), (0, 39, 1), (0, 39, 6), (0, 137, 6), (0, 137, 7), (0, 137, 8), (0, 137, 9), (0, 137, 12), (0, 137, 13), (1, 33, 0), (1, 34, 0), (1, 40, 0), (1, 42, 0), (1, 43, 0), (1, 45, 0)] true μ μ1 := hF_μ.trans (hC_μ1.mono (by decide +kernel) (by decide))
  have hr_μ1 : μ1.2.2 = μ.2.2 := (hC_μ1.2 rfl : μ1.2.2 = μ.2.2).trans hr_μ
  try rw [hr_μ1]
  refine ok_bv (fun μ3 e_μ3 => ?_)
  have hI_μ3 : IX μ3 := by rw [e_μ3]; exact IX_F hI_μ1 (rt_137_9 _)
  have hF_μ3 : Fr [(0, 30, 5), (0, 30, 7), (0, 30, 10), (0, 39, 1), (0, 39, 6), (0, 137, 6), (0, 137, 7), (0, 137, 8), (0, 137, 9), (0, 137, 12), (0, 137, 13), (1, 33, 0), (1, 34, 0), (1, 40, 0), (1, 42, 0), (1, 43, 0), (1, 45, 0)] true μ μ3 := by rw [e_μ3]; exact Fr.put hF_μ1 (by decide +kernel)
  have v_μ3 : (μ3.1 137 9).toInt = r2.toInt := by rw [e_μ3, sF_v]
  have hr_μ3 : μ3.2.2 = μ.2.2 := (by rw [e_μ3]; rfl : μ3.2.2 = μ1.2.2).trans hr_μ1
  try rw [hr_μ3]
  have g4 := ti_lo (μ3.1 137 9)
  have g4h := ti_hi (μ3.1 137 9)
  refine ok_ite ?_ ?_
  · intro c5
    rw [ti_eq] at c5
    have g6 := ti_lo (μ3.1 137 8)
    have g6h := ti_hi (μ3.1 137 8)
    refine ok_bd (k_X8_pop  μ3 hI_μ3) ?_
    rintro r8 μ7 ⟨hI_μ7, hC_μ7⟩
    have hI_μ7 : IX μ7 := hI_μ7
    have hC_μ7 : Fr [(0, 30, 7)] true μ3 μ7 := hC_μ7
    have hF_μ7 : Fr [(0, 30, 5), (0, 30, 7), (0, 30, 10), (0, 39, 1), (0, 39, 6), (0, 137, 6), (0, 137, 7), (0, 137, 8), (0, 137, 9), (0, 137, 12), (0, 137, 13), (1, 33, 0), (1, 34, 0), (1, 40, 0), (1, 42, 0), (1, 43, 0), (1, 45, 0)] true μ μ7 := hF_μ3.trans (hC_μ7.mono (by decide +kernel) (by decide))
    have hr_μ7 : μ7.2.2 = μ.2.2 := (hC_μ7.2 rfl : μ7.2.2 = μ3.2.2).trans hr_μ3
    try rw [hr_μ7]
    refine ok_bd (kr_X10_lift 50 r8 (0 : Int32) μ7 hI_μ7 (by (try rw [hr_μ7]); omega)) ?_
    rintro r10 μ9 ⟨hI_μ9, hC_μ9⟩
    have hI_μ9 : IX μ9 := hI_μ9
    have hC_μ9 : Fr [(0, 39, 1), (0, 137, 6), (1, 40, 0), (1, 42, 0), (1, 43, 0), (1, 45, 0)] true μ7 μ9 := hC_μ9
    have hF_μ9 : Fr [(0, 30, 5), (0, 30, 7), (0, 30, 10), (0, 39, 1), (0, 39, 6), (0, 137, 6), (0, 137, 7), (0, 137, 8), (0, 137, 9), (0, 137, 12), (0, 137, 13), (1, 33, 0), (1, 34, 0), (1, 40, 0), (1, 42, 0), (1, 43, 0), (1, 45, 0)] true μ μ9 := hF_μ7.trans (hC_μ9.mono (by decide +kernel) (by decide))
    have hr_μ9 : μ9.2.2 = μ.2.2 := (hC_μ9.2 rfl : μ9.2.2 = μ7.2.2).trans hr_μ7
    try rw [hr_μ9]
    refine ok_bw (k_X5_endBlock (μ3.1 137 8) r10 μ9 hI_μ9) ?_
    rintro μ11 ⟨hI_μ11, hC_μ11⟩
    have hF_μ11 : Fr [(0, 30, 5), (0, 30, 7), (0, 30, 10), (0, 39, 1), (0, 39, 6), (0, 137, 6), (0, 137, 7), (0, 137, 8), (0, 137, 9), (0, 137, 12), (0, 137, 13), (1, 33, 0), (1, 34, 0), (1, 40, 0), (1, 42, 0), (1, 43, 0), (1, 45, 0)] true μ μ11 := hF_μ9.trans (hC_μ11.mono (by decide +kernel) (by decide))
    have hr_μ11 : μ11.2.2 = μ.2.2 := (hC_μ11.2 rfl : μ11.2.2 = μ9.2.2).trans hr_μ9
    try rw [hr_μ11]
    have g13 := ti_lo (μ11.1 137 7)
    have g13h := ti_hi (μ11.1 137 7)
    refine ok_bw (k_X10_beginVariant ((μ11.1 137 7) + (1 : Int32)) μ11 hI_μ11) ?_
    rintro μ14 ⟨hI_μ14, hC_μ14⟩
    have hF_μ14 : Fr [(0, 30, 5), (0, 30, 7), (0, 30, 10), (0, 39, 1), (0, 39, 6), (0, 137, 6), (0, 137, 7), (0, 137, 8), (0, 137, 9), (0, 137, 12), (0, 137, 13), (1, 33, 0), (1, 34, 0), (1, 40, 0), (1, 42, 0), (1, 43, 0), (1, 45, 0)] true μ μ14 := hF_μ11.trans (hC_μ14.mono (by decide +kernel) (by decide))
    have hr_μ14 : μ14.2.2 = μ.2.2 := (hC_μ14.2 rfl : μ14.2.2 = μ11.2.2).trans hr_μ11
    try rw [hr_μ14]
    exact ok_some ⟨hI_μ14, hF_μ14⟩
  · intro c5
    rw [ti_eq] at c5
    exact ok_some ⟨hI_μ3, hF_μ3⟩

set_option maxHeartbeats 4000000 in
set_option maxRecDepth 100000 in
theorem k_X10_step  (μ : Mem) (hI_μ : IX μ) : ok (p_X10_step  μ) (fun q => IX q ∧ Fr [(0, 30, 5), (0, 30, 7), (0, 30, 10), (0, 39, 1), (0, 39, 2), (0, 39, 3), (0, 39, 4), (0, 39, 5), (0, 39, 6), (0, 137, 6), (0, 137, 7), (0, 137, 8), (0, 137, 9), (0, 137, 12), (0, 137, 13), (1, 33, 0), (1, 34, 0), (1, 38, 0), (1, 40, 0), (1, 42, 0), (1, 43, 0), (1, 45, 0), (1, 138, 0), (2, 1, 2), (2, 1, 3)] false μ q) := by
  have li0 : (0 : Int32).toInt = 0 := by decide
  have li1 : (1 : Int32).toInt = 1 := by decide
  have li2 : (2 : Int32).toInt = 2 := by decide
  have li3 : (3 : Int32).toInt = 3 := by decide
  have li4 : (4 : Int32).toInt = 4 := by decide
  have li5 : (5 : Int32).toInt = 5 := by decide
  have li6 : (6 : Int32).toInt = 6 := by decide
  have li7 : (7 : Int32).toInt = 7 := by decide
  have li8 : (8 : Int32).toInt = 8 := by decide
  have li9 : (9 : Int32).toInt = 9 := by decide
  have li10 : (10 : Int32).toInt = 10 := by decide
  have li11 : (11 : Int32).toInt = 11 := by decide
  have li12 : (12 : Int32).toInt = 12 := by decide
  have li13 : (13 : Int32).toInt = 13 := by decide
  have hF_μ : Fr [(0, 30, 5), (0, 30, 7), (0, 30, 10), (0, 39, 1), (0, 39, 2), (0, 39, 3), (0, 39, 4), (0, 39, 5), (0, 39, 6), (0, 137, 6), (0, 137, 7), (0, 137, 8), (0, 137, 9), (0, 137, 12), (0, 137, 13), (1, 33, 0), (1, 34, 0), (1, 38, 0), (1, 40, 0), (1, 42, 0), (1, 43, 0), (1, 45, 0), (1, 138, 0), (2, 1, 2), (2, 1, 3)] false μ μ := Fr.rf
  have hr_μ : μ.2.2 = μ.2.2 := rfl
  rw [p_X10_step_eq]
  have g1 := ti_lo (μ.1 137 9)
  have g1h := ti_hi (μ.1 137 9)
  refine ok_bd (k_X3_stepAt (sel 2 (μ.2.2 137 5)) (sel_2 _) (μ.1 137 9) μ hI_μ) ?_
  rintro r3 μ2 ⟨hq9, p_r3⟩
  obtain rfl : μ = μ2 := hq9
  dsimp only at p_r3
  have lo_r3 := ti_lo r3
  have hi_r3 := ti_hi r3
  refine ok_bd (k_X3_markAt (sel 2 (μ.2.2 137 5)) (sel_2 _) (μ.1 137 9) μ hI_μ) ?_
  rintro r5 μ4 hq9
  obtain rfl : μ = μ4 := hq9
  have lo_r5 := ti_lo r5
  have hi_r5 := ti_hi r5
  refine ok_bd (k_X3_bitsAt (sel 2 (μ.2.2 137 5)) (sel_2 _) (μ.1 137 9) μ hI_μ) ?_
  rintro r7 μ6 ⟨hq9, p_r7⟩
  obtain rfl : μ = μ6 := hq9
  dsimp only at p_r7
  have lo_r7 := ti_lo r7
  have hi_r7 := ti_hi r7
  refine ok_bv (fun μ8 e_μ8 => ?_)
  have hI_μ8 : IX μ8 := by rw [e_μ8]; exact IX_F hI_μ (rt_137_9 _)
  have hF_μ8 : Fr [(0, 30, 5), (0, 30, 7), (0, 30, 10), (0, 39, 1), (0, 39, 2), (0, 39, 3), (0, 39, 4), (0, 39, 5), (0, 39, 6), (0, 137, 6), (0, 137, 7), (0, 137, 8), (0, 137, 9), (0, 137, 12), (0, 137, 13), (1, 33, 0), (1, 34, 0), (1, 38, 0), (1, 40, 0), (1, 42, 0), (1, 43, 0), (1, 45, 0), (1, 138, 0), (2, 1, 2), (2, 1, 3)] false μ μ8 := by rw [e_μ8]; exact Fr.put hF_μ (by decide +kernel)
  have hr_μ8 : μ8.2.2 = μ.2.2 := (by rw [e_μ8]; rfl : μ8.2.2 = μ.2.2).trans hr_μ
  try rw [hr_μ8]
  refine ok_ite ?_ ?_
  · intro c10
    rw [ti_eq] at c10
    refine ok_bw (k_X8_push (s_X0_make r5 r7) μ8 hI_μ8) ?_
    rintro μ11 ⟨hI_μ11, hC_μ11⟩
    have hF_μ11 : Fr [(0, 30, 5), (0, 30, 7), (0, 30, 10), (0, 39, 1), (0, 39, 2), (0, 39, 3), (0, 39, 4), (0, 39, 5), (0, 39, 6), (0, 137, 6), (0, 137, 7), (0, 137, 8), (0, 137, 9), (0, 137, 12), (0, 137, 13), (1, 33, 0), (1, 34, 0), (1, 38, 0), (1, 40, 0), (1, 42, 0), (1, 43, 0), (1, 45, 0), (1, 138, 0), (2, 1, 2), (2, 1, 3)] false μ μ11 := hF_μ8.trans (hC_μ11.mono (by decide +kernel) (by decide))
    have hr_μ11 : μ11.2.2 = μ.2.2 := (hC_μ11.2 rfl : μ11.2.2 = μ8.2.2).trans hr_μ8
    try rw [hr_μ11]
    exact ok_some ⟨hI_μ11, hF_μ11⟩
  intro c10
  rw [ti_eq] at c10
  refine ok_ite ?_ ?_
  · intro c13
    rw [ti_eq] at c13
    refine ok_bd (k_X8_varAt r5 μ8 hI_μ8) ?_
    rintro r15 μ14 hq9
    obtain rfl : μ8 = μ14 := hq9
    try rw [hr_μ8]
    refine ok_bw (k_X8_push r15 μ8 hI_μ8) ?_
    rintro μ16 ⟨hI_μ16, hC_μ16⟩
    have hF_μ16 : Fr [(0, 30, 5), (0, 30, 7), (0, 30, 10), (0, 39, 1), (0, 39, 2), (0, 39, 3), (0, 39, 4), (0, 39, 5), (0, 39, 6), (0, 137, 6), (0, 137, 7), (0, 137, 8), (0, 137, 9), (0, 137, 12), (0, 137, 13), (1, 33, 0), (1, 34, 0), (1, 38, 0), (1, 40, 0), (1, 42, 0), (1, 43, 0), (1, 45, 0), (1, 138, 0), (2, 1, 2), (2, 1, 3)] false μ μ16 := hF_μ8.trans (hC_μ16.mono (by decide +kernel) (by decide))
    have hr_μ16 : μ16.2.2 = μ.2.2 := (hC_μ16.2 rfl : μ16.2.2 = μ8.2.2).trans hr_μ8
    try rw [hr_μ16]
    exact ok_some ⟨hI_μ16, hF_μ16⟩
  intro c13
  rw [ti_eq] at c13
  refine ok_ite ?_ ?_
  · intro c18
    rw [ti_eq] at c18
    refine ok_bw (k_X10_reckon r5 μ8 hI_μ8) ?_
    rintro μ19 ⟨hI_μ19, hC_μ19⟩
    have hF_μ19 : Fr [(0, 30, 5), (0, 30, 7), (0, 30, 10), (0, 39, 1), (0, 39, 2), (0, 39, 3), (0, 39, 4), (0, 39, 5), (0, 39, 6), (0, 137, 6), (0, 137, 7), (0, 137, 8), (0, 137, 9), (0, 137, 12), (0, 137, 13), (1, 33, 0), (1, 34, 0), (1, 38, 0), (1, 40, 0), (1, 42, 0), (1, 43, 0), (1, 45, 0), (1, 138, 0), (2, 1, 2), (2, 1, 3)] false μ μ19 := hF_μ8.trans (hC_μ19.mono (by decide +kernel) (by decide))
    have hr_μ19 : μ19.2.2 = μ.2.2 := (hC_μ19.2 rfl : μ19.2.2 = μ8.2.2).trans hr_μ8
    try rw [hr_μ19]
    exact ok_some ⟨hI_μ19, hF_μ19⟩
  intro c18
  rw [ti_eq] at c18
  refine ok_ite ?_ ?_
  · intro c21
    rw [ti_eq] at c21
    refine ok_bw (k_X10_turn r5 μ8 hI_μ8) ?_
    rintro μ22 ⟨hI_μ22, hC_μ22⟩
    have hF_μ22 : Fr [(0, 30, 5), (0, 30, 7), (0, 30, 10), (0, 39, 1), (0, 39, 2), (0, 39, 3), (0, 39, 4), (0, 39, 5), (0, 39, 6), (0, 137, 6), (0, 137, 7), (0, 137, 8), (0, 137, 9), (0, 137, 12), (0, 137, 13), (1, 33, 0), (1, 34, 0), (1, 38, 0), (1, 40, 0), (1, 42, 0), (1, 43, 0), (1, 45, 0), (1, 138, 0), (2, 1, 2), (2, 1, 3)] false μ μ22 := hF_μ8.trans (hC_μ22.mono (by decide +kernel) (by decide))
    have hr_μ22 : μ22.2.2 = μ.2.2 := (hC_μ22.2 rfl : μ22.2.2 = μ8.2.2).trans hr_μ8
    try rw [hr_μ22]
    exact ok_some ⟨hI_μ22, hF_μ22⟩
  intro c21
  rw [ti_eq] at c21
  refine ok_ite ?_ ?_
  · intro c24
    rw [ti_eq] at c24
    refine ok_bw (k_X10_takePart r5 μ8 hI_μ8) ?_
    rintro μ25 ⟨hI_μ25, hC_μ25⟩
    have hF_μ25 : Fr [(0, 30, 5), (0, 30, 7), (0, 30, 10), (0, 39, 1), (0, 39, 2), (0, 39, 3), (0, 39, 4), (0, 39, 5), (0, 39, 6), (0, 137, 6), (0, 137, 7), (0, 137, 8), (0, 137, 9), (0, 137, 12), (0, 137, 13), (1, 33, 0), (1, 34, 0), (1, 38, 0), (1, 40, 0), (1, 42, 0), (1, 43, 0), (1, 45, 0), (1, 138, 0), (2, 1, 2), (2, 1, 3)] false μ μ25 := hF_μ8.trans (hC_μ25.mono (by decide +kernel) (by decide))
    have hr_μ25 : μ25.2.2 = μ.2.2 := (hC_μ25.2 rfl : μ25.2.2 = μ8.2.2).trans hr_μ8
    try rw [hr_μ25]
    exact ok_some ⟨hI_μ25, hF_μ25⟩
  intro c24
  rw [ti_eq] at c24
  refine ok_ite ?_ ?_
  · intro c27
    rw [ti_eq] at c27
    refine ok_bw (k_X10_makePair  μ8 hI_μ8) ?_
    rintro μ28 ⟨hI_μ28, hC_μ28⟩
    have hF_μ28 : Fr [(0, 30, 5), (0, 30, 7), (0, 30, 10), (0, 39, 1), (0, 39, 2), (0, 39, 3), (0, 39, 4), (0, 39, 5), (0, 39, 6), (0, 137, 6), (0, 137, 7), (0, 137, 8), (0, 137, 9), (0, 137, 12), (0, 137, 13), (1, 33, 0), (1, 34, 0), (1, 38, 0), (1, 40, 0), (1, 42, 0), (1, 43, 0), (1, 45, 0), (1, 138, 0), (2, 1, 2), (2, 1, 3)] false μ μ28 := hF_μ8.trans (hC_μ28.mono (by decide +kernel) (by decide))
    have hr_μ28 : μ28.2.2 = μ.2.2 := (hC_μ28.2 rfl : μ28.2.2 = μ8.2.2).trans hr_μ8
    try rw [hr_μ28]
    exact ok_some ⟨hI_μ28, hF_μ28⟩
  intro c27
  rw [ti_eq] at c27
  refine ok_ite ?_ ?_
  · intro c30
    rw [ti_eq] at c30
    refine ok_bw (k_X10_test r5 μ8 hI_μ8) ?_
    rintro μ31 ⟨hI_μ31, hC_μ31⟩
    have hF_μ31 : Fr [(0, 30, 5), (0, 30, 7), (0, 30, 10), (0, 39, 1), (0, 39, 2), (0, 39, 3), (0, 39, 4), (0, 39, 5), (0, 39, 6), (0, 137, 6), (0, 137, 7), (0, 137, 8), (0, 137, 9), (0, 137, 12), (0, 137, 13), (1, 33, 0), (1, 34, 0), (1, 38, 0), (1, 40, 0), (1, 42, 0), (1, 43, 0), (1, 45, 0), (1, 138, 0), (2, 1, 2), (2, 1, 3)] false μ μ31 := hF_μ8.trans (hC_μ31.mono (by decide +kernel) (by decide))
    have hr_μ31 : μ31.2.2 = μ.2.2 := (hC_μ31.2 rfl : μ31.2.2 = μ8.2.2).trans hr_μ8
    try rw [hr_μ31]
    exact ok_some ⟨hI_μ31, hF_μ31⟩
  intro c30
  rw [ti_eq] at c30
  refine ok_ite ?_ ?_
  · intro c33
    rw [ti_eq] at c33
    refine ok_bw (k_X10_endThen r5 μ8 hI_μ8) ?_
    rintro μ34 ⟨hI_μ34, hC_μ34⟩
    have hF_μ34 : Fr [(0, 30, 5), (0, 30, 7), (0, 30, 10), (0, 39, 1), (0, 39, 2), (0, 39, 3), (0, 39, 4), (0, 39, 5), (0, 39, 6), (0, 137, 6), (0, 137, 7), (0, 137, 8), (0, 137, 9), (0, 137, 12), (0, 137, 13), (1, 33, 0), (1, 34, 0), (1, 38, 0), (1, 40, 0), (1, 42, 0), (1, 43, 0), (1, 45, 0), (1, 138, 0), (2, 1, 2), (2, 1, 3)] false μ μ34 := hF_μ8.trans (hC_μ34.mono (by decide +kernel) (by decide))
    have hr_μ34 : μ34.2.2 = μ.2.2 := (hC_μ34.2 rfl : μ34.2.2 = μ8.2.2).trans hr_μ8
    try rw [hr_μ34]
    exact ok_some ⟨hI_μ34, hF_μ34⟩
  intro c33
  rw [ti_eq] at c33
  refine ok_ite ?_ ?_
  · intro c36
    rw [ti_eq] at c36
    refine ok_bw (k_X10_endElse  μ8 hI_μ8) ?_
    rintro μ37 ⟨hI_μ37, hC_μ37⟩
    have hF_μ37 : Fr [(0, 30, 5), (0, 30, 7), (0, 30, 10), (0, 39, 1), (0, 39, 2), (0, 39, 3), (0, 39, 4), (0, 39, 5), (0, 39, 6), (0, 137, 6), (0, 137, 7), (0, 137, 8), (0, 137, 9), (0, 137, 12), (0, 137, 13), (1, 33, 0), (1, 34, 0), (1, 38, 0), (1, 40, 0), (1, 42, 0), (1, 43, 0), (1, 45, 0), (1, 138, 0), (2, 1, 2), (2, 1, 3)] false μ μ37 := hF_μ8.trans (hC_μ37.mono (by decide +kernel) (by decide))
    have hr_μ37 : μ37.2.2 = μ.2.2 := (hC_μ37.2 rfl : μ37.2.2 = μ8.2.2).trans hr_μ8
    try rw [hr_μ37]
    exact ok_some ⟨hI_μ37, hF_μ37⟩
  intro c36
  rw [ti_eq] at c36
  refine ok_ite ?_ ?_
  · intro c39
    rw [ti_eq] at c39
    refine ok_bd (k_X8_fromTop (0 : Int32) μ8 hI_μ8) ?_
    rintro r41 μ40 hq9
    obtain rfl : μ8 = μ40 := hq9
    try rw [hr_μ8]
    refine ok_bd (k_X8_num r41 μ8 hI_μ8) ?_
    rintro r43 μ42 hq9
    obtain rfl : μ8 = μ42 := hq9
    try rw [hr_μ8]
    refine ok_bd (k_X10_leave (7 : Int32) (0 : Int32) r43 (0 : Int64) μ8 hI_μ8) ?_
    rintro r45 μ44 ⟨hI_μ44, hC_μ44⟩
    have hI_μ44 : IX μ44 := hI_μ44
    have hC_μ44 : Fr [(0, 39, 1), (0, 137, 6), (1, 40, 0), (1, 42, 0), (1, 43, 0), (1, 45, 0)] true μ8 μ44 := hC_μ44
    have hF_μ44 : Fr [(0, 30, 5), (0, 30, 7), (0, 30, 10), (0, 39, 1), (0, 39, 2), (0, 39, 3), (0, 39, 4), (0, 39, 5), (0, 39, 6), (0, 137, 6), (0, 137, 7), (0, 137, 8), (0, 137, 9), (0, 137, 12), (0, 137, 13), (1, 33, 0), (1, 34, 0), (1, 38, 0), (1, 40, 0), (1, 42, 0), (1, 43, 0), (1, 45, 0), (1, 138, 0), (2, 1, 2), (2, 1, 3)] false μ μ44 := hF_μ8.trans (hC_μ44.mono (by decide +kernel) (by decide))
    have hr_μ44 : μ44.2.2 = μ.2.2 := (hC_μ44.2 rfl : μ44.2.2 = μ8.2.2).trans hr_μ8
    try rw [hr_μ44]
    exact ok_some ⟨hI_μ44, hF_μ44⟩
  intro c39
  rw [ti_eq] at c39
  refine ok_ite ?_ ?_
  · intro c46
    rw [ti_eq] at c46
    refine ok_bw (k_X10_putAt r5 μ8 hI_μ8) ?_
    rintro μ47 ⟨hI_μ47, hC_μ47⟩
    have hF_μ47 : Fr [(0, 30, 5), (0, 30, 7), (0, 30, 10), (0, 39, 1), (0, 39, 2), (0, 39, 3), (0, 39, 4), (0, 39, 5), (0, 39, 6), (0, 137, 6), (0, 137, 7), (0, 137, 8), (0, 137, 9), (0, 137, 12), (0, 137, 13), (1, 33, 0), (1, 34, 0), (1, 38, 0), (1, 40, 0), (1, 42, 0), (1, 43, 0), (1, 45, 0), (1, 138, 0), (2, 1, 2), (2, 1, 3)] false μ μ47 := hF_μ8.trans (hC_μ47.mono (by decide +kernel) (by decide))
    have hr_μ47 : μ47.2.2 = μ.2.2 := (hC_μ47.2 rfl : μ47.2.2 = μ8.2.2).trans hr_μ8
    try rw [hr_μ47]
    exact ok_some ⟨hI_μ47, hF_μ47⟩
  intro c46
  rw [ti_eq] at c46
  refine ok_ite ?_ ?_
  · intro c49
    rw [ti_eq] at c49
    refine ok_bd (k_X10_leave (9 : Int32) r5 (0 : Int64) (0 : Int64) μ8 hI_μ8) ?_
    rintro r51 μ50 ⟨hI_μ50, hC_μ50⟩
    have hI_μ50 : IX μ50 := hI_μ50
    have hC_μ50 : Fr [(0, 39, 1), (0, 137, 6), (1, 40, 0), (1, 42, 0), (1, 43, 0), (1, 45, 0)] true μ8 μ50 := hC_μ50
    have hF_μ50 : Fr [(0, 30, 5), (0, 30, 7), (0, 30, 10), (0, 39, 1), (0, 39, 2), (0, 39, 3), (0, 39, 4), (0, 39, 5), (0, 39, 6), (0, 137, 6), (0, 137, 7), (0, 137, 8), (0, 137, 9), (0, 137, 12), (0, 137, 13), (1, 33, 0), (1, 34, 0), (1, 38, 0), (1, 40, 0), (1, 42, 0), (1, 43, 0), (1, 45, 0), (1, 138, 0), (2, 1, 2), (2, 1, 3)] false μ μ50 := hF_μ8.trans (hC_μ50.mono (by decide +kernel) (by decide))
    have hr_μ50 : μ50.2.2 = μ.2.2 := (hC_μ50.2 rfl : μ50.2.2 = μ8.2.2).trans hr_μ8
    try rw [hr_μ50]
    refine ok_bw (k_X8_push r51 μ50 hI_μ50) ?_
    rintro μ52 ⟨hI_μ52, hC_μ52⟩
    have hF_μ52 : Fr [(0, 30, 5), (0, 30, 7), (0, 30, 10), (0, 39, 1), (0, 39, 2), (0, 39, 3), (0, 39, 4), (0, 39, 5), (0, 39, 6), (0, 137, 6), (0, 137, 7), (0, 137, 8), (0, 137, 9), (0, 137, 12), (0, 137, 13), (1, 33, 0), (1, 34, 0), (1, 38, 0), (1, 40, 0), (1, 42, 0), (1, 43, 0), (1, 45, 0), (1, 138, 0), (2, 1, 2), (2, 1, 3)] false μ μ52 := hF_μ50.trans (hC_μ52.mono (by decide +kernel) (by decide))
    have hr_μ52 : μ52.2.2 = μ.2.2 := (hC_μ52.2 rfl : μ52.2.2 = μ50.2.2).trans hr_μ50
    try rw [hr_μ52]
    exact ok_some ⟨hI_μ52, hF_μ52⟩
  intro c49
  rw [ti_eq] at c49
  refine ok_ite ?_ ?_
  · intro c54
    rw [ti_eq] at c54
    refine ok_bd (k_X8_pop  μ8 hI_μ8) ?_
    rintro r56 μ55 ⟨hI_μ55, hC_μ55⟩
    have hI_μ55 : IX μ55 := hI_μ55
    have hC_μ55 : Fr [(0, 30, 7)] true μ8 μ55 := hC_μ55
    have hF_μ55 : Fr [(0, 30, 5), (0, 30, 7), (0, 30, 10), (0, 39, 1), (0, 39, 2), (0, 39, 3), (0, 39, 4), (0, 39, 5), (0, 39, 6), (0, 137, 6), (0, 137, 7), (0, 137, 8), (0, 137, 9), (0, 137, 12), (0, 137, 13), (1, 33, 0), (1, 34, 0), (1, 38, 0), (1, 40, 0), (1, 42, 0), (1, 43, 0), (1, 45, 0), (1, 138, 0), (2, 1, 2), (2, 1, 3)] false μ μ55 := hF_μ8.trans (hC_μ55.mono (by decide +kernel) (by decide))
    have hr_μ55 : μ55.2.2 = μ.2.2 := (hC_μ55.2 rfl : μ55.2.2 = μ8.2.2).trans hr_μ8
    try rw [hr_μ55]
    refine ok_bw (k_X8_setVar r5 r56 μ55 hI_μ55) ?_
    rintro μ57 ⟨hI_μ57, hC_μ57⟩
    have hF_μ57 : Fr [(0, 30, 5), (0, 30, 7), (0, 30, 10), (0, 39, 1), (0, 39, 2), (0, 39, 3), (0, 39, 4), (0, 39, 5), (0, 39, 6), (0, 137, 6), (0, 137, 7), (0, 137, 8), (0, 137, 9), (0, 137, 12), (0, 137, 13), (1, 33, 0), (1, 34, 0), (1, 38, 0), (1, 40, 0), (1, 42, 0), (1, 43, 0), (1, 45, 0), (1, 138, 0), (2, 1, 2), (2, 1, 3)] false μ μ57 := hF_μ55.trans (hC_μ57.mono (by decide +kernel) (by decide))
    have hr_μ57 : μ57.2.2 = μ.2.2 := (hC_μ57.2 rfl : μ57.2.2 = μ55.2.2).trans hr_μ55
    try rw [hr_μ57]
    exact ok_some ⟨hI_μ57, hF_μ57⟩
  intro c54
  rw [ti_eq] at c54
  refine ok_ite ?_ ?_
  · intro c59
    rw [ti_eq] at c59
    refine ok_bd (k_X10_workCall r5 r7 μ8 hI_μ8 (by (try rw [hr_μ8]); omega)) ?_
    rintro r61 μ60 ⟨hI_μ60, hC_μ60, p_μ60⟩
    have hI_μ60 : IX μ60 := hI_μ60
    have hC_μ60 : Fr [(0, 30, 7), (0, 30, 10), (0, 39, 1), (0, 39, 3), (0, 137, 6), (0, 137, 9), (1, 38, 0), (1, 40, 0), (1, 42, 0), (1, 43, 0), (1, 45, 0)] true μ8 μ60 := hC_μ60
    dsimp only at p_μ60
    have lo_r61 := ti_lo r61
    have hi_r61 := ti_hi r61
    have hF_μ60 : Fr [(0, 30, 5), (0, 30, 7), (0, 30, 10), (0, 39, 1), (0, 39, 2), (0, 39, 3), (0, 39, 4), (0, 39, 5), (0, 39, 6), (0, 137, 6), (0, 137, 7), (0, 137, 8), (0, 137, 9), (0, 137, 12), (0, 137, 13), (1, 33, 0), (1, 34, 0), (1, 38, 0), (1, 40, 0), (1, 42, 0), (1, 43, 0), (1, 45, 0), (1, 138, 0), (2, 1, 2), (2, 1, 3)] false μ μ60 := hF_μ8.trans (hC_μ60.mono (by decide +kernel) (by decide))
    have hr_μ60 : μ60.2.2 = μ.2.2 := (hC_μ60.2 rfl : μ60.2.2 = μ8.2.2).trans hr_μ8
    try rw [hr_μ60]
    refine ok_ite ?_ ?_
    · intro c62
      rw [ti_eq] at c62
      refine ok_bw (k_X10_shapeCall r5 r7 μ60 hI_μ60 (by (try rw [hr_μ60]); omega)) ?_
      rintro μ63 ⟨hI_μ63, hC_μ63⟩
      have hF_μ63 : Fr [(0, 30, 5), (0, 30, 7), (0, 30, 10), (0, 39, 1), (0, 39, 2), (0, 39, 3), (0, 39, 4), (0, 39, 5), (0, 39, 6), (0, 137, 6), (0, 137, 7), (0, 137, 8), (0, 137, 9), (0, 137, 12), (0, 137, 13), (1, 33, 0), (1, 34, 0), (1, 38, 0), (1, 40, 0), (1, 42, 0), (1, 43, 0), (1, 45, 0), (1, 138, 0), (2, 1, 2), (2, 1, 3)] false μ μ63 := hF_μ60.trans (hC_μ63.mono (by decide +kernel) (by decide))
      have hr_μ63 : μ63.2.2 = μ63.2.2 := rfl
      refine ok_bw (k_X10_leaveCall r5 μ63 hI_μ63) ?_
      rintro μ65 ⟨hI_μ65, hC_μ65⟩
      have hF_μ65 : Fr [(0, 30, 5), (0, 30, 7), (0, 30, 10), (0, 39, 1), (0, 39, 2), (0, 39, 3), (0, 39, 4), (0, 39, 5), (0, 39, 6), (0, 137, 6), (0, 137, 7), (0, 137, 8), (0, 137, 9), (0, 137, 12), (0, 137, 13), (1, 33, 0), (1, 34, 0), (1, 38, 0), (1, 40, 0), (1, 42, 0), (1, 43, 0), (1, 45, 0), (1, 138, 0), (2, 1, 2), (2, 1, 3)] false μ μ65 := hF_μ63.trans (hC_μ65.mono (by decide +kernel) (by decide))
      have hr_μ65 : μ65.2.2 = μ65.2.2 := rfl
      exact ok_some ⟨hI_μ65, hF_μ65⟩
    · intro c62
      rw [ti_eq] at c62
      exact ok_some ⟨hI_μ60, hF_μ60⟩
  intro c59
  rw [ti_eq] at c59
  refine ok_bw (k_X10_goBack  μ8 hI_μ8) ?_
  rintro μ67 ⟨hI_μ67, hC_μ67⟩
  have hF_μ67 : Fr [(0, 30, 5), (0, 30, 7), (0, 30, 10), (0, 39, 1), (0, 39, 2), (0, 39, 3), (0, 39, 4), (0, 39, 5), (0, 39, 6), (0, 137, 6), (0, 137, 7), (0, 137, 8), (0, 137, 9), (0, 137, 12), (0, 137, 13), (1, 33, 0), (1, 34, 0), (1, 38, 0), (1, 40, 0), (1, 42, 0), (1, 43, 0), (1, 45, 0), (1, 138, 0), (2, 1, 2), (2, 1, 3)] false μ μ67 := hF_μ8.trans (hC_μ67.mono (by decide +kernel) (by decide))
  have hr_μ67 : μ67.2.2 = μ.2.2 := (hC_μ67.2 rfl : μ67.2.2 = μ8.2.2).trans hr_μ8
  try rw [hr_μ67]
  exact ok_some ⟨hI_μ67, hF_μ67⟩

set_option maxHeartbeats 4000000 in
set_option maxRecDepth 100000 in
theorem k_X10_answer  (μ : Mem) (hI_μ : IX μ) : ok (p_X10_answer  μ) (fun q => IX q.2 ∧ Fr [(0, 39, 0), (0, 39, 1), (0, 39, 2), (0, 39, 3), (0, 39, 4), (0, 39, 5), (0, 39, 6)] true μ q.2) := by
  have li0 : (0 : Int32).toInt = 0 := by decide
  have li1 : (1 : Int32).toInt = 1 := by decide
  have hF_μ : Fr [(0, 39, 0), (0, 39, 1), (0, 39, 2), (0, 39, 3), (0, 39, 4), (0, 39, 5), (0, 39, 6)] true μ μ := Fr.rf
  have hr_μ : μ.2.2 = μ.2.2 := rfl
  rw [p_X10_answer_eq]
  have g1 := ti_lo (μ.1 137 6)
  have g1h := ti_hi (μ.1 137 6)
  refine ok_ite ?_ ?_
  · intro c2
    rw [ti_eq] at c2
    refine ok_bv (fun μ3 e_μ3 => ?_)
    have hI_μ3 : IX μ3 := by rw [e_μ3]; exact IX_F hI_μ (rt_39_0 _)
    have hF_μ3 : Fr [(0, 39, 0), (0, 39, 1), (0, 39, 2), (0, 39, 3), (0, 39, 4), (0, 39, 5), (0, 39, 6)] true μ μ3 := by rw [e_μ3]; exact Fr.put hF_μ (by decide +kernel)
    have v_μ3 : (μ3.1 39 0).toInt = 1 := by rw [e_μ3, sF_v]; exact TI.e (n := 1) (TI.lit (by decide))
    have hr_μ3 : μ3.2.2 = μ.2.2 := (by rw [e_μ3]; rfl : μ3.2.2 = μ.2.2).trans hr_μ
    try rw [hr_μ3]
    have g4 := rg_39_2 hI_μ3
    exact ok_some ⟨hI_μ3, hF_μ3⟩
  · intro c2
    rw [ti_eq] at c2
    refine ok_bw (k_X5_clear  μ hI_μ) ?_
    rintro μ5 ⟨hI_μ5, hC_μ5⟩
    have hF_μ5 : Fr [(0, 39, 0), (0, 39, 1), (0, 39, 2), (0, 39, 3), (0, 39, 4), (0, 39, 5), (0, 39, 6)] true μ μ5 := hF_μ.trans (hC_μ5.mono (by decide +kernel) (by decide))
    have hr_μ5 : μ5.2.2 = μ.2.2 := (hC_μ5.2 rfl : μ5.2.2 = μ.2.2).trans hr_μ
    try rw [hr_μ5]
    have g7 := ti_lo (μ5.1 137 6)
    have g7h := ti_hi (μ5.1 137 6)
    have f8 : (μ5.1 137 6).toInt = (μ.1 137 6).toInt := congrArg Int32.toInt (hC_μ5.1 137 6 (by decide +kernel))
    exact ok_some ⟨hI_μ5, hF_μ5⟩
