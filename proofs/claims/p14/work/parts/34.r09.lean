set_option maxHeartbeats 4000000 in
set_option maxRecDepth 100000 in
theorem k_X12_countKind_b38 {n10 : Nat} (K10 : Int32 → Int32 → Int32 → Int32 → Mem → Option (Int32 × Mem)) (hK10 : ∀ (z1 : Int32) (z2 : Int32) (z3 : Int32) (z4 : Int32) (μ1 : Mem), IM μ1 → (0 ≤ (z1).toInt ∧ (z1).toInt < 25 ∧ 0 ≤ (z4).toInt ∧ 2147483648 - (z4).toInt < n10) → ok (K10 z1 z2 z3 z4 μ1) (fun q => μ1 = q.2)) (a1 : Int32) (a2 : Int32) (a4 : Int32) (k0 : Int32) (k1 : Int32) (μ : Mem) (hI_μ : IM μ) (hc : 0 ≤ (a1).toInt ∧ (a1).toInt < 25 ∧ 0 ≤ (a4).toInt ∧ (a4).toInt < 960 ∧ 2147483648 - (a4).toInt < n10 + 1) : ok (p_X12_countKind_b38 K10 a1 a2 a4 k0 k1 μ) (fun q => μ = q.2) := by
  have li0 : (0 : Int32).toInt = 0 := by decide
  have li1 : (1 : Int32).toInt = 1 := by decide
  have hF_μ : Fr [] true μ μ := Fr.rf
  have hr_μ : μ.2.2 = μ.2.2 := rfl
  rw [p_X12_countKind_b38_eq]
  have lo_a1 := ti_lo a1
  have hi_a1 := ti_hi a1
  have lo_a2 := ti_lo a2
  have hi_a2 := ti_hi a2
  have lo_a4 := ti_lo a4
  have hi_a4 := ti_hi a4
  have lo_k0 := ti_lo k0
  have hi_k0 := ti_hi k0
  have lo_k1 := ti_lo k1
  have hi_k1 := ti_hi k1
  refine ok_bv (fun v6 ev6 => ?_)
  first | have tv6 : v6.toInt = (k1.toInt + k0.toInt) := (congrArg Int32.toInt ev6).trans (TI.e (n := (k1.toInt + k0.toInt)) (TI.add TI.rf TI.rf (by omega) (by omega))) | skip
  refine ok_bv (fun v7 ev7 => ?_)
  first | have tv7 : v7.toInt = (a4.toInt + 1) := (congrArg Int32.toInt ev7).trans (TI.e (n := (a4.toInt + 1)) (TI.add TI.rf (TI.lit (by decide)) (by omega) (by omega))) | have tv7 : v7.toInt ≤ a4.toInt + 1 := by rw [ev7]; exact ti_inc _ | skip
  exact ok_mono (hK10 a1 a2 v6 v7 μ hI_μ (by omega)) (fun q h => h)
set_option maxHeartbeats 4000000 in
set_option maxRecDepth 100000 in
theorem k_X12_countKind_b10 : ∀ (n : Nat) (a1 : Int32) (a2 : Int32) (a3 : Int32) (a4 : Int32) (μ : Mem), IM μ → (0 ≤ (a1).toInt ∧ (a1).toInt < 25 ∧ 0 ≤ (a4).toInt ∧ 2147483648 - (a4).toInt < n) → ok (p_X12_countKind_b10 n a1 a2 a3 a4 μ) (fun q => μ = q.2) := by
  have li0 : (0 : Int32).toInt = 0 := by decide
  have li1 : (1 : Int32).toInt = 1 := by decide
  intro n
  induction n with
  | zero => intro a1 a2 a3 a4 μ hI_μ hc; exact absurd hc (by have lo_a1 := ti_lo a1; have hi_a1 := ti_hi a1; have lo_a2 := ti_lo a2; have hi_a2 := ti_hi a2; have lo_a3 := ti_lo a3; have hi_a3 := ti_hi a3; have lo_a4 := ti_lo a4; have hi_a4 := ti_hi a4; omega)
  | succ n ih =>
    intro a1 a2 a3 a4 μ hI_μ hc
    have hF_μ : Fr [] true μ μ := Fr.rf
    have hr_μ : μ.2.2 = μ.2.2 := rfl
    rw [p_X12_countKind_b10_s]
    have lo_a1 := ti_lo a1
    have hi_a1 := ti_hi a1
    have lo_a2 := ti_lo a2
    have hi_a2 := ti_hi a2
    have lo_a3 := ti_lo a3
    have hi_a3 := ti_hi a3
    have lo_a4 := ti_lo a4
    have hi_a4 := ti_hi a4
    refine ok_gd (inb_iff.mpr (by omega)) ?_
    have g3 := rgm_63 hI_μ a1.toNatClampNeg
    refine ok_ite ?_ ?_
    · intro c4
      rw [ti_le] at c4
      exact ok_some rfl
    · intro c4
      rw [ti_le] at c4
      refine ok_gd (inb_iff.mpr (by omega)) ?_
      refine ok_ite ?_ ?_
      · intro c5
        rw [ti_eq] at c5
        exact ok_mono (k_X12_countKind_b38 _ ih a1 a2 a4 (1 : Int32) a3 μ hI_μ (by omega)) (fun q h => h)
      · intro c5
        rw [ti_eq] at c5
        exact ok_mono (k_X12_countKind_b38 _ ih a1 a2 a4 (0 : Int32) a3 μ hI_μ (by omega)) (fun q h => h)
set_option maxHeartbeats 4000000 in
set_option maxRecDepth 100000 in
theorem k_X12_countKind (a1 : Int32) (a2 : Int32) (μ : Mem) (hI_μ : IM μ) (hc : 0 ≤ (a1).toInt ∧ (a1).toInt < 25) : ok (p_X12_countKind a1 a2 μ) (fun q => μ = q.2) := by
  have li0 : (0 : Int32).toInt = 0 := by decide
  have li1 : (1 : Int32).toInt = 1 := by decide
  have hF_μ : Fr [] true μ μ := Fr.rf
  have hr_μ : μ.2.2 = μ.2.2 := rfl
  rw [p_X12_countKind_eq]
  have lo_a1 := ti_lo a1
  have hi_a1 := ti_hi a1
  have lo_a2 := ti_lo a2
  have hi_a2 := ti_hi a2
  refine ok_gd (inb_iff.mpr (by omega)) ?_
  have g1 := rgm_62 hI_μ a1.toNatClampNeg
  refine ok_bv (fun v2 ev2 => ?_)
  have tv2 : v2.toInt = (μ.1 62 a1.toNatClampNeg).toInt := congrArg Int32.toInt ev2
  obtain ⟨fu, hfu0, hfu⟩ := fuel_ex
  rw [hfu0]
  exact ok_mono (k_X12_countKind_b10  fu a1 a2 (0 : Int32) v2 μ hI_μ (by omega)) (fun q h => h)

set_option maxHeartbeats 4000000 in
set_option maxRecDepth 100000 in
theorem k_X12_countAll_b4 : ∀ (n : Nat) (a1 : Int32) (a2 : Int32) (a3 : Int32) (μ : Mem), IM μ → (0 ≤ (a3).toInt ∧ 2147483648 - (a3).toInt < n) → ok (p_X12_countAll_b4 n a1 a2 a3 μ) (fun q => μ = q.2) := by
  have li0 : (0 : Int32).toInt = 0 := by decide
  have li1 : (1 : Int32).toInt = 1 := by decide
  intro n
  induction n with
  | zero => intro a1 a2 a3 μ hI_μ hc; exact absurd hc (by have lo_a1 := ti_lo a1; have hi_a1 := ti_hi a1; have lo_a2 := ti_lo a2; have hi_a2 := ti_hi a2; have lo_a3 := ti_lo a3; have hi_a3 := ti_hi a3; omega)
  | succ n ih =>
    intro a1 a2 a3 μ hI_μ hc
    have hF_μ : Fr [] true μ μ := Fr.rf
    have hr_μ : μ.2.2 = μ.2.2 := rfl
    rw [p_X12_countAll_b4_s]
    have lo_a1 := ti_lo a1
    have hi_a1 := ti_hi a1
    have lo_a2 := ti_lo a2
    have hi_a2 := ti_hi a2
    have lo_a3 := ti_lo a3
    have hi_a3 := ti_hi a3
    have g1 := rgm_0_110 hI_μ
    refine ok_ite ?_ ?_
    · intro c2
      rw [ti_le] at c2
      exact ok_some rfl
    · intro c2
      rw [ti_le] at c2
      refine ok_bd (k_X12_countKind a3 a1 μ hI_μ (by omega)) ?_
      rintro r4 μ3 hq9
      obtain rfl : μ = μ3 := hq9
      have lo_r4 := ti_lo r4
      have hi_r4 := ti_hi r4
      refine ok_bv (fun v5 ev5 => ?_)
      first | have tv5 : v5.toInt = (a2.toInt + r4.toInt) := (congrArg Int32.toInt ev5).trans (TI.e (n := (a2.toInt + r4.toInt)) (TI.add TI.rf TI.rf (by omega) (by omega))) | skip
      refine ok_bv (fun v6 ev6 => ?_)
      first | have tv6 : v6.toInt = (a3.toInt + 1) := (congrArg Int32.toInt ev6).trans (TI.e (n := (a3.toInt + 1)) (TI.add TI.rf (TI.lit (by decide)) (by omega) (by omega))) | have tv6 : v6.toInt ≤ a3.toInt + 1 := by rw [ev6]; exact ti_inc _ | skip
      exact ok_mono (ih a1 v5 v6 μ hI_μ (by omega)) (fun q h => h)
set_option maxHeartbeats 4000000 in
set_option maxRecDepth 100000 in
theorem k_X12_countAll (a1 : Int32) (μ : Mem) (hI_μ : IM μ) : ok (p_X12_countAll a1 μ) (fun q => μ = q.2) := by
  have li0 : (0 : Int32).toInt = 0 := by decide
  have li1 : (1 : Int32).toInt = 1 := by decide
  have hF_μ : Fr [] true μ μ := Fr.rf
  have hr_μ : μ.2.2 = μ.2.2 := rfl
  rw [p_X12_countAll_eq]
  have lo_a1 := ti_lo a1
  have hi_a1 := ti_hi a1
  obtain ⟨fu, hfu0, hfu⟩ := fuel_ex
  rw [hfu0]
  exact ok_mono (k_X12_countAll_b4  fu a1 (0 : Int32) (0 : Int32) μ hI_μ (by omega)) (fun q h => h)

set_option maxHeartbeats 4000000 in
set_option maxRecDepth 100000 in
theorem k_X12_residue (a1 : Int32) (μ : Mem) (hI_μ : IM μ) : ok (p_X12_residue a1 μ) (fun q => μ = q.2) := by
  have lim1 : (-1 : Int32).toInt = -1 := by decide
  have li0 : (0 : Int32).toInt = 0 := by decide
  have li1 : (1 : Int32).toInt = 1 := by decide
  have li2 : (2 : Int32).toInt = 2 := by decide
  have li3 : (3 : Int32).toInt = 3 := by decide
  have li4 : (4 : Int32).toInt = 4 := by decide
  have li5 : (5 : Int32).toInt = 5 := by decide
  have li6 : (6 : Int32).toInt = 6 := by decide
  have li7 : (7 : Int32).toInt = 7 := by decide
  have li8 : (8 : Int32).toInt = 8 := by decide
  have li9 : (9 : Int32).toInt = 9 := by decide
  have li10 : (10 : Int32).toInt = 10 := by decide
  have li11 : (11 : Int32).toInt = 11 := by decide
  have hF_μ : Fr [] true μ μ := Fr.rf
  have hr_μ : μ.2.2 = μ.2.2 := rfl
  rw [p_X12_residue_eq]
  have lo_a1 := ti_lo a1
  have hi_a1 := ti_hi a1
  have g1 := ti_lo (μ.1 0 95)
  have g1h := ti_hi (μ.1 0 95)
  refine ok_ite ?_ ?_
  · intro c2
    rw [ti_eq] at c2
    exact ok_some rfl
  · intro c2
    rw [ti_eq] at c2
    refine ok_ite ?_ ?_
    · intro c4
      rw [ti_eq] at c4
      have g5 := rgm_0_110 hI_μ
      exact ok_some rfl
    intro c4
    rw [ti_eq] at c4
    refine ok_ite ?_ ?_
    · intro c6
      rw [ti_eq] at c6
      have g7 := rgm_0_89 hI_μ
      exact ok_some rfl
    intro c6
    rw [ti_eq] at c6
    refine ok_ite ?_ ?_
    · intro c8
      rw [ti_eq] at c8
      have g9 := ti_lo (μ.1 0 91)
      have g9h := ti_hi (μ.1 0 91)
      exact ok_some rfl
    intro c8
    rw [ti_eq] at c8
    refine ok_ite ?_ ?_
    · intro c10
      rw [ti_eq] at c10
      refine ok_bd (k_X12_countAll (11 : Int32) μ hI_μ) ?_
      rintro r12 μ11 hq9
      obtain rfl : μ = μ11 := hq9
      have lo_r12 := ti_lo r12
      have hi_r12 := ti_hi r12
      exact ok_some rfl
    intro c10
    rw [ti_eq] at c10
    refine ok_ite ?_ ?_
    · intro c13
      rw [ti_eq] at c13
      refine ok_bd (k_X12_countAll (7 : Int32) μ hI_μ) ?_
      rintro r15 μ14 hq9
      obtain rfl : μ = μ14 := hq9
      have lo_r15 := ti_lo r15
      have hi_r15 := ti_hi r15
      exact ok_some rfl
    intro c13
    rw [ti_eq] at c13
    refine ok_ite ?_ ?_
    · intro c16
      rw [ti_eq] at c16
      refine ok_bd (k_X12_countAll (8 : Int32) μ hI_μ) ?_
      rintro r18 μ17 hq9
      obtain rfl : μ = μ17 := hq9
      have lo_r18 := ti_lo r18
      have hi_r18 := ti_hi r18
      refine ok_bd (k_X12_countAll (9 : Int32) μ hI_μ) ?_
      rintro r20 μ19 hq9
      obtain rfl : μ = μ19 := hq9
      have lo_r20 := ti_lo r20
      have hi_r20 := ti_hi r20
      exact ok_some rfl
    intro c16
    rw [ti_eq] at c16
    refine ok_ite ?_ ?_
    · intro c21
      rw [ti_eq] at c21
      refine ok_bd (k_X12_countAll (10 : Int32) μ hI_μ) ?_
      rintro r23 μ22 hq9
      obtain rfl : μ = μ22 := hq9
      have lo_r23 := ti_lo r23
      have hi_r23 := ti_hi r23
      exact ok_some rfl
    intro c21
    rw [ti_eq] at c21
    refine ok_ite ?_ ?_
    · intro c24
      rw [ti_eq] at c24
      refine ok_bd (k_X12_countAll (6 : Int32) μ hI_μ) ?_
      rintro r26 μ25 hq9
      obtain rfl : μ = μ25 := hq9
      have lo_r26 := ti_lo r26
      have hi_r26 := ti_hi r26
      exact ok_some rfl
    intro c24
    rw [ti_eq] at c24
    refine ok_ite ?_ ?_
    · intro c27
      rw [ti_eq] at c27
      have g28 := ti_lo (μ.1 0 96)
      have g28h := ti_hi (μ.1 0 96)
      exact ok_some rfl
    intro c27
    rw [ti_eq] at c27
    refine ok_ite ?_ ?_
    · intro c29
      rw [ti_eq] at c29
      have g30 := ti_lo (μ.1 0 97)
      have g30h := ti_hi (μ.1 0 97)
      exact ok_some rfl
    intro c29
    rw [ti_eq] at c29
    exact ok_some rfl

set_option maxHeartbeats 4000000 in
set_option maxRecDepth 100000 in
theorem k_X12_isVariant (a1 : Int32) (μ : Mem) (hI_μ : IM μ) : ok (p_X12_isVariant a1 μ) (fun q => μ = q.2 ∧ (((q.1).toInt = 0 ∨ ((q.1).toInt = 1 ∧ 0 ≤ (a1).toInt ∧ (a1).toInt < 24)))) := by
  have li0 : (0 : Int32).toInt = 0 := by decide
  have li1 : (1 : Int32).toInt = 1 := by decide
  have hF_μ : Fr [] true μ μ := Fr.rf
  have hr_μ : μ.2.2 = μ.2.2 := rfl
  rw [p_X12_isVariant_eq]
  have lo_a1 := ti_lo a1
  have hi_a1 := ti_hi a1
  have g1 := ti_lo (μ.1 0 95)
  have g1h := ti_hi (μ.1 0 95)
  refine ok_ite ?_ ?_
  · intro c2
    rw [ti_eq] at c2
    exact ok_some ⟨rfl, by (try dsimp only); omega⟩
  · intro c2
    rw [ti_eq] at c2
    have g3 := rgm_0_110 hI_μ
    refine ok_ite ?_ ?_
    · intro c4
      rw [ti_eq] at c4
      have y5 := tf_isIn a1 (0 : Int32) ((μ.1 0 110) - (1 : Int32))
      try rw [TI.e (e := ((μ.1 0 110) - (1 : Int32))) (n := ((μ.1 0 110).toInt - 1)) (TI.sub TI.rf (TI.lit (by decide)) (by omega) (by omega))] at y5
      exact ok_some ⟨rfl, by (try dsimp only); omega⟩
    · intro c4
      rw [ti_eq] at c4
      have y6 := tf_isIn a1 (0 : Int32) ((μ.1 0 110) - (1 : Int32))
      try rw [TI.e (e := ((μ.1 0 110) - (1 : Int32))) (n := ((μ.1 0 110).toInt - 1)) (TI.sub TI.rf (TI.lit (by decide)) (by omega) (by omega))] at y6
      exact ok_some ⟨rfl, by (try dsimp only); omega⟩

set_option maxHeartbeats 4000000 in
set_option maxRecDepth 100000 in
theorem k_X12_knownIn_b42 {n8 : Nat} (K8 : Int32 → Int32 → Int32 → Mem → Option (Int32 × Mem)) (hK8 : ∀ (z1 : Int32) (z2 : Int32) (z3 : Int32) (μ1 : Mem), IM μ1 → (0 ≤ (z1).toInt ∧ (z1).toInt < 25 ∧ 0 ≤ (z3).toInt ∧ 2147483648 - (z3).toInt < n8) → ok (K8 z1 z2 z3 μ1) (fun q => μ1 = q.2)) (a1 : Int32) (a3 : Int32) (k0 : Int32) (k1 : Int32) (μ : Mem) (hI_μ : IM μ) (hc : 0 ≤ (a1).toInt ∧ (a1).toInt < 25 ∧ 0 ≤ (a3).toInt ∧ (a3).toInt < 5250 ∧ 2147483648 - (a3).toInt < n8 + 1) : ok (p_X12_knownIn_b42 K8 a1 a3 k0 k1 μ) (fun q => μ = q.2) := by
  have li0 : (0 : Int32).toInt = 0 := by decide
  have li1 : (1 : Int32).toInt = 1 := by decide
  have hF_μ : Fr [] true μ μ := Fr.rf
  have hr_μ : μ.2.2 = μ.2.2 := rfl
  rw [p_X12_knownIn_b42_eq]
  have lo_a1 := ti_lo a1
  have hi_a1 := ti_hi a1
  have lo_a3 := ti_lo a3
  have hi_a3 := ti_hi a3
  have lo_k0 := ti_lo k0
  have hi_k0 := ti_hi k0
  have lo_k1 := ti_lo k1
  have hi_k1 := ti_hi k1
  refine ok_bv (fun v5 ev5 => ?_)
  first | have tv5 : v5.toInt = (k1.toInt + k0.toInt) := (congrArg Int32.toInt ev5).trans (TI.e (n := (k1.toInt + k0.toInt)) (TI.add TI.rf TI.rf (by omega) (by omega))) | skip
  refine ok_bv (fun v6 ev6 => ?_)
  first | have tv6 : v6.toInt = (a3.toInt + 1) := (congrArg Int32.toInt ev6).trans (TI.e (n := (a3.toInt + 1)) (TI.add TI.rf (TI.lit (by decide)) (by omega) (by omega))) | have tv6 : v6.toInt ≤ a3.toInt + 1 := by rw [ev6]; exact ti_inc _ | skip
  exact ok_mono (hK8 a1 v5 v6 μ hI_μ (by omega)) (fun q h => h)
set_option maxHeartbeats 4000000 in
set_option maxRecDepth 100000 in
theorem k_X12_knownIn_b8 : ∀ (n : Nat) (a1 : Int32) (a2 : Int32) (a3 : Int32) (μ : Mem), IM μ → (0 ≤ (a1).toInt ∧ (a1).toInt < 25 ∧ 0 ≤ (a3).toInt ∧ 2147483648 - (a3).toInt < n) → ok (p_X12_knownIn_b8 n a1 a2 a3 μ) (fun q => μ = q.2) := by
  have li0 : (0 : Int32).toInt = 0 := by decide
  have li1 : (1 : Int32).toInt = 1 := by decide
  have li210 : (210 : Int32).toInt = 210 := by decide
  intro n
  induction n with
  | zero => intro a1 a2 a3 μ hI_μ hc; exact absurd hc (by have lo_a1 := ti_lo a1; have hi_a1 := ti_hi a1; have lo_a2 := ti_lo a2; have hi_a2 := ti_hi a2; have lo_a3 := ti_lo a3; have hi_a3 := ti_hi a3; omega)
  | succ n ih =>
    intro a1 a2 a3 μ hI_μ hc
    have hF_μ : Fr [] true μ μ := Fr.rf
    have hr_μ : μ.2.2 = μ.2.2 := rfl
    rw [p_X12_knownIn_b8_s]
    have lo_a1 := ti_lo a1
    have hi_a1 := ti_hi a1
    have lo_a2 := ti_lo a2
    have hi_a2 := ti_hi a2
    have lo_a3 := ti_lo a3
    have hi_a3 := ti_hi a3
    refine ok_gd (inb_iff.mpr (by omega)) ?_
    have g2 := rgm_58 hI_μ a1.toNatClampNeg
    refine ok_ite ?_ ?_
    · intro c3
      rw [ti_le] at c3
      try rw [TI.e (e := (((210 : Int32) * a1) + (μ.1 58 a1.toNatClampNeg))) (n := ((210 * a1.toInt) + (μ.1 58 a1.toNatClampNeg).toInt)) (TI.add (TI.mul (TI.lit (by decide)) TI.rf (by omega) (by omega)) TI.rf (by omega) (by omega))] at c3
      exact ok_some rfl
    · intro c3
      rw [ti_le] at c3
      try rw [TI.e (e := (((210 : Int32) * a1) + (μ.1 58 a1.toNatClampNeg))) (n := ((210 * a1.toInt) + (μ.1 58 a1.toNatClampNeg).toInt)) (TI.add (TI.mul (TI.lit (by decide)) TI.rf (by omega) (by omega)) TI.rf (by omega) (by omega))] at c3
      refine ok_gd (inb_iff.mpr (by omega)) ?_
      refine ok_ite ?_ ?_
      · intro c4
        rw [ti_eq] at c4
        exact ok_mono (k_X12_knownIn_b42 _ ih a1 a3 (0 : Int32) a2 μ hI_μ (by omega)) (fun q h => h)
      · intro c4
        rw [ti_eq] at c4
        exact ok_mono (k_X12_knownIn_b42 _ ih a1 a3 (1 : Int32) a2 μ hI_μ (by omega)) (fun q h => h)
set_option maxHeartbeats 4000000 in
set_option maxRecDepth 100000 in
theorem k_X12_knownIn (a1 : Int32) (μ : Mem) (hI_μ : IM μ) (hc : 0 ≤ (a1).toInt ∧ (a1).toInt < 25) : ok (p_X12_knownIn a1 μ) (fun q => μ = q.2) := by
  have li0 : (0 : Int32).toInt = 0 := by decide
  have li1 : (1 : Int32).toInt = 1 := by decide
  have li210 : (210 : Int32).toInt = 210 := by decide
  have hF_μ : Fr [] true μ μ := Fr.rf
  have hr_μ : μ.2.2 = μ.2.2 := rfl
  rw [p_X12_knownIn_eq]
  have lo_a1 := ti_lo a1
  have hi_a1 := ti_hi a1
  refine ok_bv (fun v1 ev1 => ?_)
  first | have tv1 : v1.toInt = (210 * a1.toInt) := (congrArg Int32.toInt ev1).trans (TI.e (n := (210 * a1.toInt)) (TI.mul (TI.lit (by decide)) TI.rf (by omega) (by omega))) | skip
  obtain ⟨fu, hfu0, hfu⟩ := fuel_ex
  rw [hfu0]
  exact ok_mono (k_X12_knownIn_b8  fu a1 (0 : Int32) v1 μ hI_μ (by omega)) (fun q h => h)

set_option maxHeartbeats 4000000 in
set_option maxRecDepth 100000 in
theorem k_X12_callsOf_b39 {n4 : Nat} (K4 : Int32 → Int32 → Int32 → Mem → Option (Int32 × Mem)) (hK4 : ∀ (z1 : Int32) (z2 : Int32) (z3 : Int32) (μ1 : Mem), IM μ1 → (0 ≤ (z3).toInt ∧ 2147483648 - (z3).toInt < n4) → ok (K4 z1 z2 z3 μ1) (fun q => μ1 = q.2)) (a1 : Int32) (a3 : Int32) (k0 : Int32) (k1 : Int32) (μ : Mem) (hI_μ : IM μ) (hc : 0 ≤ (a3).toInt ∧ (a3).toInt < 960 ∧ 2147483648 - (a3).toInt < n4 + 1) : ok (p_X12_callsOf_b39 K4 a1 a3 k0 k1 μ) (fun q => μ = q.2) := by
  have li0 : (0 : Int32).toInt = 0 := by decide
  have li1 : (1 : Int32).toInt = 1 := by decide
  have hF_μ : Fr [] true μ μ := Fr.rf
  have hr_μ : μ.2.2 = μ.2.2 := rfl
  rw [p_X12_callsOf_b39_eq]
  have lo_a1 := ti_lo a1
  have hi_a1 := ti_hi a1
  have lo_a3 := ti_lo a3
  have hi_a3 := ti_hi a3
  have lo_k0 := ti_lo k0
  have hi_k0 := ti_hi k0
  have lo_k1 := ti_lo k1
  have hi_k1 := ti_hi k1
  refine ok_bv (fun v5 ev5 => ?_)
  first | have tv5 : v5.toInt = (k1.toInt + k0.toInt) := (congrArg Int32.toInt ev5).trans (TI.e (n := (k1.toInt + k0.toInt)) (TI.add TI.rf TI.rf (by omega) (by omega))) | skip
  refine ok_bv (fun v6 ev6 => ?_)
  first | have tv6 : v6.toInt = (a3.toInt + 1) := (congrArg Int32.toInt ev6).trans (TI.e (n := (a3.toInt + 1)) (TI.add TI.rf (TI.lit (by decide)) (by omega) (by omega))) | have tv6 : v6.toInt ≤ a3.toInt + 1 := by rw [ev6]; exact ti_inc _ | skip
  exact ok_mono (hK4 a1 v5 v6 μ hI_μ (by omega)) (fun q h => h)
set_option maxHeartbeats 4000000 in
set_option maxRecDepth 100000 in
theorem k_X12_callsOf_b38 {n4 : Nat} (K4 : Int32 → Int32 → Int32 → Mem → Option (Int32 × Mem)) (hK4 : ∀ (z1 : Int32) (z2 : Int32) (z3 : Int32) (μ1 : Mem), IM μ1 → (0 ≤ (z3).toInt ∧ 2147483648 - (z3).toInt < n4) → ok (K4 z1 z2 z3 μ1) (fun q => μ1 = q.2)) (a1 : Int32) (a3 : Int32) (k0 : Int32) (μ : Mem) (hI_μ : IM μ) (hc : 0 ≤ (a3).toInt ∧ (a3).toInt < 960 ∧ 2147483648 - (a3).toInt < n4 + 1) : ok (p_X12_callsOf_b38 K4 a1 a3 k0 μ) (fun q => μ = q.2) := by
  have li0 : (0 : Int32).toInt = 0 := by decide
  have li1 : (1 : Int32).toInt = 1 := by decide
  have hF_μ : Fr [] true μ μ := Fr.rf
  have hr_μ : μ.2.2 = μ.2.2 := rfl
  rw [p_X12_callsOf_b38_eq]
  have lo_a1 := ti_lo a1
  have hi_a1 := ti_hi a1
  have lo_a3 := ti_lo a3
  have hi_a3 := ti_hi a3
  have lo_k0 := ti_lo k0
  have hi_k0 := ti_hi k0
  exact ok_mono (k_X12_callsOf_b39 _ hK4 a1 a3 (0 : Int32) k0 μ hI_μ (by omega)) (fun q h => h)
set_option maxHeartbeats 4000000 in
set_option maxRecDepth 100000 in
theorem k_X12_callsOf_b4 : ∀ (n : Nat) (a1 : Int32) (a2 : Int32) (a3 : Int32) (μ : Mem), IM μ → (0 ≤ (a3).toInt ∧ 2147483648 - (a3).toInt < n) → ok (p_X12_callsOf_b4 n a1 a2 a3 μ) (fun q => μ = q.2) := by
  have li0 : (0 : Int32).toInt = 0 := by decide
  have li1 : (1 : Int32).toInt = 1 := by decide
  have li11 : (11 : Int32).toInt = 11 := by decide
  intro n
  induction n with
  | zero => intro a1 a2 a3 μ hI_μ hc; exact absurd hc (by have lo_a1 := ti_lo a1; have hi_a1 := ti_hi a1; have lo_a2 := ti_lo a2; have hi_a2 := ti_hi a2; have lo_a3 := ti_lo a3; have hi_a3 := ti_hi a3; omega)
  | succ n ih =>
    intro a1 a2 a3 μ hI_μ hc
    have hF_μ : Fr [] true μ μ := Fr.rf
    have hr_μ : μ.2.2 = μ.2.2 := rfl
    rw [p_X12_callsOf_b4_s]
    have lo_a1 := ti_lo a1
    have hi_a1 := ti_hi a1
    have lo_a2 := ti_lo a2
    have hi_a2 := ti_hi a2
    have lo_a3 := ti_lo a3
    have hi_a3 := ti_hi a3
    have g1 := rgm_0_87 hI_μ
    refine ok_ite ?_ ?_
    · intro c2
      rw [ti_le] at c2
      exact ok_some rfl
    · intro c2
      rw [ti_le] at c2
      refine ok_gd (inb_iff.mpr (by omega)) ?_
      refine ok_ite ?_ ?_
      · intro c3
        rw [ti_eq] at c3
        refine ok_gd (inb_iff.mpr (by omega)) ?_
        refine ok_ite ?_ ?_
        · intro c4
          rw [ti_eq] at c4
          exact ok_mono (k_X12_callsOf_b39 _ ih a1 a3 (1 : Int32) a2 μ hI_μ (by omega)) (fun q h => h)
        · intro c4
          rw [ti_eq] at c4
          exact ok_mono (k_X12_callsOf_b38 _ ih a1 a3 a2 μ hI_μ (by omega)) (fun q h => h)
      · intro c3
        rw [ti_eq] at c3
        exact ok_mono (k_X12_callsOf_b38 _ ih a1 a3 a2 μ hI_μ (by omega)) (fun q h => h)
set_option maxHeartbeats 4000000 in
set_option maxRecDepth 100000 in
theorem k_X12_callsOf (a1 : Int32) (μ : Mem) (hI_μ : IM μ) : ok (p_X12_callsOf a1 μ) (fun q => μ = q.2) := by
  have li0 : (0 : Int32).toInt = 0 := by decide
  have li1 : (1 : Int32).toInt = 1 := by decide
  have hF_μ : Fr [] true μ μ := Fr.rf
  have hr_μ : μ.2.2 = μ.2.2 := rfl
  rw [p_X12_callsOf_eq]
  have lo_a1 := ti_lo a1
  have hi_a1 := ti_hi a1
  obtain ⟨fu, hfu0, hfu⟩ := fuel_ex
  rw [hfu0]
  exact ok_mono (k_X12_callsOf_b4  fu a1 (0 : Int32) (0 : Int32) μ hI_μ (by omega)) (fun q h => h)

set_option maxHeartbeats 4000000 in
set_option maxRecDepth 100000 in
theorem k_X12_instructionsOf (a1 : Int32) (μ : Mem) (hI_μ : IM μ) (hc : 0 ≤ (a1).toInt ∧ (a1).toInt < 25) : ok (p_X12_instructionsOf a1 μ) (fun q => μ = q.2) := by
  have li0 : (0 : Int32).toInt = 0 := by decide
  have li1 : (1 : Int32).toInt = 1 := by decide
  have li13 : (13 : Int32).toInt = 13 := by decide
  have li14 : (14 : Int32).toInt = 14 := by decide
  have hF_μ : Fr [] true μ μ := Fr.rf
  have hr_μ : μ.2.2 = μ.2.2 := rfl
  rw [p_X12_instructionsOf_eq]
  have lo_a1 := ti_lo a1
  have hi_a1 := ti_hi a1
  refine ok_gd (inb_iff.mpr (by omega)) ?_
  have g1 := rgm_63 hI_μ a1.toNatClampNeg
  refine ok_gd (inb_iff.mpr (by omega)) ?_
  have g2 := rgm_62 hI_μ a1.toNatClampNeg
  refine ok_bd (k_X12_countKind a1 (13 : Int32) μ hI_μ (by omega)) ?_
  rintro r4 μ3 hq9
  obtain rfl : μ = μ3 := hq9
  have lo_r4 := ti_lo r4
  have hi_r4 := ti_hi r4
  refine ok_bd (k_X12_countKind a1 (14 : Int32) μ hI_μ (by omega)) ?_
  rintro r6 μ5 hq9
  obtain rfl : μ = μ5 := hq9
  have lo_r6 := ti_lo r6
  have hi_r6 := ti_hi r6
  exact ok_some rfl

set_option maxHeartbeats 4000000 in
set_option maxRecDepth 100000 in
theorem k_X12_variant (a1 : Int32) (a2 : Int32) (μ : Mem) (hI_μ : IM μ) : ok (p_X12_variant a1 a2 μ) (fun q => μ = q.2) := by
  have lim1 : (-1 : Int32).toInt = -1 := by decide
  have li0 : (0 : Int32).toInt = 0 := by decide
  have li1 : (1 : Int32).toInt = 1 := by decide
  have li2 : (2 : Int32).toInt = 2 := by decide
  have li3 : (3 : Int32).toInt = 3 := by decide
  have li4 : (4 : Int32).toInt = 4 := by decide
  have li5 : (5 : Int32).toInt = 5 := by decide
  have li6 : (6 : Int32).toInt = 6 := by decide
  have hF_μ : Fr [] true μ μ := Fr.rf
  have hr_μ : μ.2.2 = μ.2.2 := rfl
  rw [p_X12_variant_eq]
  have lo_a1 := ti_lo a1
  have hi_a1 := ti_hi a1
  have lo_a2 := ti_lo a2
  have hi_a2 := ti_hi a2
  refine ok_bd (k_X12_isVariant a1 μ hI_μ) ?_
  rintro r2 μ1 ⟨hq9, p_r2⟩
  obtain rfl : μ = μ1 := hq9
  dsimp only at p_r2
  have lo_r2 := ti_lo r2
  have hi_r2 := ti_hi r2
  refine ok_ite ?_ ?_
  · intro c3
    rw [ti_eq] at c3
    exact ok_some rfl
  · intro c3
    rw [ti_eq] at c3
    refine ok_ite ?_ ?_
    · intro c5
      rw [ti_eq] at c5
      refine ok_gd (inb_iff.mpr (by omega)) ?_
      have g6 := rgm_57 hI_μ a1.toNatClampNeg
      refine ok_gd (inb_iff.mpr (by omega)) ?_
      exact ok_some rfl
    intro c5
    rw [ti_eq] at c5
    refine ok_ite ?_ ?_
    · intro c7
      rw [ti_eq] at c7
      refine ok_gd (inb_iff.mpr (by omega)) ?_
      exact ok_some rfl
    intro c7
    rw [ti_eq] at c7
    refine ok_ite ?_ ?_
    · intro c8
      rw [ti_eq] at c8
      refine ok_gd (inb_iff.mpr (by omega)) ?_
      exact ok_some rfl
    intro c8
    rw [ti_eq] at c8
    refine ok_ite ?_ ?_
    · intro c9
      rw [ti_eq] at c9
      refine ok_bd (k_X12_instructionsOf a1 μ hI_μ (by omega)) ?_
      rintro r11 μ10 hq9
      obtain rfl : μ = μ10 := hq9
      have lo_r11 := ti_lo r11
      have hi_r11 := ti_hi r11
      exact ok_some rfl
    intro c9
    rw [ti_eq] at c9
    refine ok_ite ?_ ?_
    · intro c12
      rw [ti_eq] at c12
      refine ok_gd (inb_iff.mpr (by omega)) ?_
      exact ok_some rfl
    intro c12
    rw [ti_eq] at c12
    refine ok_ite ?_ ?_
    · intro c13
      rw [ti_eq] at c13
      refine ok_bd (k_X12_callsOf a1 μ hI_μ) ?_
      rintro r15 μ14 hq9
      obtain rfl : μ = μ14 := hq9
      have lo_r15 := ti_lo r15
      have hi_r15 := ti_hi r15
      exact ok_some rfl
    intro c13
    rw [ti_eq] at c13
    refine ok_ite ?_ ?_
    · intro c16
      rw [ti_eq] at c16
      refine ok_bd (k_X12_knownIn a1 μ hI_μ (by omega)) ?_
      rintro r18 μ17 hq9
      obtain rfl : μ = μ17 := hq9
      have lo_r18 := ti_lo r18
      have hi_r18 := ti_hi r18
      exact ok_some rfl
    intro c16
    rw [ti_eq] at c16
    exact ok_some rfl

set_option maxHeartbeats 4000000 in
set_option maxRecDepth 100000 in
theorem k_X12_kinds (a1 : Int32) (a2 : Int32) (μ : Mem) (hI_μ : IM μ) : ok (p_X12_kinds a1 a2 μ) (fun q => μ = q.2) := by
  have lim1 : (-1 : Int32).toInt = -1 := by decide
  have li0 : (0 : Int32).toInt = 0 := by decide
  have li1 : (1 : Int32).toInt = 1 := by decide
  have li12 : (12 : Int32).toInt = 12 := by decide
  have hF_μ : Fr [] true μ μ := Fr.rf
  have hr_μ : μ.2.2 = μ.2.2 := rfl
  rw [p_X12_kinds_eq]
  have lo_a1 := ti_lo a1
  have hi_a1 := ti_hi a1
  have lo_a2 := ti_lo a2
  have hi_a2 := ti_hi a2
  refine ok_bd (k_X12_isVariant a1 μ hI_μ) ?_
  rintro r2 μ1 ⟨hq9, p_r2⟩
  obtain rfl : μ = μ1 := hq9
  dsimp only at p_r2
  have lo_r2 := ti_lo r2
  have hi_r2 := ti_hi r2
  refine ok_ite ?_ ?_
  · intro c3
    rw [ti_eq] at c3
    exact ok_some rfl
  · intro c3
    rw [ti_eq] at c3
    refine ok_ite ?_ ?_
    · intro c4
      rw [ti_eq] at c4
      have y5 := tf_isIn a2 (0 : Int32) (12 : Int32)
      exact ok_some rfl
    · intro c4
      rw [ti_eq] at c4
      have y6 := tf_isIn a2 (0 : Int32) (12 : Int32)
      refine ok_bd (k_X12_countKind a1 a2 μ hI_μ (by omega)) ?_
      rintro r8 μ7 hq9
      obtain rfl : μ = μ7 := hq9
      have lo_r8 := ti_lo r8
      have hi_r8 := ti_hi r8
      exact ok_some rfl

set_option maxHeartbeats 4000000 in
set_option maxRecDepth 100000 in
theorem k_X12_canRun_b16  (μ : Mem) (hI_μ : IM μ) : ok (p_X12_canRun_b16  μ) (fun q => μ = q.2) := by
  have li0 : (0 : Int32).toInt = 0 := by decide
  have li1 : (1 : Int32).toInt = 1 := by decide
  have hF_μ : Fr [] true μ μ := Fr.rf
  have hr_μ : μ.2.2 = μ.2.2 := rfl
  rw [p_X12_canRun_b16_eq]
  have g2 := rgm_0_47 hI_μ
  have g3 := rgm_0_45 hI_μ
  refine ok_ite ?_ ?_
  · intro c4
    rw [ti_eq] at c4
    exact ok_some rfl
  · intro c4
    rw [ti_eq] at c4
    exact ok_some rfl
set_option maxHeartbeats 4000000 in
set_option maxRecDepth 100000 in
theorem k_X12_canRun (a1 : Int32) (μ : Mem) (hI_μ : IM μ) : ok (p_X12_canRun a1 μ) (fun q => μ = q.2) := by
  have li0 : (0 : Int32).toInt = 0 := by decide
  have li1 : (1 : Int32).toInt = 1 := by decide
  have hF_μ : Fr [] true μ μ := Fr.rf
  have hr_μ : μ.2.2 = μ.2.2 := rfl
  rw [p_X12_canRun_eq]
  have lo_a1 := ti_lo a1
  have hi_a1 := ti_hi a1
  refine ok_ite ?_ ?_
  · intro c1
    rw [ti_eq] at c1
    exact ok_mono (k_X12_canRun_b16   μ hI_μ) (fun q h => h)
  · intro c1
    rw [ti_eq] at c1
    refine ok_ite ?_ ?_
    · intro c5
      rw [ti_eq] at c5
      have g6 := ti_lo (μ.1 0 95)
      have g6h := ti_hi (μ.1 0 95)
      refine ok_ite ?_ ?_
      · intro c7
        rw [ti_eq] at c7
        exact ok_some rfl
      · intro c7
        rw [ti_eq] at c7
        exact ok_mono (k_X12_canRun_b16   μ hI_μ) (fun q h => h)
    · intro c5
      rw [ti_eq] at c5
      exact ok_some rfl

set_option maxHeartbeats 4000000 in
set_option maxRecDepth 100000 in
theorem k_X12_output (a1 : Int32) (a2 : Int32) (μ : Mem) (hI_μ : IM μ) : ok (p_X12_output a1 a2 μ) (fun q => μ = q.2) := by
  have lim1 : (-1 : Int32).toInt = -1 := by decide
  have li0 : (0 : Int32).toInt = 0 := by decide
  have li1 : (1 : Int32).toInt = 1 := by decide
  have hF_μ : Fr [] true μ μ := Fr.rf
  have hr_μ : μ.2.2 = μ.2.2 := rfl
  rw [p_X12_output_eq]
  have lo_a1 := ti_lo a1
  have hi_a1 := ti_hi a1
  have lo_a2 := ti_lo a2
  have hi_a2 := ti_hi a2
  have g1 := rgm_0_132 hI_μ
  refine ok_ite ?_ ?_
  · intro c2
    rw [ti_eq] at c2
    have y3 := tf_isIn a1 (0 : Int32) ((μ.1 0 132) - (1 : Int32))
    try rw [TI.e (e := ((μ.1 0 132) - (1 : Int32))) (n := ((μ.1 0 132).toInt - 1)) (TI.sub TI.rf (TI.lit (by decide)) (by omega) (by omega))] at y3
    exact ok_some rfl
  · intro c2
    rw [ti_eq] at c2
    have y4 := tf_isIn a1 (0 : Int32) ((μ.1 0 132) - (1 : Int32))
    try rw [TI.e (e := ((μ.1 0 132) - (1 : Int32))) (n := ((μ.1 0 132).toInt - 1)) (TI.sub TI.rf (TI.lit (by decide)) (by omega) (by omega))] at y4
    refine ok_ite ?_ ?_
    · intro c5
      rw [ti_eq] at c5
      have y6 := tf_isIn a2 (0 : Int32) (1 : Int32)
      exact ok_some rfl
    · intro c5
      rw [ti_eq] at c5
      have y7 := tf_isIn a2 (0 : Int32) (1 : Int32)
      refine ok_ite ?_ ?_
      · intro c8
        rw [ti_eq] at c8
        refine ok_gd (inb_iff.mpr (by omega)) ?_
        exact ok_some rfl
      · intro c8
        rw [ti_eq] at c8
        refine ok_gd (inb_iff.mpr (by omega)) ?_
        exact ok_some rfl

set_option maxHeartbeats 4000000 in
set_option maxRecDepth 100000 in
theorem k_X12_place (a1 : Int32) (μ : Mem) (hI_μ : IM μ) : ok (p_X12_place a1 μ) (fun q => μ = q.2) := by
  have li0 : (0 : Int32).toInt = 0 := by decide
  have li1 : (1 : Int32).toInt = 1 := by decide
  have li7 : (7 : Int32).toInt = 7 := by decide
  have hF_μ : Fr [] true μ μ := Fr.rf
  have hr_μ : μ.2.2 = μ.2.2 := rfl
  rw [p_X12_place_eq]
  have lo_a1 := ti_lo a1
  have hi_a1 := ti_hi a1
  refine ok_ite ?_ ?_
  · intro c1
    rw [ti_eq] at c1
    have y2 := tf_isIn a1 (0 : Int32) (7 : Int32)
    exact ok_some rfl
  · intro c1
    rw [ti_eq] at c1
    have y3 := tf_isIn a1 (0 : Int32) (7 : Int32)
    refine ok_gd (inb_iff.mpr (by omega)) ?_
    exact ok_some rfl

set_option maxHeartbeats 4000000 in
set_option maxRecDepth 100000 in
theorem k_X12_octet (a1 : Int32) (μ : Mem) (hI_μ : IM μ) : ok (p_X12_octet a1 μ) (fun q => μ = q.2) := by
  have lim1 : (-1 : Int32).toInt = -1 := by decide
  have li0 : (0 : Int32).toInt = 0 := by decide
  have li1 : (1 : Int32).toInt = 1 := by decide
  have hF_μ : Fr [] true μ μ := Fr.rf
  have hr_μ : μ.2.2 = μ.2.2 := rfl
  rw [p_X12_octet_eq]
  have lo_a1 := ti_lo a1
  have hi_a1 := ti_hi a1
  have g1 := rgm_0_139 hI_μ
  refine ok_ite ?_ ?_
  · intro c2
    rw [ti_eq] at c2
    have y3 := tf_isIn a1 (0 : Int32) ((μ.1 0 139) - (1 : Int32))
    try rw [TI.e (e := ((μ.1 0 139) - (1 : Int32))) (n := ((μ.1 0 139).toInt - 1)) (TI.sub TI.rf (TI.lit (by decide)) (by omega) (by omega))] at y3
    exact ok_some rfl
  · intro c2
    rw [ti_eq] at c2
    have y4 := tf_isIn a1 (0 : Int32) ((μ.1 0 139) - (1 : Int32))
    try rw [TI.e (e := ((μ.1 0 139) - (1 : Int32))) (n := ((μ.1 0 139).toInt - 1)) (TI.sub TI.rf (TI.lit (by decide)) (by omega) (by omega))] at y4
    refine ok_gd (inb_iff.mpr (by omega)) ?_
    exact ok_some rfl
