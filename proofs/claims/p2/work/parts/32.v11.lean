set_option maxHeartbeats 4000000 in
set_option maxRecDepth 100000 in
theorem k_X5_ofVariant (a1 : Int32) (a2 : Int32) (μ : Mem) (hI_μ : IX μ) (hc : 0 ≤ (a2).toInt ∧ (a2).toInt ≤ 3) : ok (p_X5_ofVariant a1 a2 μ) (fun q => IX q.2 ∧ Fr [] true μ q.2) := by
  have lim1 : (-1 : Int32).toInt = -1 := by decide
  have li0 : (0 : Int32).toInt = 0 := by decide
  have li1 : (1 : Int32).toInt = 1 := by decide
  have li4 : (4 : Int32).toInt = 4 := by decide
  have hF_μ : Fr [] true μ μ := Fr.rf
  have hr_μ : μ.2.2 = μ.2.2 := rfl
  rw [p_X5_ofVariant_eq]
  have lo_a1 := ti_lo a1
  have hi_a1 := ti_hi a1
  have lo_a2 := ti_lo a2
  have hi_a2 := ti_hi a2
  refine ok_ite ?_ ?_
  · intro c1
    rw [ti_lt] at c1
    exact ok_some ⟨hI_μ, hF_μ⟩
  · intro c1
    rw [ti_lt] at c1
    have g2 := rg_39_2 hI_μ
    refine ok_ite ?_ ?_
    · intro c3
      rw [ti_le] at c3
      exact ok_some ⟨hI_μ, hF_μ⟩
    · intro c3
      rw [ti_le] at c3
      refine ok_gd (inb_iff.mpr (by (try rw [TI.e (e := ((a1 * (4 : Int32)) + a2)) (n := ((a1.toInt * 4) + a2.toInt)) (TI.add (TI.mul TI.rf (TI.lit (by decide)) (by omega) (by omega)) TI.rf (by omega) (by omega))]); omega)) ?_
      exact ok_some ⟨hI_μ, hF_μ⟩

set_option maxHeartbeats 4000000 in
set_option maxRecDepth 100000 in
theorem k_X10_shapeCall_b117 {n57 : Nat} (K57 : Int32 → Int32 → Int32 → Mem → Option Mem) (hK57 : ∀ (z1 : Int32) (z3 : Int32) (z4 : Int32) (μ1 : Mem), IX μ1 → (0 ≤ (z4).toInt ∧ (z4).toInt ≤ 24 ∧ 24 - (z4).toInt < n57) → ok (K57 z1 z3 z4 μ1) (fun q => IX q ∧ Fr [(0, 30, 7), (0, 39, 4), (2, 1, 2), (2, 1, 3)] false μ1 q)) (a1 : Int32) (a3 : Int32) (a4 : Int32) (μ : Mem) (hI_μ : IX μ) (hc : 0 ≤ (a4).toInt ∧ (a4).toInt < 24 ∧ 24 - (a4).toInt < n57 + 1) : ok (p_X10_shapeCall_b117 K57 a1 a3 a4 μ) (fun q => IX q ∧ Fr [(0, 30, 7), (0, 39, 4), (2, 1, 2), (2, 1, 3)] false μ q) := by
  have li0 : (0 : Int32).toInt = 0 := by decide
  have li1 : (1 : Int32).toInt = 1 := by decide
  have hF_μ : Fr [(0, 30, 7), (0, 39, 4), (2, 1, 2), (2, 1, 3)] false μ μ := Fr.rf
  have hr_μ : μ.2.2 = μ.2.2 := rfl
  rw [p_X10_shapeCall_b117_eq]
  have lo_a1 := ti_lo a1
  have hi_a1 := ti_hi a1
  have lo_a3 := ti_lo a3
  have hi_a3 := ti_hi a3
  have lo_a4 := ti_lo a4
  have hi_a4 := ti_hi a4
  refine ok_bd (k_X5_ofVariant a3 (0 : Int32) μ hI_μ (by omega)) ?_
  rintro r22 μ21 ⟨hI_μ21, hC_μ21⟩
  have hI_μ21 : IX μ21 := hI_μ21
  have hC_μ21 : Fr [] true μ μ21 := hC_μ21
  have lo_r22 := ti_lo r22
  have hi_r22 := ti_hi r22
  have hF_μ21 : Fr [(0, 30, 7), (0, 39, 4), (2, 1, 2), (2, 1, 3)] false μ μ21 := hF_μ.trans (hC_μ21.mono (by decide +kernel) (by decide))
  have hr_μ21 : μ21.2.2 = μ.2.2 := (hC_μ21.2 rfl : μ21.2.2 = μ.2.2).trans hr_μ
  try rw [hr_μ21]
  refine ok_bv (fun v23 ev23 => ?_)
  first | have tv23 : v23.toInt = (a4.toInt + 1) := (congrArg Int32.toInt ev23).trans (TI.e (n := (a4.toInt + 1)) (TI.add TI.rf (TI.lit (by decide)) (by omega) (by omega))) | have tv23 : v23.toInt ≤ a4.toInt + 1 := by rw [ev23]; exact ti_inc _ | skip
  exact ok_mono (hK57 a1 r22 v23 μ21 hI_μ21 (by (try simp only [hr_μ21]); omega)) (fun q h => ⟨h.1, hF_μ21.trans h.2⟩)
set_option maxHeartbeats 4000000 in
set_option maxRecDepth 100000 in
theorem k_X10_shapeCall_b57 : ∀ (n : Nat) (a1 : Int32) (a3 : Int32) (a4 : Int32) (μ : Mem), IX μ → (0 ≤ (a4).toInt ∧ (a4).toInt ≤ 24 ∧ 24 - (a4).toInt < n) → ok (p_X10_shapeCall_b57 n a1 a3 a4 μ) (fun q => IX q ∧ Fr [(0, 30, 7), (0, 39, 4), (2, 1, 2), (2, 1, 3)] false μ q) := by
  have lim1 : (-1 : Int32).toInt = -1 := by decide
  have li0 : (0 : Int32).toInt = 0 := by decide
  have li1 : (1 : Int32).toInt = 1 := by decide
  have li24 : (24 : Int32).toInt = 24 := by decide
  intro n
  induction n with
  | zero => intro a1 a3 a4 μ hI_μ hc; exact absurd hc (by have lo_a1 := ti_lo a1; have hi_a1 := ti_hi a1; have lo_a3 := ti_lo a3; have hi_a3 := ti_hi a3; have lo_a4 := ti_lo a4; have hi_a4 := ti_hi a4; omega)
  | succ n ih =>
    intro a1 a3 a4 μ hI_μ hc
    have hF_μ : Fr [(0, 30, 7), (0, 39, 4), (2, 1, 2), (2, 1, 3)] false μ μ := Fr.rf
    have hr_μ : μ.2.2 = μ.2.2 := rfl
    rw [p_X10_shapeCall_b57_s]
    have lo_a1 := ti_lo a1
    have hi_a1 := ti_hi a1
    have lo_a3 := ti_lo a3
    have hi_a3 := ti_hi a3
    have lo_a4 := ti_lo a4
    have hi_a4 := ti_hi a4
    refine ok_ite ?_ ?_
    · intro c9
      rw [ti_le] at c9
      exact ok_some ⟨hI_μ, hF_μ⟩
    · intro c9
      rw [ti_le] at c9
      refine ok_ite ?_ ?_
      · intro c10
        rw [ti_eq] at c10
        exact ok_some ⟨hI_μ, hF_μ⟩
      · intro c10
        rw [ti_eq] at c10
        refine ok_bd (k_X5_patternOf a3 μ hI_μ) ?_
        rintro r12 μ11 ⟨hI_μ11, hC_μ11, p_μ11⟩
        have hI_μ11 : IX μ11 := hI_μ11
        have hC_μ11 : Fr [] true μ μ11 := hC_μ11
        have qr12 : sh 0 r12 = (0, 1) := p_μ11
        have hF_μ11 : Fr [(0, 30, 7), (0, 39, 4), (2, 1, 2), (2, 1, 3)] false μ μ11 := hF_μ.trans (hC_μ11.mono (by decide +kernel) (by decide))
        have hr_μ11 : μ11.2.2 = μ.2.2 := (hC_μ11.2 rfl : μ11.2.2 = μ.2.2).trans hr_μ
        try rw [hr_μ11]
        have g13 := ti_lo (μ11.1 r12 3)
        have g13h := ti_hi (μ11.1 r12 3)
        refine ok_ite ?_ ?_
        · intro c14
          rw [ti_eq] at c14
          have g15 := ti_lo (μ11.1 39 4)
          have g15h := ti_hi (μ11.1 39 4)
          refine ok_bd (k_X2_growBeside (sel 1 (μ.2.2 137 14)) (sel_1 _) r12 qr12 (sel 1 (μ.2.2 137 15)) (sel_1 _) μ11 hI_μ11) ?_
          rintro r17 μ16 ⟨hI_μ16, hC_μ16⟩
          have hI_μ16 : IX μ16 := hI_μ16
          have hC_μ16 : Fr [(2, 1, 2), (2, 1, 3)] true μ11 μ16 := hC_μ16
          have lo_r17 := ti_lo r17
          have hi_r17 := ti_hi r17
          have hF_μ16 : Fr [(0, 30, 7), (0, 39, 4), (2, 1, 2), (2, 1, 3)] false μ μ16 := hF_μ11.trans (hC_μ16.mono (by decide +kernel) (by decide))
          have hr_μ16 : μ16.2.2 = μ.2.2 := (hC_μ16.2 rfl : μ16.2.2 = μ11.2.2).trans hr_μ11
          try rw [hr_μ16]
          refine ok_bv (fun μ18 e_μ18 => ?_)
          have hI_μ18 : IX μ18 := by rw [e_μ18]; exact IX_F hI_μ16 (rt_39_4 _)
          have hF_μ18 : Fr [(0, 30, 7), (0, 39, 4), (2, 1, 2), (2, 1, 3)] false μ μ18 := by rw [e_μ18]; exact Fr.put hF_μ16 (by decide +kernel)
          have hr_μ18 : μ18.2.2 = μ.2.2 := (by rw [e_μ18]; rfl : μ18.2.2 = μ16.2.2).trans hr_μ16
          try rw [hr_μ18]
          refine ok_bw (k_X10_swapCalls  μ18 hI_μ18) ?_
          rintro μ19 ⟨hI_μ19, hC_μ19⟩
          have hF_μ19 : Fr [(0, 30, 7), (0, 39, 4), (2, 1, 2), (2, 1, 3)] false μ μ19 := hF_μ18.trans (hC_μ19.mono (by decide +kernel) (by decide))
          have hr_μ19 : μ19.2.2 = μ19.2.2 := rfl
          exact ok_mono (k_X10_shapeCall_b117 _ ih a1 a3 a4 μ19 hI_μ19 (by omega)) (fun q h => ⟨h.1, hF_μ19.trans h.2⟩)
        · intro c14
          rw [ti_eq] at c14
          exact ok_mono (k_X10_shapeCall_b117 _ ih a1 a3 a4 μ11 hI_μ11 (by (try simp only [hr_μ11]); omega)) (fun q h => ⟨h.1, hF_μ11.trans h.2⟩)
set_option maxHeartbeats 4000000 in
set_option maxRecDepth 100000 in
theorem k_X10_shapeCall_b12 : ∀ (n : Nat) (a1 : Int32) (a2 : Int32) (a3 : Int32) (μ : Mem), IX μ → ((0 : Int) ≤ 0 ∧ (a3).toInt + 2147483649 < n) → ok (p_X10_shapeCall_b12 n a1 a2 a3 μ) (fun q => IX q ∧ Fr [(0, 30, 7), (0, 39, 4), (2, 1, 2), (2, 1, 3)] false μ q) := by
  have lim1 : (-1 : Int32).toInt = -1 := by decide
  have li0 : (0 : Int32).toInt = 0 := by decide
  have li1 : (1 : Int32).toInt = 1 := by decide
  intro n
  induction n with
  | zero => intro a1 a2 a3 μ hI_μ hc; exact absurd hc (by have lo_a1 := ti_lo a1; have hi_a1 := ti_hi a1; have lo_a2 := ti_lo a2; have hi_a2 := ti_hi a2; have lo_a3 := ti_lo a3; have hi_a3 := ti_hi a3; omega)
  | succ n ih =>
    intro a1 a2 a3 μ hI_μ hc
    have hF_μ : Fr [(0, 30, 7), (0, 39, 4), (2, 1, 2), (2, 1, 3)] false μ μ := Fr.rf
    have hr_μ : μ.2.2 = μ.2.2 := rfl
    rw [p_X10_shapeCall_b12_s]
    have lo_a1 := ti_lo a1
    have hi_a1 := ti_hi a1
    have lo_a2 := ti_lo a2
    have hi_a2 := ti_hi a2
    have lo_a3 := ti_lo a3
    have hi_a3 := ti_hi a3
    refine ok_ite ?_ ?_
    · intro c4
      rw [ti_lt] at c4
      refine ok_bw (k_X8_drop a2 μ hI_μ) ?_
      rintro μ5 ⟨hI_μ5, hC_μ5⟩
      have hF_μ5 : Fr [(0, 30, 7), (0, 39, 4), (2, 1, 2), (2, 1, 3)] false μ μ5 := hF_μ.trans (hC_μ5.mono (by decide +kernel) (by decide))
      have hr_μ5 : μ5.2.2 = μ.2.2 := (hC_μ5.2 rfl : μ5.2.2 = μ.2.2).trans hr_μ
      try rw [hr_μ5]
      have g7 := ti_lo (μ5.1 137 7)
      have g7h := ti_hi (μ5.1 137 7)
      refine ok_bv (fun v8 ev8 => ?_)
      have tv8 : v8.toInt = (μ5.1 137 7).toInt := congrArg Int32.toInt ev8
      obtain ⟨fu, hfu0, hfu⟩ := fuel_ex
      rw [hfu0]
      exact ok_mono (k_X10_shapeCall_b57  fu a1 v8 (0 : Int32) μ5 hI_μ5 (by (try simp only [hr_μ5]); omega)) (fun q h => ⟨h.1, hF_μ5.trans h.2⟩)
    · intro c4
      rw [ti_lt] at c4
      refine ok_bd (k_X8_fromTop a3 μ hI_μ) ?_
      rintro r25 μ24 ⟨hI_μ24, hC_μ24⟩
      have hI_μ24 : IX μ24 := hI_μ24
      have hC_μ24 : Fr [] true μ μ24 := hC_μ24
      have hF_μ24 : Fr [(0, 30, 7), (0, 39, 4), (2, 1, 2), (2, 1, 3)] false μ μ24 := hF_μ.trans (hC_μ24.mono (by decide +kernel) (by decide))
      have hr_μ24 : μ24.2.2 = μ.2.2 := (hC_μ24.2 rfl : μ24.2.2 = μ.2.2).trans hr_μ
      try rw [hr_μ24]
      refine ok_bw (k_X8_flatten r25 (sel 1 (μ.2.2 137 14)) (sel_1 _) μ24 hI_μ24) ?_
      rintro μ26 ⟨hI_μ26, hC_μ26⟩
      have hF_μ26 : Fr [(0, 30, 7), (0, 39, 4), (2, 1, 2), (2, 1, 3)] false μ μ26 := hF_μ24.trans (hC_μ26.mono (by decide +kernel) (by decide))
      have hr_μ26 : μ26.2.2 = μ.2.2 := (hC_μ26.2 rfl : μ26.2.2 = μ24.2.2).trans hr_μ24
      try rw [hr_μ26]
      refine ok_bv (fun v28 ev28 => ?_)
      first | have tv28 : v28.toInt = (a3.toInt + (-1)) := (congrArg Int32.toInt ev28).trans (TI.e (n := (a3.toInt + (-1))) (TI.add TI.rf (TI.lit (by decide)) (by omega) (by omega))) | skip
      exact ok_mono (ih a1 a2 v28 μ26 hI_μ26 (by (try simp only [hr_μ26]); omega)) (fun q h => ⟨h.1, hF_μ26.trans h.2⟩)
set_option maxHeartbeats 4000000 in
set_option maxRecDepth 100000 in
theorem k_X10_shapeCall (a1 : Int32) (a2 : Int32) (μ : Mem) (hI_μ : IX μ) : ok (p_X10_shapeCall a1 a2 μ) (fun q => IX q ∧ Fr [(0, 30, 7), (0, 39, 4), (2, 1, 2), (2, 1, 3)] false μ q) := by
  have li0 : (0 : Int32).toInt = 0 := by decide
  have li1 : (1 : Int32).toInt = 1 := by decide
  have hF_μ : Fr [(0, 30, 7), (0, 39, 4), (2, 1, 2), (2, 1, 3)] false μ μ := Fr.rf
  have hr_μ : μ.2.2 = μ.2.2 := rfl
  rw [p_X10_shapeCall_eq]
  have lo_a1 := ti_lo a1
  have hi_a1 := ti_hi a1
  have lo_a2 := ti_lo a2
  have hi_a2 := ti_hi a2
  refine ok_bw (k_X2_begin (sel 1 (μ.2.2 137 14)) (sel_1 _) a1 μ hI_μ) ?_
  rintro μ1 ⟨hI_μ1, hC_μ1⟩
  have hF_μ1 : Fr [(0, 30, 7), (0, 39, 4), (2, 1, 2), (2, 1, 3)] false μ μ1 := hF_μ.trans (hC_μ1.mono (by decide +kernel) (by decide))
  have hr_μ1 : μ1.2.2 = μ.2.2 := (hC_μ1.2 rfl : μ1.2.2 = μ.2.2).trans hr_μ
  try rw [hr_μ1]
  refine ok_bv (fun v3 ev3 => ?_)
  first | have tv3 : v3.toInt = (a2.toInt - 1) := (congrArg Int32.toInt ev3).trans (TI.e (n := (a2.toInt - 1)) (TI.sub TI.rf (TI.lit (by decide)) (by omega) (by omega))) | skip
  obtain ⟨fu, hfu0, hfu⟩ := fuel_ex
  rw [hfu0]
  exact ok_mono (k_X10_shapeCall_b12  fu a1 a2 v3 μ1 hI_μ1 (by (try simp only [hr_μ1]); omega)) (fun q h => ⟨h.1, hF_μ1.trans h.2⟩)

set_option maxHeartbeats 4000000 in
set_option maxRecDepth 100000 in
theorem k_X2_isSame_b26 : ∀ (n : Nat) (a0 : Nat) (q0 : sh 0 a0 = (0, 1)) (a1 : Nat) (q1 : sh 0 a1 = (0, 1)) (a2 : Int32) (μ : Mem), IX μ → (0 ≤ (a2).toInt ∧ 2147483648 - (a2).toInt < n) → ok (p_X2_isSame_b26 n a0 a1 a2 μ) (fun q => IX q.2 ∧ Fr [] true μ q.2 ∧ ((q.1).toInt = 0 ∨ (q.1).toInt = 1)) := by
  have li0 : (0 : Int32).toInt = 0 := by decide
  have li1 : (1 : Int32).toInt = 1 := by decide
  intro n
  induction n with
  | zero => intro a0 q0 a1 q1 a2 μ hI_μ hc; exact absurd hc (by have lo_a2 := ti_lo a2; have hi_a2 := ti_hi a2; omega)
  | succ n ih =>
    intro a0 q0 a1 q1 a2 μ hI_μ hc
    have hF_μ : Fr [] true μ μ := Fr.rf
    have hr_μ : μ.2.2 = μ.2.2 := rfl
    rw [p_X2_isSame_b26_s]
    have lo_a2 := ti_lo a2
    have hi_a2 := ti_hi a2
    have g7 := rgp q0 hI_μ
    refine ok_ite ?_ ?_
    · intro c8
      rw [ti_le] at c8
      exact ok_some ⟨hI_μ, hF_μ, by dsimp only; (try simp only [hr_μ]); omega⟩
    · intro c8
      rw [ti_le] at c8
      have g9 := rgp q1 hI_μ
      refine ok_ite ?_ ?_
      · intro c10
        rw [ti_le] at c10
        exact ok_some ⟨hI_μ, hF_μ, by dsimp only; (try simp only [hr_μ]); omega⟩
      · intro c10
        rw [ti_le] at c10
        refine ok_gd (inb_iff.mpr (by omega)) ?_
        refine ok_gd (inb_iff.mpr (by omega)) ?_
        refine ok_ite ?_ ?_
        · intro c11
          rw [ti_eq] at c11
          refine ok_bv (fun v12 ev12 => ?_)
          first | have tv12 : v12.toInt = (a2.toInt + 1) := (congrArg Int32.toInt ev12).trans (TI.e (n := (a2.toInt + 1)) (TI.add TI.rf (TI.lit (by decide)) (by omega) (by omega))) | have tv12 : v12.toInt ≤ a2.toInt + 1 := by rw [ev12]; exact ti_inc _ | skip
          exact ok_mono (ih a0 q0 a1 q1 v12 μ hI_μ (by omega)) (fun q h => ⟨h.1, hF_μ.trans h.2.1, h.2.2⟩)
        · intro c11
          rw [ti_eq] at c11
          exact ok_some ⟨hI_μ, hF_μ, by dsimp only; (try simp only [hr_μ]); omega⟩
set_option maxHeartbeats 4000000 in
set_option maxRecDepth 100000 in
theorem k_X2_isSame (a0 : Nat) (q0 : sh 0 a0 = (0, 1)) (a1 : Nat) (q1 : sh 0 a1 = (0, 1)) (μ : Mem) (hI_μ : IX μ) : ok (p_X2_isSame a0 a1 μ) (fun q => IX q.2 ∧ Fr [] true μ q.2 ∧ ((q.1).toInt = 0 ∨ (q.1).toInt = 1)) := by
  have li0 : (0 : Int32).toInt = 0 := by decide
  have li1 : (1 : Int32).toInt = 1 := by decide
  have hF_μ : Fr [] true μ μ := Fr.rf
  have hr_μ : μ.2.2 = μ.2.2 := rfl
  rw [p_X2_isSame_eq]
  have g1 := ti_lo (μ.1 a0 3)
  have g1h := ti_hi (μ.1 a0 3)
  have g2 := ti_lo (μ.1 a1 3)
  have g2h := ti_hi (μ.1 a1 3)
  refine ok_ite ?_ ?_
  · intro c3
    rw [ti_eq] at c3
    have g4 := rgp q0 hI_μ
    have g5 := rgp q1 hI_μ
    refine ok_ite ?_ ?_
    · intro c6
      rw [ti_eq] at c6
      obtain ⟨fu, hfu0, hfu⟩ := fuel_ex
      rw [hfu0]
      exact ok_mono (k_X2_isSame_b26  fu a0 q0 a1 q1 (0 : Int32) μ hI_μ (by omega)) (fun q h => ⟨h.1, hF_μ.trans h.2.1, h.2.2⟩)
    · intro c6
      rw [ti_eq] at c6
      exact ok_some ⟨hI_μ, hF_μ, by dsimp only; (try simp only [hr_μ]); omega⟩
  · intro c3
    rw [ti_eq] at c3
    exact ok_some ⟨hI_μ, hF_μ, by dsimp only; (try simp only [hr_μ]); omega⟩

set_option maxHeartbeats 4000000 in
set_option maxRecDepth 100000 in
theorem k_X5_find_b2 : ∀ (n : Nat) (a1 : Nat) (q1 : sh 0 a1 = (0, 1)) (a2 : Int32) (μ : Mem), IX μ → (0 ≤ (a2).toInt ∧ (a2).toInt ≤ 24 ∧ 24 - (a2).toInt < n) → ok (p_X5_find_b2 n a1 a2 μ) (fun q => IX q.2 ∧ Fr [] true μ q.2) := by
  have lim1 : (-1 : Int32).toInt = -1 := by decide
  have li0 : (0 : Int32).toInt = 0 := by decide
  have li1 : (1 : Int32).toInt = 1 := by decide
  have li24 : (24 : Int32).toInt = 24 := by decide
  intro n
  induction n with
  | zero => intro a1 q1 a2 μ hI_μ hc; exact absurd hc (by have lo_a2 := ti_lo a2; have hi_a2 := ti_hi a2; omega)
  | succ n ih =>
    intro a1 q1 a2 μ hI_μ hc
    have hF_μ : Fr [] true μ μ := Fr.rf
    have hr_μ : μ.2.2 = μ.2.2 := rfl
    rw [p_X5_find_b2_s]
    have lo_a2 := ti_lo a2
    have hi_a2 := ti_hi a2
    have g1 := rg_39_2 hI_μ
    refine ok_ite ?_ ?_
    · intro c2
      rw [ti_le] at c2
      exact ok_some ⟨hI_μ, hF_μ⟩
    · intro c2
      rw [ti_le] at c2
      refine ok_ite ?_ ?_
      · intro c3
        rw [ti_le] at c3
        exact ok_some ⟨hI_μ, hF_μ⟩
      · intro c3
        rw [ti_le] at c3
        refine ok_gd (inb_iff.mpr (by omega)) ?_
        refine ok_bd (k_X2_isSame (ptc a2.toNatClampNeg) (ptc_ok _) a1 q1 μ hI_μ) ?_
        rintro r5 μ4 ⟨hI_μ4, hC_μ4, p_μ4⟩
        have hI_μ4 : IX μ4 := hI_μ4
        have hC_μ4 : Fr [] true μ μ4 := hC_μ4
        dsimp only at p_μ4
        have lo_r5 := ti_lo r5
        have hi_r5 := ti_hi r5
        have hF_μ4 : Fr [] true μ μ4 := hF_μ.trans (hC_μ4.mono (by decide +kernel) (by decide))
        have hr_μ4 : μ4.2.2 = μ.2.2 := (hC_μ4.2 rfl : μ4.2.2 = μ.2.2).trans hr_μ
        refine ok_ite ?_ ?_
        · intro c6
          rw [ti_eq] at c6
          refine ok_bv (fun v7 ev7 => ?_)
          first | have tv7 : v7.toInt = (a2.toInt + 1) := (congrArg Int32.toInt ev7).trans (TI.e (n := (a2.toInt + 1)) (TI.add TI.rf (TI.lit (by decide)) (by omega) (by omega))) | have tv7 : v7.toInt ≤ a2.toInt + 1 := by rw [ev7]; exact ti_inc _ | skip
          exact ok_mono (ih a1 q1 v7 μ4 hI_μ4 (by (try simp only [hr_μ4]); omega)) (fun q h => ⟨h.1, hF_μ4.trans h.2⟩)
        · intro c6
          rw [ti_eq] at c6
          exact ok_some ⟨hI_μ4, hF_μ4⟩
set_option maxHeartbeats 4000000 in
set_option maxRecDepth 100000 in
theorem k_X5_find (a1 : Nat) (q1 : sh 0 a1 = (0, 1)) (μ : Mem) (hI_μ : IX μ) : ok (p_X5_find a1 μ) (fun q => IX q.2 ∧ Fr [] true μ q.2) := by
  have li0 : (0 : Int32).toInt = 0 := by decide
  have li1 : (1 : Int32).toInt = 1 := by decide
  have hF_μ : Fr [] true μ μ := Fr.rf
  have hr_μ : μ.2.2 = μ.2.2 := rfl
  rw [p_X5_find_eq]
  obtain ⟨fu, hfu0, hfu⟩ := fuel_ex
  rw [hfu0]
  exact ok_mono (k_X5_find_b2  fu a1 q1 (0 : Int32) μ hI_μ (by omega)) (fun q h => ⟨h.1, hF_μ.trans h.2⟩)

set_option maxHeartbeats 4000000 in
set_option maxRecDepth 100000 in
theorem k_X5_variantsOf_b34 {n4 : Nat} (K4 : Int32 → Int32 → Int32 → Mem → Option (Int32 × Mem)) (hK4 : ∀ (z1 : Int32) (z2 : Int32) (z3 : Int32) (μ1 : Mem), IX μ1 → (0 ≤ (z3).toInt ∧ (z3).toInt ≤ 24 ∧ 24 - (z3).toInt < n4) → ok (K4 z1 z2 z3 μ1) (fun q => IX q.2 ∧ Fr [] true μ1 q.2)) (a1 : Int32) (a2 : Int32) (a3 : Int32) (μ : Mem) (hI_μ : IX μ) (hc : 0 ≤ (a3).toInt ∧ (a3).toInt < 24 ∧ 24 - (a3).toInt < n4 + 1) : ok (p_X5_variantsOf_b34 K4 a1 a2 a3 μ) (fun q => IX q.2 ∧ Fr [] true μ q.2) := by
  have li0 : (0 : Int32).toInt = 0 := by decide
  have li1 : (1 : Int32).toInt = 1 := by decide
  have hF_μ : Fr [] true μ μ := Fr.rf
  have hr_μ : μ.2.2 = μ.2.2 := rfl
  rw [p_X5_variantsOf_b34_eq]
  have lo_a1 := ti_lo a1
  have hi_a1 := ti_hi a1
  have lo_a2 := ti_lo a2
  have hi_a2 := ti_hi a2
  have lo_a3 := ti_lo a3
  have hi_a3 := ti_hi a3
  refine ok_bv (fun v7 ev7 => ?_)
  first | have tv7 : v7.toInt = (a3.toInt + 1) := (congrArg Int32.toInt ev7).trans (TI.e (n := (a3.toInt + 1)) (TI.add TI.rf (TI.lit (by decide)) (by omega) (by omega))) | have tv7 : v7.toInt ≤ a3.toInt + 1 := by rw [ev7]; exact ti_inc _ | skip
  exact ok_mono (hK4 a1 a2 v7 μ hI_μ (by omega)) (fun q h => ⟨h.1, hF_μ.trans h.2⟩)
set_option maxHeartbeats 4000000 in
set_option maxRecDepth 100000 in
theorem k_X5_variantsOf_b4 : ∀ (n : Nat) (a1 : Int32) (a2 : Int32) (a3 : Int32) (μ : Mem), IX μ → (0 ≤ (a3).toInt ∧ (a3).toInt ≤ 24 ∧ 24 - (a3).toInt < n) → ok (p_X5_variantsOf_b4 n a1 a2 a3 μ) (fun q => IX q.2 ∧ Fr [] true μ q.2) := by
  have li0 : (0 : Int32).toInt = 0 := by decide
  have li1 : (1 : Int32).toInt = 1 := by decide
  have li24 : (24 : Int32).toInt = 24 := by decide
  intro n
  induction n with
  | zero => intro a1 a2 a3 μ hI_μ hc; exact absurd hc (by have lo_a1 := ti_lo a1; have hi_a1 := ti_hi a1; have lo_a2 := ti_lo a2; have hi_a2 := ti_hi a2; have lo_a3 := ti_lo a3; have hi_a3 := ti_hi a3; omega)
  | succ n ih =>
    intro a1 a2 a3 μ hI_μ hc
    have hF_μ : Fr [] true μ μ := Fr.rf
    have hr_μ : μ.2.2 = μ.2.2 := rfl
    rw [p_X5_variantsOf_b4_s]
    have lo_a1 := ti_lo a1
    have hi_a1 := ti_hi a1
    have lo_a2 := ti_lo a2
    have hi_a2 := ti_hi a2
    have lo_a3 := ti_lo a3
    have hi_a3 := ti_hi a3
    have g1 := rg_39_2 hI_μ
    refine ok_ite ?_ ?_
    · intro c2
      rw [ti_le] at c2
      exact ok_some ⟨hI_μ, hF_μ⟩
    · intro c2
      rw [ti_le] at c2
      refine ok_ite ?_ ?_
      · intro c3
        rw [ti_le] at c3
        exact ok_some ⟨hI_μ, hF_μ⟩
      · intro c3
        rw [ti_le] at c3
        refine ok_gd (inb_iff.mpr (by omega)) ?_
        have g4 := ti_lo (μ.1 (ptc a3.toNatClampNeg) 3)
        have g4h := ti_hi (μ.1 (ptc a3.toNatClampNeg) 3)
        refine ok_ite ?_ ?_
        · intro c5
          rw [ti_eq] at c5
          refine ok_bv (fun v6 ev6 => ?_)
          first | have tv6 : v6.toInt = (a2.toInt + 1) := (congrArg Int32.toInt ev6).trans (TI.e (n := (a2.toInt + 1)) (TI.add TI.rf (TI.lit (by decide)) (by omega) (by omega))) | have tv6 : v6.toInt ≤ a2.toInt + 1 := by rw [ev6]; exact ti_inc _ | skip
          exact ok_mono (k_X5_variantsOf_b34 _ ih a1 v6 a3 μ hI_μ (by omega)) (fun q h => ⟨h.1, hF_μ.trans h.2⟩)
        · intro c5
          rw [ti_eq] at c5
          exact ok_mono (k_X5_variantsOf_b34 _ ih a1 a2 a3 μ hI_μ (by omega)) (fun q h => ⟨h.1, hF_μ.trans h.2⟩)
set_option maxHeartbeats 4000000 in
set_option maxRecDepth 100000 in
theorem k_X5_variantsOf (a1 : Int32) (μ : Mem) (hI_μ : IX μ) : ok (p_X5_variantsOf a1 μ) (fun q => IX q.2 ∧ Fr [] true μ q.2) := by
  have li0 : (0 : Int32).toInt = 0 := by decide
  have li1 : (1 : Int32).toInt = 1 := by decide
  have hF_μ : Fr [] true μ μ := Fr.rf
  have hr_μ : μ.2.2 = μ.2.2 := rfl
  rw [p_X5_variantsOf_eq]
  have lo_a1 := ti_lo a1
  have hi_a1 := ti_hi a1
  obtain ⟨fu, hfu0, hfu⟩ := fuel_ex
  rw [hfu0]
  exact ok_mono (k_X5_variantsOf_b4  fu a1 (0 : Int32) (0 : Int32) μ hI_μ (by omega)) (fun q h => ⟨h.1, hF_μ.trans h.2⟩)

set_option maxHeartbeats 4000000 in
set_option maxRecDepth 100000 in
theorem k_X10_isTooMuch (a1 : Int32) (μ : Mem) (hI_μ : IX μ) : ok (p_X10_isTooMuch a1 μ) (fun q => IX q.2 ∧ Fr [] true μ q.2 ∧ ((q.1).toInt = 0 ∨ (q.1).toInt = 1)) := by
  have li0 : (0 : Int32).toInt = 0 := by decide
  have li1 : (1 : Int32).toInt = 1 := by decide
  have li8 : (8 : Int32).toInt = 8 := by decide
  have hF_μ : Fr [] true μ μ := Fr.rf
  have hr_μ : μ.2.2 = μ.2.2 := rfl
  rw [p_X10_isTooMuch_eq]
  have lo_a1 := ti_lo a1
  have hi_a1 := ti_hi a1
  refine ok_bd (k_X5_variantsOf a1 μ hI_μ) ?_
  rintro r2 μ1 ⟨hI_μ1, hC_μ1⟩
  have hI_μ1 : IX μ1 := hI_μ1
  have hC_μ1 : Fr [] true μ μ1 := hC_μ1
  have lo_r2 := ti_lo r2
  have hi_r2 := ti_hi r2
  have hF_μ1 : Fr [] true μ μ1 := hF_μ.trans (hC_μ1.mono (by decide +kernel) (by decide))
  have hr_μ1 : μ1.2.2 = μ.2.2 := (hC_μ1.2 rfl : μ1.2.2 = μ.2.2).trans hr_μ
  try rw [hr_μ1]
  have g3 := ti_lo (μ1.1 137 1)
  have g3h := ti_hi (μ1.1 137 1)
  refine ok_ite ?_ ?_
  · intro c4
    rw [ti_le] at c4
    exact ok_some ⟨hI_μ1, hF_μ1, by dsimp only; (try simp only [hr_μ1]); omega⟩
  · intro c4
    rw [ti_le] at c4
    have g5 := rg_39_1 hI_μ1
    have g6 := ti_lo (μ1.1 137 2)
    have g6h := ti_hi (μ1.1 137 2)
    refine ok_ite ?_ ?_
    · intro c7
      rw [ti_le] at c7
      exact ok_some ⟨hI_μ1, hF_μ1, by dsimp only; (try simp only [hr_μ1]); omega⟩
    · intro c7
      rw [ti_le] at c7
      refine ok_bd (k_X2_stars (sel 1 (μ.2.2 137 14)) (sel_1 _) μ1 hI_μ1) ?_
      rintro r9 μ8 ⟨hI_μ8, hC_μ8⟩
      have hI_μ8 : IX μ8 := hI_μ8
      have hC_μ8 : Fr [] true μ1 μ8 := hC_μ8
      have lo_r9 := ti_lo r9
      have hi_r9 := ti_hi r9
      have hF_μ8 : Fr [] true μ μ8 := hF_μ1.trans (hC_μ8.mono (by decide +kernel) (by decide))
      have hr_μ8 : μ8.2.2 = μ.2.2 := (hC_μ8.2 rfl : μ8.2.2 = μ1.2.2).trans hr_μ1
      try rw [hr_μ8]
      refine ok_ite ?_ ?_
      · intro c10
        rw [ti_le] at c10
        exact ok_some ⟨hI_μ8, hF_μ8, by dsimp only; (try simp only [hr_μ8]); omega⟩
      · intro c10
        rw [ti_le] at c10
        exact ok_some ⟨hI_μ8, hF_μ8, by dsimp only; (try simp only [hr_μ8]); omega⟩

set_option maxHeartbeats 4000000 in
set_option maxRecDepth 100000 in
theorem k_X2_letAllGo_b10 : ∀ (n : Nat) (a0 : Nat) (q0 : sh 0 a0 = (0, 1)) (a1 : Nat) (q1 : sh 0 a1 = (0, 1)) (a2 : Int32) (μ : Mem), IX μ → (0 ≤ (a2).toInt ∧ 2147483648 - (a2).toInt < n) → ok (p_X2_letAllGo_b10 n a0 a1 a2 μ) (fun q => IX q ∧ Fr [(2, 1, 2), (2, 1, 3)] true μ q) := by
  have li0 : (0 : Int32).toInt = 0 := by decide
  have li1 : (1 : Int32).toInt = 1 := by decide
  intro n
  induction n with
  | zero => intro a0 q0 a1 q1 a2 μ hI_μ hc; exact absurd hc (by have lo_a2 := ti_lo a2; have hi_a2 := ti_hi a2; omega)
  | succ n ih =>
    intro a0 q0 a1 q1 a2 μ hI_μ hc
    have hF_μ : Fr [(2, 1, 2), (2, 1, 3)] true μ μ := Fr.rf
    have hr_μ : μ.2.2 = μ.2.2 := rfl
    rw [p_X2_letAllGo_b10_s]
    have lo_a2 := ti_lo a2
    have hi_a2 := ti_hi a2
    have g4 := rgp q0 hI_μ
    refine ok_ite ?_ ?_
    · intro c5
      rw [ti_le] at c5
      exact ok_some ⟨hI_μ, hF_μ⟩
    · intro c5
      rw [ti_le] at c5
      have l6 := pl_eq q0
      refine ok_gd (inb_iff.mpr (by omega)) ?_
      refine ok_bw (k_X2_add a1 q1 (17179869184 : Int64) (μ.2.1 (a0 + 2) a2.toNatClampNeg) μ hI_μ) ?_
      rintro μ7 ⟨hI_μ7, hC_μ7⟩
      have hF_μ7 : Fr [(2, 1, 2), (2, 1, 3)] true μ μ7 := hF_μ.trans (hC_μ7.mono (by decide +kernel) (by decide))
      have hr_μ7 : μ7.2.2 = μ.2.2 := (hC_μ7.2 rfl : μ7.2.2 = μ.2.2).trans hr_μ
      refine ok_bd (k_X2_behind a0 q0 a2 μ7 hI_μ7) ?_
      rintro r10 μ9 ⟨hI_μ9, hC_μ9, p_μ9⟩
      have hI_μ9 : IX μ9 := hI_μ9
      have hC_μ9 : Fr [] true μ7 μ9 := hC_μ9
      dsimp only at p_μ9
      have lo_r10 := ti_lo r10
      have hi_r10 := ti_hi r10
      have hF_μ9 : Fr [(2, 1, 2), (2, 1, 3)] true μ μ9 := hF_μ7.trans (hC_μ9.mono (by decide +kernel) (by decide))
      have hr_μ9 : μ9.2.2 = μ.2.2 := (hC_μ9.2 rfl : μ9.2.2 = μ7.2.2).trans hr_μ7
      refine ok_bv (fun v11 ev11 => ?_)
      first | have tv11 : v11.toInt = (max r10.toInt (a2.toInt + 1)) := (congrArg Int32.toInt ev11).trans (TI.e (n := (max r10.toInt (a2.toInt + 1))) (TI.max TI.rf (TI.add TI.rf (TI.lit (by decide)) (by omega) (by omega)))) | skip
      exact ok_mono (ih a0 q0 a1 q1 v11 μ9 hI_μ9 (by (try simp only [hr_μ9]); omega)) (fun q h => ⟨h.1, hF_μ9.trans h.2⟩)
set_option maxHeartbeats 4000000 in
set_option maxRecDepth 100000 in
theorem k_X2_letAllGo (a0 : Nat) (q0 : sh 0 a0 = (0, 1)) (a1 : Nat) (q1 : sh 0 a1 = (0, 1)) (μ : Mem) (hI_μ : IX μ) : ok (p_X2_letAllGo a0 a1 μ) (fun q => IX q ∧ Fr [(2, 1, 2), (2, 1, 3)] true μ q) := by
  have li0 : (0 : Int32).toInt = 0 := by decide
  have li1 : (1 : Int32).toInt = 1 := by decide
  have hF_μ : Fr [(2, 1, 2), (2, 1, 3)] true μ μ := Fr.rf
  have hr_μ : μ.2.2 = μ.2.2 := rfl
  rw [p_X2_letAllGo_eq]
  have g1 := ti_lo (μ.1 a0 3)
  have g1h := ti_hi (μ.1 a0 3)
  refine ok_bw (k_X2_begin a1 q1 (μ.1 a0 3) μ hI_μ) ?_
  rintro μ2 ⟨hI_μ2, hC_μ2⟩
  have hF_μ2 : Fr [(2, 1, 2), (2, 1, 3)] true μ μ2 := hF_μ.trans (hC_μ2.mono (by decide +kernel) (by decide))
  have hr_μ2 : μ2.2.2 = μ.2.2 := (hC_μ2.2 rfl : μ2.2.2 = μ.2.2).trans hr_μ
  obtain ⟨fu, hfu0, hfu⟩ := fuel_ex
  rw [hfu0]
  exact ok_mono (k_X2_letAllGo_b10  fu a0 q0 a1 q1 (0 : Int32) μ2 hI_μ2 (by (try simp only [hr_μ2]); omega)) (fun q h => ⟨h.1, hF_μ2.trans h.2⟩)

set_option maxHeartbeats 4000000 in
set_option maxRecDepth 100000 in
theorem k_X10_leaveCallTo_b113 : ∀ (n : Nat) (a1 : Int32) (a2 : Int32) (a3 : Int64) (a5 : Int32) (a6 : Int32) (μ : Mem), IX μ → (0 ≤ (a6).toInt ∧ 0 ≤ (a2).toInt ∧ (a2).toInt ≤ 8 ∧ 2147483648 - (a6).toInt < n) → ok (p_X10_leaveCallTo_b113 n a1 a2 a3 a5 a6 μ) (fun q => IX q ∧ Fr [(0, 30, 7), (0, 39, 1), (0, 137, 6), (1, 40, 0), (1, 42, 0), (1, 43, 0), (1, 45, 0)] true μ q) := by
  have li0 : (0 : Int32).toInt = 0 := by decide
  have li1 : (1 : Int32).toInt = 1 := by decide
  have li2 : (2 : Int32).toInt = 2 := by decide
  intro n
  induction n with
  | zero => intro a1 a2 a3 a5 a6 μ hI_μ hc; exact absurd hc (by have lo_a1 := ti_lo a1; have hi_a1 := ti_hi a1; have lo_a2 := ti_lo a2; have hi_a2 := ti_hi a2; have lo_a5 := ti_lo a5; have hi_a5 := ti_hi a5; have lo_a6 := ti_lo a6; have hi_a6 := ti_hi a6; omega)
  | succ n ih =>
    intro a1 a2 a3 a5 a6 μ hI_μ hc
    have hF_μ : Fr [(0, 30, 7), (0, 39, 1), (0, 137, 6), (1, 40, 0), (1, 42, 0), (1, 43, 0), (1, 45, 0)] true μ μ := Fr.rf
    have hr_μ : μ.2.2 = μ.2.2 := rfl
    rw [p_X10_leaveCallTo_b113_s]
    have lo_a1 := ti_lo a1
    have hi_a1 := ti_hi a1
    have lo_a2 := ti_lo a2
    have hi_a2 := ti_hi a2
    have lo_a5 := ti_lo a5
    have hi_a5 := ti_hi a5
    have lo_a6 := ti_lo a6
    have hi_a6 := ti_hi a6
    refine ok_ite ?_ ?_
    · intro c11
      rw [ti_le] at c11
      refine ok_bd (k_X5_ofVariant a1 (1 : Int32) μ hI_μ (by omega)) ?_
      rintro r13 μ12 ⟨hI_μ12, hC_μ12⟩
      have hI_μ12 : IX μ12 := hI_μ12
      have hC_μ12 : Fr [] true μ μ12 := hC_μ12
      have lo_r13 := ti_lo r13
      have hi_r13 := ti_hi r13
      have hF_μ12 : Fr [(0, 30, 7), (0, 39, 1), (0, 137, 6), (1, 40, 0), (1, 42, 0), (1, 43, 0), (1, 45, 0)] true μ μ12 := hF_μ.trans (hC_μ12.mono (by decide +kernel) (by decide))
      have hr_μ12 : μ12.2.2 = μ.2.2 := (hC_μ12.2 rfl : μ12.2.2 = μ.2.2).trans hr_μ
      try rw [hr_μ12]
      refine ok_bw (k_X5_setVariant a1 (1 : Int32) (r13 + (1 : Int32)) μ12 hI_μ12 (by (try simp only [hr_μ12]); (try rw [TI.e (e := (r13 + (1 : Int32))) (n := (r13.toInt + 1)) (TI.add TI.rf (TI.lit (by decide)) (by omega) (by omega))]); omega)) ?_
      rintro μ14 ⟨hI_μ14, hC_μ14⟩
      have hF_μ14 : Fr [(0, 30, 7), (0, 39, 1), (0, 137, 6), (1, 40, 0), (1, 42, 0), (1, 43, 0), (1, 45, 0)] true μ μ14 := hF_μ12.trans (hC_μ14.mono (by decide +kernel) (by decide))
      have hr_μ14 : μ14.2.2 = μ.2.2 := (hC_μ14.2 rfl : μ14.2.2 = μ12.2.2).trans hr_μ12
      try rw [hr_μ14]
      refine ok_bw (k_X8_push a3 μ14 hI_μ14) ?_
      rintro μ16 ⟨hI_μ16, hC_μ16⟩
      have hF_μ16 : Fr [(0, 30, 7), (0, 39, 1), (0, 137, 6), (1, 40, 0), (1, 42, 0), (1, 43, 0), (1, 45, 0)] true μ μ16 := hF_μ14.trans (hC_μ16.mono (by decide +kernel) (by decide))
      have hr_μ16 : μ16.2.2 = μ.2.2 := (hC_μ16.2 rfl : μ16.2.2 = μ14.2.2).trans hr_μ14
      try rw [hr_μ16]
      exact ok_some ⟨hI_μ16, hF_μ16⟩
    · intro c11
      rw [ti_le] at c11
      refine ok_gd (inb_iff.mpr (by omega)) ?_
      refine ok_bw (k_X5_setOperand a5 ((2 : Int32) + a6) (μ.2.1 141 a6.toNatClampNeg) μ hI_μ) ?_
      rintro μ18 ⟨hI_μ18, hC_μ18⟩
      have hF_μ18 : Fr [(0, 30, 7), (0, 39, 1), (0, 137, 6), (1, 40, 0), (1, 42, 0), (1, 43, 0), (1, 45, 0)] true μ μ18 := hF_μ.trans (hC_μ18.mono (by decide +kernel) (by decide))
      have hr_μ18 : μ18.2.2 = μ.2.2 := (hC_μ18.2 rfl : μ18.2.2 = μ.2.2).trans hr_μ
      try rw [hr_μ18]
      refine ok_bv (fun v20 ev20 => ?_)
      first | have tv20 : v20.toInt = (a6.toInt + 1) := (congrArg Int32.toInt ev20).trans (TI.e (n := (a6.toInt + 1)) (TI.add TI.rf (TI.lit (by decide)) (by omega) (by omega))) | have tv20 : v20.toInt ≤ a6.toInt + 1 := by rw [ev20]; exact ti_inc _ | skip
      exact ok_mono (ih a1 a2 a3 a5 v20 μ18 hI_μ18 (by (try simp only [hr_μ18]); omega)) (fun q h => ⟨h.1, hF_μ18.trans h.2⟩)
set_option maxHeartbeats 4000000 in
set_option maxRecDepth 100000 in
theorem k_X10_leaveCallTo_b69 (a1 : Int32) (a2 : Int32) (μ : Mem) (hI_μ : IX μ) (hc : 0 ≤ (a2).toInt ∧ (a2).toInt ≤ 8) : ok (p_X10_leaveCallTo_b69 a1 a2 μ) (fun q => IX q ∧ Fr [(0, 30, 7), (0, 39, 1), (0, 137, 6), (1, 40, 0), (1, 42, 0), (1, 43, 0), (1, 45, 0)] true μ q) := by
  have li0 : (0 : Int32).toInt = 0 := by decide
  have li1 : (1 : Int32).toInt = 1 := by decide
  have li7 : (7 : Int32).toInt = 7 := by decide
  have li11 : (11 : Int32).toInt = 11 := by decide
  have hF_μ : Fr [(0, 30, 7), (0, 39, 1), (0, 137, 6), (1, 40, 0), (1, 42, 0), (1, 43, 0), (1, 45, 0)] true μ μ := Fr.rf
  have hr_μ : μ.2.2 = μ.2.2 := rfl
  rw [p_X10_leaveCallTo_b69_eq]
  have lo_a1 := ti_lo a1
  have hi_a1 := ti_hi a1
  have lo_a2 := ti_lo a2
  have hi_a2 := ti_hi a2
  refine ok_bd (k_X10_leave (11 : Int32) a1 (0 : Int64) (0 : Int64) μ hI_μ) ?_
  rintro r4 μ3 ⟨hI_μ3, hC_μ3⟩
  have hI_μ3 : IX μ3 := hI_μ3
  have hC_μ3 : Fr [(0, 39, 1), (0, 137, 6), (1, 40, 0), (1, 42, 0), (1, 43, 0), (1, 45, 0)] true μ μ3 := hC_μ3
  have hF_μ3 : Fr [(0, 30, 7), (0, 39, 1), (0, 137, 6), (1, 40, 0), (1, 42, 0), (1, 43, 0), (1, 45, 0)] true μ μ3 := hF_μ.trans (hC_μ3.mono (by decide +kernel) (by decide))
  have hr_μ3 : μ3.2.2 = μ.2.2 := (hC_μ3.2 rfl : μ3.2.2 = μ.2.2).trans hr_μ
  try rw [hr_μ3]
  have g5 := ti_lo (μ3.1 137 6)
  have g5h := ti_hi (μ3.1 137 6)
  refine ok_ite ?_ ?_
  · intro c6
    rw [ti_eq] at c6
    have g7 := rg_39_1 hI_μ3
    refine ok_bv (fun v8 ev8 => ?_)
    first | have tv8 : v8.toInt = ((μ3.1 39 1).toInt - 1) := (congrArg Int32.toInt ev8).trans (TI.e (n := ((μ3.1 39 1).toInt - 1)) (TI.sub TI.rf (TI.lit (by decide)) (by omega) (by omega))) | skip
    refine ok_bw (k_X5_setCell v8 (7 : Int32) a2 μ3 hI_μ3 (by (try simp only [hr_μ3]); omega)) ?_
    rintro μ9 ⟨hI_μ9, hC_μ9⟩
    have hF_μ9 : Fr [(0, 30, 7), (0, 39, 1), (0, 137, 6), (1, 40, 0), (1, 42, 0), (1, 43, 0), (1, 45, 0)] true μ μ9 := hF_μ3.trans (hC_μ9.mono (by decide +kernel) (by decide))
    have hr_μ9 : μ9.2.2 = μ.2.2 := (hC_μ9.2 rfl : μ9.2.2 = μ3.2.2).trans hr_μ3
    try rw [hr_μ9]
    obtain ⟨fu, hfu0, hfu⟩ := fuel_ex
    rw [hfu0]
    exact ok_mono (k_X10_leaveCallTo_b113  fu a1 a2 r4 v8 (0 : Int32) μ9 hI_μ9 (by (try simp only [hr_μ9]); omega)) (fun q h => ⟨h.1, hF_μ9.trans h.2⟩)
  · intro c6
    rw [ti_eq] at c6
    exact ok_some ⟨hI_μ3, hF_μ3⟩
set_option maxHeartbeats 4000000 in
set_option maxRecDepth 100000 in
theorem k_X10_leaveCallTo_b63 {n4 : Nat} (K4 : Int32 → Int32 → Int32 → Mem → Option Mem) (hK4 : ∀ (z1 : Int32) (z2 : Int32) (z3 : Int32) (μ1 : Mem), IX μ1 → (0 ≤ (z2).toInt ∧ (z2).toInt ≤ 8 ∧ 0 ≤ (z3).toInt ∧ 2147483648 - (z3).toInt < n4) → ok (K4 z1 z2 z3 μ1) (fun q => IX q ∧ Fr [(0, 30, 7), (0, 39, 1), (0, 137, 6), (1, 40, 0), (1, 42, 0), (1, 43, 0), (1, 45, 0)] true μ1 q)) (a1 : Int32) (a2 : Int32) (a3 : Int32) (μ : Mem) (hI_μ : IX μ) (hc : 0 ≤ (a2).toInt ∧ (a2).toInt ≤ 8 ∧ 0 ≤ (a3).toInt ∧ (a3).toInt < 200 ∧ 2147483648 - (a3).toInt < n4 + 1) : ok (p_X10_leaveCallTo_b63 K4 a1 a2 a3 μ) (fun q => IX q ∧ Fr [(0, 30, 7), (0, 39, 1), (0, 137, 6), (1, 40, 0), (1, 42, 0), (1, 43, 0), (1, 45, 0)] true μ q) := by
  have li0 : (0 : Int32).toInt = 0 := by decide
  have li1 : (1 : Int32).toInt = 1 := by decide
  have hF_μ : Fr [(0, 30, 7), (0, 39, 1), (0, 137, 6), (1, 40, 0), (1, 42, 0), (1, 43, 0), (1, 45, 0)] true μ μ := Fr.rf
  have hr_μ : μ.2.2 = μ.2.2 := rfl
  rw [p_X10_leaveCallTo_b63_eq]
  have lo_a1 := ti_lo a1
  have hi_a1 := ti_hi a1
  have lo_a2 := ti_lo a2
  have hi_a2 := ti_hi a2
  have lo_a3 := ti_lo a3
  have hi_a3 := ti_hi a3
  refine ok_bv (fun v28 ev28 => ?_)
  first | have tv28 : v28.toInt = (a3.toInt + 1) := (congrArg Int32.toInt ev28).trans (TI.e (n := (a3.toInt + 1)) (TI.add TI.rf (TI.lit (by decide)) (by omega) (by omega))) | have tv28 : v28.toInt ≤ a3.toInt + 1 := by rw [ev28]; exact ti_inc _ | skip
  exact ok_mono (hK4 a1 a2 v28 μ hI_μ (by omega)) (fun q h => ⟨h.1, hF_μ.trans h.2⟩)
set_option maxHeartbeats 4000000 in
set_option maxRecDepth 100000 in
theorem k_X10_leaveCallTo_b4 : ∀ (n : Nat) (a1 : Int32) (a2 : Int32) (a3 : Int32) (μ : Mem), IX μ → (0 ≤ (a2).toInt ∧ (a2).toInt ≤ 8 ∧ 0 ≤ (a3).toInt ∧ 2147483648 - (a3).toInt < n) → ok (p_X10_leaveCallTo_b4 n a1 a2 a3 μ) (fun q => IX q ∧ Fr [(0, 30, 7), (0, 39, 1), (0, 137, 6), (1, 40, 0), (1, 42, 0), (1, 43, 0), (1, 45, 0)] true μ q) := by
  have li0 : (0 : Int32).toInt = 0 := by decide
  have li1 : (1 : Int32).toInt = 1 := by decide
  have li8 : (8 : Int32).toInt = 8 := by decide
  intro n
  induction n with
  | zero => intro a1 a2 a3 μ hI_μ hc; exact absurd hc (by have lo_a1 := ti_lo a1; have hi_a1 := ti_hi a1; have lo_a2 := ti_lo a2; have hi_a2 := ti_hi a2; have lo_a3 := ti_lo a3; have hi_a3 := ti_hi a3; omega)
  | succ n ih =>
    intro a1 a2 a3 μ hI_μ hc
    have hF_μ : Fr [(0, 30, 7), (0, 39, 1), (0, 137, 6), (1, 40, 0), (1, 42, 0), (1, 43, 0), (1, 45, 0)] true μ μ := Fr.rf
    have hr_μ : μ.2.2 = μ.2.2 := rfl
    rw [p_X10_leaveCallTo_b4_s]
    have lo_a1 := ti_lo a1
    have hi_a1 := ti_hi a1
    have lo_a2 := ti_lo a2
    have hi_a2 := ti_hi a2
    have lo_a3 := ti_lo a3
    have hi_a3 := ti_hi a3
    have g1 := rgp (sel_1 (μ.2.2 137 14)) hI_μ
    refine ok_ite ?_ ?_
    · intro c2
      rw [ti_le] at c2
      exact ok_mono (k_X10_leaveCallTo_b69  a1 a2 μ hI_μ (by omega)) (fun q h => ⟨h.1, hF_μ.trans h.2⟩)
    · intro c2
      rw [ti_le] at c2
      refine ok_ite ?_ ?_
      · intro c21
        rw [ti_le] at c21
        exact ok_mono (k_X10_leaveCallTo_b69  a1 a2 μ hI_μ (by omega)) (fun q h => ⟨h.1, hF_μ.trans h.2⟩)
      · intro c21
        rw [ti_le] at c21
        refine ok_gd (inb_iff.mpr (by omega)) ?_
        refine ok_ite ?_ ?_
        · intro c22
          rw [ti_eq] at c22
          have l23 := pl_eq (sel_1 (μ.2.2 137 14))
          refine ok_gd (inb_iff.mpr (by omega)) ?_
          refine ok_bd (kr_X10_lift 50 (μ.2.1 ((sel 1 (μ.2.2 137 14)) + 2) a3.toNatClampNeg) (0 : Int32) μ hI_μ (by omega)) ?_
          rintro r25 μ24 ⟨hI_μ24, hC_μ24⟩
          have hI_μ24 : IX μ24 := hI_μ24
          have hC_μ24 : Fr [(0, 39, 1), (0, 137, 6), (1, 40, 0), (1, 42, 0), (1, 43, 0), (1, 45, 0)] true μ μ24 := hC_μ24
          have hF_μ24 : Fr [(0, 30, 7), (0, 39, 1), (0, 137, 6), (1, 40, 0), (1, 42, 0), (1, 43, 0), (1, 45, 0)] true μ μ24 := hF_μ.trans (hC_μ24.mono (by decide +kernel) (by decide))
          have hr_μ24 : μ24.2.2 = μ.2.2 := (hC_μ24.2 rfl : μ24.2.2 = μ.2.2).trans hr_μ
          try rw [hr_μ24]
          refine ok_gd (inb_iff.mpr (by omega)) ?_
          refine ok_bv (fun μ26 e_μ26 => ?_)
          have hI_μ26 : IX μ26 := by rw [e_μ26]; exact IX_L hI_μ24
          have hF_μ26 : Fr [(0, 30, 7), (0, 39, 1), (0, 137, 6), (1, 40, 0), (1, 42, 0), (1, 43, 0), (1, 45, 0)] true μ μ26 := by rw [e_μ26]; exact hF_μ24
          have hr_μ26 : μ26.2.2 = μ.2.2 := (by rw [e_μ26]; rfl : μ26.2.2 = μ24.2.2).trans hr_μ24
          try rw [hr_μ26]
          refine ok_bv (fun v27 ev27 => ?_)
          first | have tv27 : v27.toInt = (a2.toInt + 1) := (congrArg Int32.toInt ev27).trans (TI.e (n := (a2.toInt + 1)) (TI.add TI.rf (TI.lit (by decide)) (by omega) (by omega))) | have tv27 : v27.toInt ≤ a2.toInt + 1 := by rw [ev27]; exact ti_inc _ | skip
          exact ok_mono (k_X10_leaveCallTo_b63 _ ih a1 v27 a3 μ26 hI_μ26 (by (try simp only [hr_μ26]); omega)) (fun q h => ⟨h.1, hF_μ26.trans h.2⟩)
        · intro c22
          rw [ti_eq] at c22
          exact ok_mono (k_X10_leaveCallTo_b63 _ ih a1 a2 a3 μ hI_μ (by omega)) (fun q h => ⟨h.1, hF_μ.trans h.2⟩)
set_option maxHeartbeats 4000000 in
set_option maxRecDepth 100000 in
theorem k_X10_leaveCallTo (a1 : Int32) (μ : Mem) (hI_μ : IX μ) : ok (p_X10_leaveCallTo a1 μ) (fun q => IX q ∧ Fr [(0, 30, 7), (0, 39, 1), (0, 137, 6), (1, 40, 0), (1, 42, 0), (1, 43, 0), (1, 45, 0)] true μ q) := by
  have li0 : (0 : Int32).toInt = 0 := by decide
  have li1 : (1 : Int32).toInt = 1 := by decide
  have hF_μ : Fr [(0, 30, 7), (0, 39, 1), (0, 137, 6), (1, 40, 0), (1, 42, 0), (1, 43, 0), (1, 45, 0)] true μ μ := Fr.rf
  have hr_μ : μ.2.2 = μ.2.2 := rfl
  rw [p_X10_leaveCallTo_eq]
  have lo_a1 := ti_lo a1
  have hi_a1 := ti_hi a1
  obtain ⟨fu, hfu0, hfu⟩ := fuel_ex
  rw [hfu0]
  exact ok_mono (k_X10_leaveCallTo_b4  fu a1 (0 : Int32) (0 : Int32) μ hI_μ (by omega)) (fun q h => ⟨h.1, hF_μ.trans h.2⟩)
