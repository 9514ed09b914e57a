set_option maxHeartbeats 4000000 in
set_option maxRecDepth 100000 in
theorem k_X3_count_b35 (a0 : Nat) (q0 : sh 0 a0 = (0, 2)) (a1 : Int32) (μ : Mem) (hI_μ : IX μ) (hc : 1 ≤ (μ.1 a0 0).toInt ∧ 0 ≤ (a1).toInt ∧ (a1).toInt < 6) : ok (p_X3_count_b35 a0 a1 μ) (fun q => IX q.2 ∧ Fr [(2, 2, 1), (3, 2, 1)] true μ q.2) := by
  have li0 : (0 : Int32).toInt = 0 := by decide
  have li1 : (1 : Int32).toInt = 1 := by decide
  have li6 : (6 : Int32).toInt = 6 := by decide
  have hF_μ : Fr [(2, 2, 1), (3, 2, 1)] true μ μ := Fr.rf
  have hr_μ : μ.2.2 = μ.2.2 := rfl
  rw [p_X3_count_b35_eq]
  have lo_a1 := ti_lo a1
  have hi_a1 := ti_hi a1
  have g8 := rgc_2_0 q0 hI_μ
  refine ok_bv (fun v9 ev9 => ?_)
  first | have tv9 : v9.toInt = ((((μ.1 a0 0).toInt - 1) * 6) + a1.toInt) := (congrArg Int32.toInt ev9).trans (TI.e (n := ((((μ.1 a0 0).toInt - 1) * 6) + a1.toInt)) (TI.add (TI.mul (TI.sub TI.rf (TI.lit (by decide)) (by omega) (by omega)) (TI.lit (by decide)) (by omega) (by omega)) TI.rf (by omega) (by omega))) | skip
  refine ok_gd (inb_iff.mpr (by omega)) ?_
  refine ok_gd (inb_iff.mpr (by omega)) ?_
  refine ok_bv (fun μ10 e_μ10 => ?_)
  have hI_μ10 : IX μ10 := by rw [e_μ10]; exact IX_F hI_μ (rtr_2_1 q0 _ _)
  have hF_μ10 : Fr [(2, 2, 1), (3, 2, 1)] true μ μ10 := by rw [e_μ10]; exact Fr.putr (ci := 2) (off := 1) hF_μ (by decide +kernel) q0
  have hr_μ10 : μ10.2.2 = μ.2.2 := (by rw [e_μ10]; rfl : μ10.2.2 = μ.2.2).trans hr_μ
  have g11 := rgc_2_0 q0 hI_μ10
  have f12 : (μ10.1 a0 0).toInt = (μ.1 a0 0).toInt := congrArg Int32.toInt ((by rw [e_μ10]; exact sF_i (ne_sh q0 (rl_X3_3 q0) (by simp)) : μ10.1 a0 0 = μ.1 a0 0))
  refine ok_gd (inb_iff.mpr (by (try rw [TI.e (e := ((((μ10.1 a0 0) - (1 : Int32)) * (6 : Int32)) + a1)) (n := ((((μ10.1 a0 0).toInt - 1) * 6) + a1.toInt)) (TI.add (TI.mul (TI.sub TI.rf (TI.lit (by decide)) (by omega) (by omega)) (TI.lit (by decide)) (by omega) (by omega)) TI.rf (by omega) (by omega))]); omega)) ?_
  exact ok_some ⟨hI_μ10, hF_μ10⟩
set_option maxHeartbeats 4000000 in
set_option maxRecDepth 100000 in
theorem k_X3_count (a0 : Nat) (q0 : sh 0 a0 = (0, 2)) (a1 : Int32) (μ : Mem) (hI_μ : IX μ) : ok (p_X3_count a0 a1 μ) (fun q => IX q.2 ∧ Fr [(2, 2, 1), (3, 2, 1)] true μ q.2) := by
  have li0 : (0 : Int32).toInt = 0 := by decide
  have li1 : (1 : Int32).toInt = 1 := by decide
  have li2 : (2 : Int32).toInt = 2 := by decide
  have li6 : (6 : Int32).toInt = 6 := by decide
  have hF_μ : Fr [(2, 2, 1), (3, 2, 1)] true μ μ := Fr.rf
  have hr_μ : μ.2.2 = μ.2.2 := rfl
  rw [p_X3_count_eq]
  have lo_a1 := ti_lo a1
  have hi_a1 := ti_hi a1
  have g1 := rgc_2_0 q0 hI_μ
  refine ok_ite ?_ ?_
  · intro c2
    rw [ti_lt] at c2
    exact ok_some ⟨hI_μ, hF_μ⟩
  · intro c2
    rw [ti_lt] at c2
    refine ok_ite ?_ ?_
    · intro c3
      rw [ti_lt] at c3
      exact ok_some ⟨hI_μ, hF_μ⟩
    · intro c3
      rw [ti_lt] at c3
      refine ok_ite ?_ ?_
      · intro c4
        rw [ti_lt] at c4
        refine ok_ite ?_ ?_
        · intro c5
          rw [ti_eq] at c5
          have g6 := ti_lo (μ.1 a0 1)
          have g6h := ti_hi (μ.1 a0 1)
          refine ok_bv (fun μ7 e_μ7 => ?_)
          have hI_μ7 : IX μ7 := by rw [e_μ7]; exact IX_F hI_μ (rtc_2_1 q0 _)
          have hF_μ7 : Fr [(2, 2, 1), (3, 2, 1)] true μ μ7 := by rw [e_μ7]; exact Fr.putc (ci := 2) hF_μ (by decide +kernel) q0
          have hr_μ7 : μ7.2.2 = μ.2.2 := (by rw [e_μ7]; rfl : μ7.2.2 = μ.2.2).trans hr_μ
          have g13 := rgc_2_0 q0 hI_μ7
          have f14 : (μ7.1 a0 0).toInt = (μ.1 a0 0).toInt := congrArg Int32.toInt ((by rw [e_μ7]; exact sF_k (by decide) : μ7.1 a0 0 = μ.1 a0 0))
          exact ok_mono (k_X3_count_b35  a0 q0 a1 μ7 hI_μ7 (by (try rw [hr_μ7]); omega)) (fun q h => ⟨h.1, hF_μ7.trans h.2⟩)
        · intro c5
          rw [ti_eq] at c5
          exact ok_mono (k_X3_count_b35  a0 q0 a1 μ hI_μ (by omega)) (fun q h => ⟨h.1, hF_μ.trans h.2⟩)
      · intro c4
        rw [ti_lt] at c4
        exact ok_some ⟨hI_μ, hF_μ⟩

set_option maxHeartbeats 4000000 in
set_option maxRecDepth 100000 in
theorem k_X4_readDigits_b50 (a3 : Int32) (a4 : Int32) (μ : Mem) (hI_μ : IX μ) : ok (p_X4_readDigits_b50 a3 a4 μ) (fun q => IX q.2 ∧ Fr [(0, 16, 2), (0, 16, 3)] true μ q.2) := by
  have li0 : (0 : Int32).toInt = 0 := by decide
  have li1 : (1 : Int32).toInt = 1 := by decide
  have hF_μ : Fr [(0, 16, 2), (0, 16, 3)] true μ μ := Fr.rf
  have hr_μ : μ.2.2 = μ.2.2 := rfl
  rw [p_X4_readDigits_b50_eq]
  have lo_a3 := ti_lo a3
  have hi_a3 := ti_hi a3
  have lo_a4 := ti_lo a4
  have hi_a4 := ti_hi a4
  refine ok_ite ?_ ?_
  · intro c2
    rw [ti_eq] at c2
    have g3 := ti_lo (μ.1 16 2)
    have g3h := ti_hi (μ.1 16 2)
    refine ok_bw (k_X4_fail (μ.1 16 2) μ hI_μ) ?_
    rintro μ4 ⟨hI_μ4, hC_μ4⟩
    have hF_μ4 : Fr [(0, 16, 2), (0, 16, 3)] true μ μ4 := hF_μ.trans (hC_μ4.mono (by decide +kernel) (by decide))
    have hr_μ4 : μ4.2.2 = μ.2.2 := (hC_μ4.2 rfl : μ4.2.2 = μ.2.2).trans hr_μ
    try rw [hr_μ4]
    exact ok_some ⟨hI_μ4, hF_μ4⟩
  · intro c2
    rw [ti_eq] at c2
    exact ok_some ⟨hI_μ, hF_μ⟩
set_option maxHeartbeats 4000000 in
set_option maxRecDepth 100000 in
theorem k_X4_readDigits_b5 : ∀ (n : Nat) (a2 : Int32) (a3 : Int32) (a4 : Int32) (μ : Mem), IX μ → (0 ≤ (a4).toInt ∧ (a4).toInt ≤ (a2).toInt ∧ (a2).toInt ≤ 5 ∧ (a2).toInt - (a4).toInt < n) → ok (p_X4_readDigits_b5 n a2 a3 a4 μ) (fun q => IX q.2 ∧ Fr [(0, 16, 2), (0, 16, 3)] true μ q.2) := by
  have li0 : (0 : Int32).toInt = 0 := by decide
  have li1 : (1 : Int32).toInt = 1 := by decide
  have li10 : (10 : Int32).toInt = 10 := by decide
  have li48 : (48 : Int32).toInt = 48 := by decide
  intro n
  induction n with
  | zero => intro a2 a3 a4 μ hI_μ hc; exact absurd hc (by have lo_a2 := ti_lo a2; have hi_a2 := ti_hi a2; have lo_a3 := ti_lo a3; have hi_a3 := ti_hi a3; have lo_a4 := ti_lo a4; have hi_a4 := ti_hi a4; omega)
  | succ n ih =>
    intro a2 a3 a4 μ hI_μ hc
    have hF_μ : Fr [(0, 16, 2), (0, 16, 3)] true μ μ := Fr.rf
    have hr_μ : μ.2.2 = μ.2.2 := rfl
    rw [p_X4_readDigits_b5_s]
    have lo_a2 := ti_lo a2
    have hi_a2 := ti_hi a2
    have lo_a3 := ti_lo a3
    have hi_a3 := ti_hi a3
    have lo_a4 := ti_lo a4
    have hi_a4 := ti_hi a4
    refine ok_ite ?_ ?_
    · intro c1
      rw [ti_le] at c1
      exact ok_mono (k_X4_readDigits_b50  a3 a4 μ hI_μ) (fun q h => ⟨h.1, hF_μ.trans h.2⟩)
    · intro c1
      rw [ti_le] at c1
      refine ok_bd (k_X4_here  μ hI_μ) ?_
      rintro r7 μ6 hq9
      obtain rfl : μ = μ6 := hq9
      have lo_r7 := ti_lo r7
      have hi_r7 := ti_hi r7
      refine ok_ite ?_ ?_
      · intro c8
        rw [ti_eq] at c8
        exact ok_mono (k_X4_readDigits_b50  a3 a4 μ hI_μ) (fun q h => ⟨h.1, hF_μ.trans h.2⟩)
      · intro c8
        rw [ti_eq] at c8
        refine ok_bd (k_X4_here  μ hI_μ) ?_
        rintro r10 μ9 hq9
        obtain rfl : μ = μ9 := hq9
        have lo_r10 := ti_lo r10
        have hi_r10 := ti_hi r10
        refine ok_bv (fun v11 ev11 => ?_)
        first | have tv11 : v11.toInt = (((a3.toInt * 10) + r10.toInt) - 48) := (congrArg Int32.toInt ev11).trans (TI.e (n := (((a3.toInt * 10) + r10.toInt) - 48)) (TI.sub (TI.add (TI.mul TI.rf (TI.lit (by decide)) (by omega) (by omega)) TI.rf (by omega) (by omega)) (TI.lit (by decide)) (by omega) (by omega))) | skip
        have g12 := ti_lo (μ.1 16 2)
        have g12h := ti_hi (μ.1 16 2)
        refine ok_bv (fun μ13 e_μ13 => ?_)
        have hI_μ13 : IX μ13 := by rw [e_μ13]; exact IX_F hI_μ (rt_16_2 _)
        have hF_μ13 : Fr [(0, 16, 2), (0, 16, 3)] true μ μ13 := by rw [e_μ13]; exact Fr.put hF_μ (by decide +kernel)
        have hr_μ13 : μ13.2.2 = μ.2.2 := (by rw [e_μ13]; rfl : μ13.2.2 = μ.2.2).trans hr_μ
        try rw [hr_μ13]
        refine ok_bv (fun v14 ev14 => ?_)
        first | have tv14 : v14.toInt = (a4.toInt + 1) := (congrArg Int32.toInt ev14).trans (TI.e (n := (a4.toInt + 1)) (TI.add TI.rf (TI.lit (by decide)) (by omega) (by omega))) | have tv14 : v14.toInt ≤ a4.toInt + 1 := by rw [ev14]; exact ti_inc _ | skip
        exact ok_mono (ih a2 v11 v14 μ13 hI_μ13 (by (try rw [hr_μ13]); omega)) (fun q h => ⟨h.1, hF_μ13.trans h.2⟩)
set_option maxHeartbeats 4000000 in
set_option maxRecDepth 100000 in
theorem k_X4_readDigits (a1 : Int32) (a2 : Int32) (μ : Mem) (hI_μ : IX μ) (hc : 0 ≤ (a2).toInt ∧ (a2).toInt ≤ 5) : ok (p_X4_readDigits a1 a2 μ) (fun q => IX q.2 ∧ Fr [(0, 16, 2), (0, 16, 3)] true μ q.2) := by
  have li0 : (0 : Int32).toInt = 0 := by decide
  have li1 : (1 : Int32).toInt = 1 := by decide
  have hF_μ : Fr [(0, 16, 2), (0, 16, 3)] true μ μ := Fr.rf
  have hr_μ : μ.2.2 = μ.2.2 := rfl
  rw [p_X4_readDigits_eq]
  have lo_a1 := ti_lo a1
  have hi_a1 := ti_hi a1
  have lo_a2 := ti_lo a2
  have hi_a2 := ti_hi a2
  obtain ⟨fu, hfu0, hfu⟩ := fuel_ex
  rw [hfu0]
  exact ok_mono (k_X4_readDigits_b5  fu a2 a1 (0 : Int32) μ hI_μ (by omega)) (fun q h => ⟨h.1, hF_μ.trans h.2⟩)

set_option maxHeartbeats 4000000 in
set_option maxRecDepth 100000 in
theorem k_X4_readNumber_b52 (a1 : Int32) (a2 : Int32) (μ : Mem) (hI_μ : IX μ) : ok (p_X4_readNumber_b52 a1 a2 μ) (fun q => IX q.2 ∧ Fr [(0, 16, 2), (0, 16, 3)] true μ q.2) := by
  have li0 : (0 : Int32).toInt = 0 := by decide
  have li1 : (1 : Int32).toInt = 1 := by decide
  have hF_μ : Fr [(0, 16, 2), (0, 16, 3)] true μ μ := Fr.rf
  have hr_μ : μ.2.2 = μ.2.2 := rfl
  rw [p_X4_readNumber_b52_eq]
  have lo_a1 := ti_lo a1
  have hi_a1 := ti_hi a1
  have lo_a2 := ti_lo a2
  have hi_a2 := ti_hi a2
  refine ok_ite ?_ ?_
  · intro c10
    rw [ti_eq] at c10
    exact ok_some ⟨hI_μ, hF_μ⟩
  · intro c10
    rw [ti_eq] at c10
    exact ok_some ⟨hI_μ, hF_μ⟩
set_option maxHeartbeats 4000000 in
set_option maxRecDepth 100000 in
theorem k_X4_readNumber_b128 (a4 : Int32) (k0 : Int32) (k1 : Int32) (μ : Mem) (hI_μ : IX μ) : ok (p_X4_readNumber_b128 a4 k0 k1 μ) (fun q => IX q.2 ∧ Fr [(0, 16, 2), (0, 16, 3)] true μ q.2) := by
  have li0 : (0 : Int32).toInt = 0 := by decide
  have li1 : (1 : Int32).toInt = 1 := by decide
  have hF_μ : Fr [(0, 16, 2), (0, 16, 3)] true μ μ := Fr.rf
  have hr_μ : μ.2.2 = μ.2.2 := rfl
  rw [p_X4_readNumber_b128_eq]
  have lo_a4 := ti_lo a4
  have hi_a4 := ti_hi a4
  have lo_k0 := ti_lo k0
  have hi_k0 := ti_hi k0
  have lo_k1 := ti_lo k1
  have hi_k1 := ti_hi k1
  refine ok_bv (fun v23 ev23 => ?_)
  have tv23 : v23.toInt = (s_X0_floatBits (s_X0_make k1 k0)).toInt := congrArg Int32.toInt ev23
  refine ok_bv (fun v24 ev24 => ?_)
  have tv24 : v24.toInt = (s_X0_floatBits (s_X0_make (0 : Int32) a4)).toInt := congrArg Int32.toInt ev24
  exact ok_some ⟨hI_μ, hF_μ⟩
set_option maxHeartbeats 4000000 in
set_option maxRecDepth 100000 in
theorem k_X4_readNumber_b95 : ∀ (n : Nat) (a1 : Int32) (a2 : Int32) (a4 : Int32) (a5 : Int32) (μ : Mem), IX μ → ((0 : Int) ≤ 0 ∧ 2147483648 - (a5).toInt < n) → ok (p_X4_readNumber_b95 n a1 a2 a4 a5 μ) (fun q => IX q.2 ∧ Fr [(0, 16, 2), (0, 16, 3)] true μ q.2) := by
  have li0 : (0 : Int32).toInt = 0 := by decide
  have li1 : (1 : Int32).toInt = 1 := by decide
  have li10 : (10 : Int32).toInt = 10 := by decide
  intro n
  induction n with
  | zero => intro a1 a2 a4 a5 μ hI_μ hc; exact absurd hc (by have lo_a1 := ti_lo a1; have hi_a1 := ti_hi a1; have lo_a2 := ti_lo a2; have hi_a2 := ti_hi a2; have lo_a4 := ti_lo a4; have hi_a4 := ti_hi a4; have lo_a5 := ti_lo a5; have hi_a5 := ti_hi a5; omega)
  | succ n ih =>
    intro a1 a2 a4 a5 μ hI_μ hc
    have hF_μ : Fr [(0, 16, 2), (0, 16, 3)] true μ μ := Fr.rf
    have hr_μ : μ.2.2 = μ.2.2 := rfl
    rw [p_X4_readNumber_b95_s]
    have lo_a1 := ti_lo a1
    have hi_a1 := ti_hi a1
    have lo_a2 := ti_lo a2
    have hi_a2 := ti_hi a2
    have lo_a4 := ti_lo a4
    have hi_a4 := ti_hi a4
    have lo_a5 := ti_lo a5
    have hi_a5 := ti_hi a5
    have g20 := ti_lo (μ.1 16 2)
    have g20h := ti_hi (μ.1 16 2)
    refine ok_ite ?_ ?_
    · intro c21
      rw [ti_le] at c21
      refine ok_ite ?_ ?_
      · intro c22
        rw [ti_eq] at c22
        exact ok_mono (k_X4_readNumber_b128  a4 a2 (0 : Int32) μ hI_μ) (fun q h => ⟨h.1, hF_μ.trans h.2⟩)
      · intro c22
        rw [ti_eq] at c22
        exact ok_mono (k_X4_readNumber_b128  a4 (-a2) (0 : Int32) μ hI_μ) (fun q h => ⟨h.1, hF_μ.trans h.2⟩)
    · intro c21
      rw [ti_le] at c21
      refine ok_bv (fun v25 ev25 => ?_)
      first | have tv25 : v25.toInt = (a4.toInt * 10) := (congrArg Int32.toInt ev25).trans (TI.e (n := (a4.toInt * 10)) (TI.mul TI.rf (TI.lit (by decide)) (by omega) (by omega))) | skip
      refine ok_bv (fun v26 ev26 => ?_)
      first | have tv26 : v26.toInt = (a5.toInt + 1) := (congrArg Int32.toInt ev26).trans (TI.e (n := (a5.toInt + 1)) (TI.add TI.rf (TI.lit (by decide)) (by omega) (by omega))) | have tv26 : v26.toInt ≤ a5.toInt + 1 := by rw [ev26]; exact ti_inc _ | skip
      exact ok_mono (ih a1 a2 v25 v26 μ hI_μ (by omega)) (fun q h => ⟨h.1, hF_μ.trans h.2⟩)
set_option maxHeartbeats 4000000 in
set_option maxRecDepth 100000 in
theorem k_X4_readNumber_b29 (a1 : Int32) (μ : Mem) (hI_μ : IX μ) : ok (p_X4_readNumber_b29 a1 μ) (fun q => IX q.2 ∧ Fr [(0, 16, 2), (0, 16, 3)] true μ q.2) := by
  have li0 : (0 : Int32).toInt = 0 := by decide
  have li1 : (1 : Int32).toInt = 1 := by decide
  have li3 : (3 : Int32).toInt = 3 := by decide
  have li5 : (5 : Int32).toInt = 5 := by decide
  have li46 : (46 : Int32).toInt = 46 := by decide
  have hF_μ : Fr [(0, 16, 2), (0, 16, 3)] true μ μ := Fr.rf
  have hr_μ : μ.2.2 = μ.2.2 := rfl
  rw [p_X4_readNumber_b29_eq]
  have lo_a1 := ti_lo a1
  have hi_a1 := ti_hi a1
  refine ok_bd (k_X4_readDigits (0 : Int32) (5 : Int32) μ hI_μ (by omega)) ?_
  rintro r6 μ5 ⟨hI_μ5, hC_μ5⟩
  have hI_μ5 : IX μ5 := hI_μ5
  have hC_μ5 : Fr [(0, 16, 2), (0, 16, 3)] true μ μ5 := hC_μ5
  have lo_r6 := ti_lo r6
  have hi_r6 := ti_hi r6
  have hF_μ5 : Fr [(0, 16, 2), (0, 16, 3)] true μ μ5 := hF_μ.trans (hC_μ5.mono (by decide +kernel) (by decide))
  have hr_μ5 : μ5.2.2 = μ.2.2 := (hC_μ5.2 rfl : μ5.2.2 = μ.2.2).trans hr_μ
  try rw [hr_μ5]
  refine ok_bd (k_X4_isWell  μ5 hI_μ5) ?_
  rintro r8 μ7 ⟨hq9, p_r8⟩
  obtain rfl : μ5 = μ7 := hq9
  dsimp only at p_r8
  have lo_r8 := ti_lo r8
  have hi_r8 := ti_hi r8
  try rw [hr_μ5]
  refine ok_ite ?_ ?_
  · intro c9
    rw [ti_eq] at c9
    exact ok_mono (k_X4_readNumber_b52  a1 r6 μ5 hI_μ5) (fun q h => ⟨h.1, hF_μ5.trans h.2⟩)
  · intro c9
    rw [ti_eq] at c9
    refine ok_bd (k_X4_here  μ5 hI_μ5) ?_
    rintro r12 μ11 hq9
    obtain rfl : μ5 = μ11 := hq9
    have lo_r12 := ti_lo r12
    have hi_r12 := ti_hi r12
    try rw [hr_μ5]
    refine ok_ite ?_ ?_
    · intro c13
      rw [ti_eq] at c13
      have g14 := ti_lo (μ5.1 16 2)
      have g14h := ti_hi (μ5.1 16 2)
      refine ok_bv (fun μ15 e_μ15 => ?_)
      have hI_μ15 : IX μ15 := by rw [e_μ15]; exact IX_F hI_μ5 (rt_16_2 _)
      have hF_μ15 : Fr [(0, 16, 2), (0, 16, 3)] true μ μ15 := by rw [e_μ15]; exact Fr.put hF_μ5 (by decide +kernel)
      have hr_μ15 : μ15.2.2 = μ.2.2 := (by rw [e_μ15]; rfl : μ15.2.2 = μ5.2.2).trans hr_μ5
      try rw [hr_μ15]
      have g16 := ti_lo (μ15.1 16 2)
      have g16h := ti_hi (μ15.1 16 2)
      refine ok_bv (fun v17 ev17 => ?_)
      have tv17 : v17.toInt = (μ15.1 16 2).toInt := congrArg Int32.toInt ev17
      refine ok_bd (k_X4_readDigits r6 (3 : Int32) μ15 hI_μ15 (by (try rw [hr_μ15]); omega)) ?_
      rintro r19 μ18 ⟨hI_μ18, hC_μ18⟩
      have hI_μ18 : IX μ18 := hI_μ18
      have hC_μ18 : Fr [(0, 16, 2), (0, 16, 3)] true μ15 μ18 := hC_μ18
      have lo_r19 := ti_lo r19
      have hi_r19 := ti_hi r19
      have hF_μ18 : Fr [(0, 16, 2), (0, 16, 3)] true μ μ18 := hF_μ15.trans (hC_μ18.mono (by decide +kernel) (by decide))
      have hr_μ18 : μ18.2.2 = μ.2.2 := (hC_μ18.2 rfl : μ18.2.2 = μ15.2.2).trans hr_μ15
      try rw [hr_μ18]
      obtain ⟨fu, hfu0, hfu⟩ := fuel_ex
      rw [hfu0]
      exact ok_mono (k_X4_readNumber_b95  fu a1 r19 (1 : Int32) v17 μ18 hI_μ18 (by (try rw [hr_μ18]); omega)) (fun q h => ⟨h.1, hF_μ18.trans h.2⟩)
    · intro c13
      rw [ti_eq] at c13
      exact ok_mono (k_X4_readNumber_b52  a1 r6 μ5 hI_μ5) (fun q h => ⟨h.1, hF_μ5.trans h.2⟩)
set_option maxHeartbeats 4000000 in
set_option maxRecDepth 100000 in
theorem k_X4_readNumber_b14 (k0 : Int32) (μ : Mem) (hI_μ : IX μ) : ok (p_X4_readNumber_b14 k0 μ) (fun q => IX q.2 ∧ Fr [(0, 16, 2), (0, 16, 3)] true μ q.2) := by
  have li0 : (0 : Int32).toInt = 0 := by decide
  have li1 : (1 : Int32).toInt = 1 := by decide
  have hF_μ : Fr [(0, 16, 2), (0, 16, 3)] true μ μ := Fr.rf
  have hr_μ : μ.2.2 = μ.2.2 := rfl
  rw [p_X4_readNumber_b14_eq]
  have lo_k0 := ti_lo k0
  have hi_k0 := ti_hi k0
  refine ok_ite ?_ ?_
  · intro c4
    rw [ti_eq] at c4
    exact ok_mono (k_X4_readNumber_b29  k0 μ hI_μ) (fun q h => ⟨h.1, hF_μ.trans h.2⟩)
  · intro c4
    rw [ti_eq] at c4
    have g27 := ti_lo (μ.1 16 2)
    have g27h := ti_hi (μ.1 16 2)
    refine ok_bv (fun μ28 e_μ28 => ?_)
    have hI_μ28 : IX μ28 := by rw [e_μ28]; exact IX_F hI_μ (rt_16_2 _)
    have hF_μ28 : Fr [(0, 16, 2), (0, 16, 3)] true μ μ28 := by rw [e_μ28]; exact Fr.put hF_μ (by decide +kernel)
    have hr_μ28 : μ28.2.2 = μ.2.2 := (by rw [e_μ28]; rfl : μ28.2.2 = μ.2.2).trans hr_μ
    try rw [hr_μ28]
    exact ok_mono (k_X4_readNumber_b29  k0 μ28 hI_μ28) (fun q h => ⟨h.1, hF_μ28.trans h.2⟩)
set_option maxHeartbeats 4000000 in
set_option maxRecDepth 100000 in
theorem k_X4_readNumber  (μ : Mem) (hI_μ : IX μ) : ok (p_X4_readNumber  μ) (fun q => IX q.2 ∧ Fr [(0, 16, 2), (0, 16, 3)] true μ q.2) := by
  have li0 : (0 : Int32).toInt = 0 := by decide
  have li1 : (1 : Int32).toInt = 1 := by decide
  have li45 : (45 : Int32).toInt = 45 := by decide
  have hF_μ : Fr [(0, 16, 2), (0, 16, 3)] true μ μ := Fr.rf
  have hr_μ : μ.2.2 = μ.2.2 := rfl
  rw [p_X4_readNumber_eq]
  refine ok_bd (k_X4_here  μ hI_μ) ?_
  rintro r2 μ1 hq9
  obtain rfl : μ = μ1 := hq9
  have lo_r2 := ti_lo r2
  have hi_r2 := ti_hi r2
  refine ok_ite ?_ ?_
  · intro c3
    rw [ti_eq] at c3
    exact ok_mono (k_X4_readNumber_b14  (1 : Int32) μ hI_μ) (fun q h => ⟨h.1, hF_μ.trans h.2⟩)
  · intro c3
    rw [ti_eq] at c3
    exact ok_mono (k_X4_readNumber_b14  (0 : Int32) μ hI_μ) (fun q h => ⟨h.1, hF_μ.trans h.2⟩)

set_option maxHeartbeats 4000000 in
set_option maxRecDepth 100000 in
theorem k_X3_add (a0 : Nat) (q0 : sh 0 a0 = (0, 2)) (a1 : Int32) (a2 : Int32) (a3 : Int32) (μ : Mem) (hI_μ : IX μ) (hc : ((a1).toInt ≠ 13 ∨ (0 ≤ (a3).toInt ∧ (a3).toInt ≤ 5))) : ok (p_X3_add a0 a1 a2 a3 μ) (fun q => IX q.2 ∧ Fr [(2, 2, 2), (3, 2, 4), (3, 2, 5), (3, 2, 6)] true μ q.2) := by
  have li0 : (0 : Int32).toInt = 0 := by decide
  have li1 : (1 : Int32).toInt = 1 := by decide
  have li2472 : (2472 : Int32).toInt = 2472 := by decide
  have hF_μ : Fr [(2, 2, 2), (3, 2, 4), (3, 2, 5), (3, 2, 6)] true μ μ := Fr.rf
  rw [p_X3_add_eq]
  have g1 := rgc_2_2 q0 hI_μ
  refine ok_ite ?_ ?_
  · intro c2
    rw [ti_lt] at c2
    refine ok_gd (inb_iff.mpr (by omega)) ?_
    refine ok_bv (fun μ3 e_μ3 => ?_)
    have hN_μ3 : ∀ i k, rng i k (μ3.1 i k).toInt := by rw [e_μ3]; exact IX_N hI_μ.1 (rtr_2_4 q0 _ _)
    have hF_μ3 : Fr [(2, 2, 2), (3, 2, 4), (3, 2, 5), (3, 2, 6)] true μ μ3 := by rw [e_μ3]; exact Fr.putr (ci := 2) (off := 4) hF_μ (by decide +kernel) q0
    have f5 : μ3.1 a0 2 = μ.1 a0 2 := by rw [e_μ3]; exact sF_i (ne_sh q0 (rl_X3_6 q0) (by simp))
    have f5t := congrArg Int32.toInt f5
    refine ok_gd (inb_iff.mpr (by omega)) ?_
    refine ok_bv (fun μ6 e_μ6 => ?_)
    have hN_μ6 : ∀ i k, rng i k (μ6.1 i k).toInt := by rw [e_μ6]; exact IX_N hN_μ3 (rtr_2_5 q0 _ _).1
    have hF_μ6 : Fr [(2, 2, 2), (3, 2, 4), (3, 2, 5), (3, 2, 6)] true μ μ6 := by rw [e_μ6]; exact Fr.putr (ci := 2) (off := 5) hF_μ3 (by decide +kernel) q0
    have f8 : μ6.1 a0 2 = μ.1 a0 2 := (by rw [e_μ6]; exact sF_i (ne_sh q0 (rl_X3_7 q0) (by simp)) : μ6.1 a0 2 = μ3.1 a0 2).trans f5
    have f8t := congrArg Int32.toInt f8
    refine ok_gd (inb_iff.mpr (by omega)) ?_
    refine ok_bv (fun μ9 e_μ9 => ?_)
    have hI_μ9 : IX μ9 := by
      refine ⟨by rw [e_μ9]; exact IX_N hN_μ6 (rtr_2_6 q0 _ _), fun g hg k => ?_⟩
      have z1 := pc_29 hg
      have z2 := pc_29 q0
      by_cases hga : g = a0
      · subst hga
        have s1 : μ9.1 (g + 4) k = if k = (μ.1 g 2).toNatClampNeg then a1 else μ.1 (g + 4) k := by
          rw [e_μ9, sF_i (by omega), e_μ6, sF_i (by omega), e_μ3, sF_1, if_pos rfl]
        have s2 : μ9.1 (g + 6) k = if k = (μ.1 g 2).toNatClampNeg then a3 else μ.1 (g + 6) k := by
          rw [e_μ9, sF_1, if_pos rfl, f8, e_μ6, sF_i (by omega), e_μ3, sF_i (by omega)]
        rw [s1, s2]
        by_cases e : k = (μ.1 g 2).toNatClampNeg
        · rw [if_pos e, if_pos e]; exact hc
        · rw [if_neg e, if_neg e]; exact hI_μ.2 g hg k
      · rw [e_μ9, sF_i (by omega), sF_i (by omega), e_μ6, sF_i (by omega), sF_i (by omega), e_μ3, sF_i (by omega), sF_i (by omega)]
        exact hI_μ.2 g hg k
    have hF_μ9 : Fr [(2, 2, 2), (3, 2, 4), (3, 2, 5), (3, 2, 6)] true μ μ9 := by rw [e_μ9]; exact Fr.putr (ci := 2) (off := 6) hF_μ6 (by decide +kernel) q0
    have f11 : μ9.1 a0 2 = μ.1 a0 2 := (by rw [e_μ9]; exact sF_i (ne_sh q0 (rl_X3_8 q0) (by simp)) : μ9.1 a0 2 = μ6.1 a0 2).trans f8
    have f11t := congrArg Int32.toInt f11
    refine ok_bv (fun μ12 e_μ12 => ?_)
    have hI_μ12 : IX μ12 := by rw [e_μ12]; exact IX_F hI_μ9 (rpc_2_2 q0 (by (try rw [TI.e (e := ((μ9.1 a0 2) + (1 : Int32))) (n := ((μ9.1 a0 2).toInt + 1)) (TI.add TI.rf (TI.lit (by decide)) (by omega) (by omega))]); omega))
    have hF_μ12 : Fr [(2, 2, 2), (3, 2, 4), (3, 2, 5), (3, 2, 6)] true μ μ12 := by rw [e_μ12]; exact Fr.putc (ci := 2) hF_μ9 (by decide +kernel) q0
    exact ok_some ⟨hI_μ12, hF_μ12⟩
  · intro c2
    exact ok_some ⟨hI_μ, hF_μ⟩

set_option maxHeartbeats 4000000 in
set_option maxRecDepth 100000 in
theorem k_X4_readVar (a1 : Int32) (μ : Mem) (hI_μ : IX μ) : ok (p_X4_readVar a1 μ) (fun q => IX q ∧ Fr [(0, 16, 2), (0, 16, 3), (2, 2, 2), (3, 2, 4), (3, 2, 5), (3, 2, 6)] true μ q) := by
  have lim1 : (-1 : Int32).toInt = -1 := by decide
  have li0 : (0 : Int32).toInt = 0 := by decide
  have li1 : (1 : Int32).toInt = 1 := by decide
  have hF_μ : Fr [(0, 16, 2), (0, 16, 3), (2, 2, 2), (3, 2, 4), (3, 2, 5), (3, 2, 6)] true μ μ := Fr.rf
  have hr_μ : μ.2.2 = μ.2.2 := rfl
  rw [p_X4_readVar_eq]
  have lo_a1 := ti_lo a1
  have hi_a1 := ti_hi a1
  refine ok_bd (k_X4_slotOf a1 μ hI_μ) ?_
  rintro r2 μ1 hq9
  obtain rfl : μ = μ1 := hq9
  have lo_r2 := ti_lo r2
  have hi_r2 := ti_hi r2
  refine ok_ite ?_ ?_
  · intro c3
    rw [ti_eq] at c3
    have g4 := ti_lo (μ.1 16 2)
    have g4h := ti_hi (μ.1 16 2)
    refine ok_bw (k_X4_fail (μ.1 16 2) μ hI_μ) ?_
    rintro μ5 ⟨hI_μ5, hC_μ5⟩
    have hF_μ5 : Fr [(0, 16, 2), (0, 16, 3), (2, 2, 2), (3, 2, 4), (3, 2, 5), (3, 2, 6)] true μ μ5 := hF_μ.trans (hC_μ5.mono (by decide +kernel) (by decide))
    have hr_μ5 : μ5.2.2 = μ.2.2 := (hC_μ5.2 rfl : μ5.2.2 = μ.2.2).trans hr_μ
    try rw [hr_μ5]
    exact ok_some ⟨hI_μ5, hF_μ5⟩
  · intro c3
    rw [ti_eq] at c3
    have g7 := ti_lo (μ.1 16 2)
    have g7h := ti_hi (μ.1 16 2)
    refine ok_bv (fun μ8 e_μ8 => ?_)
    have hI_μ8 : IX μ8 := by rw [e_μ8]; exact IX_F hI_μ (rt_16_2 _)
    have hF_μ8 : Fr [(0, 16, 2), (0, 16, 3), (2, 2, 2), (3, 2, 4), (3, 2, 5), (3, 2, 6)] true μ μ8 := by rw [e_μ8]; exact Fr.put hF_μ (by decide +kernel)
    have hr_μ8 : μ8.2.2 = μ.2.2 := (by rw [e_μ8]; rfl : μ8.2.2 = μ.2.2).trans hr_μ
    try rw [hr_μ8]
    refine ok_bd (k_X3_add (sel 2 (μ.2.2 16 4)) (sel_2 _) (1 : Int32) r2 (0 : Int32) μ8 hI_μ8 (by (try rw [hr_μ8]); omega)) ?_
    rintro r10 μ9 ⟨hI_μ9, hC_μ9⟩
    have hI_μ9 : IX μ9 := hI_μ9
    have hC_μ9 : Fr [(2, 2, 2), (3, 2, 4), (3, 2, 5), (3, 2, 6)] true μ8 μ9 := hC_μ9
    have lo_r10 := ti_lo r10
    have hi_r10 := ti_hi r10
    have hF_μ9 : Fr [(0, 16, 2), (0, 16, 3), (2, 2, 2), (3, 2, 4), (3, 2, 5), (3, 2, 6)] true μ μ9 := hF_μ8.trans (hC_μ9.mono (by decide +kernel) (by decide))
    have hr_μ9 : μ9.2.2 = μ.2.2 := (hC_μ9.2 rfl : μ9.2.2 = μ8.2.2).trans hr_μ8
    try rw [hr_μ9]
    exact ok_some ⟨hI_μ9, hF_μ9⟩

set_option maxHeartbeats 4000000 in
set_option maxRecDepth 100000 in
theorem k_X4_readCall_b97 {nE : Nat} (RE : Int32 → Mem → Option Mem) (hRE : ∀ (z1 : Int32) (μ1 : Mem), IX μ1 → (0 ≤ (z1).toInt ∧ (z1).toInt ≤ 20 ∧ 20 - (z1).toInt < nE) → ok (RE z1 μ1) (fun q => IX q ∧ Fr [(0, 16, 2), (0, 16, 3), (0, 16, 6), (1, 17, 0), (2, 2, 1), (2, 2, 2), (3, 2, 1), (3, 2, 4), (3, 2, 5), (3, 2, 6)] true μ1 q)) (a1 : Int32) (a3 : Int32) (μ : Mem) (hI_μ : IX μ) (hc : 0 ≤ (a3).toInt ∧ (a3).toInt ≤ 5) : ok (p_X4_readCall_b97 RE a1 a3 μ) (fun q => IX q ∧ Fr [(0, 16, 2), (0, 16, 3), (0, 16, 6), (1, 17, 0), (2, 2, 1), (2, 2, 2), (3, 2, 1), (3, 2, 4), (3, 2, 5), (3, 2, 6)] true μ q) := by
  have li0 : (0 : Int32).toInt = 0 := by decide
  have li1 : (1 : Int32).toInt = 1 := by decide
  have li6 : (6 : Int32).toInt = 6 := by decide
  have li13 : (13 : Int32).toInt = 13 := by decide
  have li41 : (41 : Int32).toInt = 41 := by decide
  have li97 : (97 : Int32).toInt = 97 := by decide
  have hF_μ : Fr [(0, 16, 2), (0, 16, 3), (0, 16, 6), (1, 17, 0), (2, 2, 1), (2, 2, 2), (3, 2, 1), (3, 2, 4), (3, 2, 5), (3, 2, 6)] true μ μ := Fr.rf
  have hr_μ : μ.2.2 = μ.2.2 := rfl
  rw [p_X4_readCall_b97_eq]
  have lo_a1 := ti_lo a1
  have hi_a1 := ti_hi a1
  have lo_a3 := ti_lo a3
  have hi_a3 := ti_hi a3
  refine ok_bd (k_X4_take (41 : Int32) μ hI_μ) ?_
  rintro r11 μ10 ⟨hI_μ10, hC_μ10, p_μ10⟩
  have hI_μ10 : IX μ10 := hI_μ10
  have hC_μ10 : Fr [(0, 16, 2), (0, 16, 3)] true μ μ10 := hC_μ10
  dsimp only at p_μ10
  have lo_r11 := ti_lo r11
  have hi_r11 := ti_hi r11
  have hF_μ10 : Fr [(0, 16, 2), (0, 16, 3), (0, 16, 6), (1, 17, 0), (2, 2, 1), (2, 2, 2), (3, 2, 1), (3, 2, 4), (3, 2, 5), (3, 2, 6)] true μ μ10 := hF_μ.trans (hC_μ10.mono (by decide +kernel) (by decide))
  have hr_μ10 : μ10.2.2 = μ.2.2 := (hC_μ10.2 rfl : μ10.2.2 = μ.2.2).trans hr_μ
  try rw [hr_μ10]
  refine ok_bd (k_X3_add (sel 2 (μ.2.2 16 4)) (sel_2 _) (13 : Int32) (((a1 - (97 : Int32)) * (6 : Int32)) + a3) a3 μ10 hI_μ10 (by (try rw [hr_μ10]); (try rw [TI.e (e := (((a1 - (97 : Int32)) * (6 : Int32)) + a3)) (n := (((a1.toInt - 97) * 6) + a3.toInt)) (TI.add (TI.mul (TI.sub TI.rf (TI.lit (by decide)) (by omega) (by omega)) (TI.lit (by decide)) (by omega) (by omega)) TI.rf (by omega) (by omega))]); omega)) ?_
  rintro r13 μ12 ⟨hI_μ12, hC_μ12⟩
  have hI_μ12 : IX μ12 := hI_μ12
  have hC_μ12 : Fr [(2, 2, 2), (3, 2, 4), (3, 2, 5), (3, 2, 6)] true μ10 μ12 := hC_μ12
  have lo_r13 := ti_lo r13
  have hi_r13 := ti_hi r13
  have hF_μ12 : Fr [(0, 16, 2), (0, 16, 3), (0, 16, 6), (1, 17, 0), (2, 2, 1), (2, 2, 2), (3, 2, 1), (3, 2, 4), (3, 2, 5), (3, 2, 6)] true μ μ12 := hF_μ10.trans (hC_μ12.mono (by decide +kernel) (by decide))
  have hr_μ12 : μ12.2.2 = μ.2.2 := (hC_μ12.2 rfl : μ12.2.2 = μ10.2.2).trans hr_μ10
  try rw [hr_μ12]
  exact ok_some ⟨hI_μ12, hF_μ12⟩
set_option maxHeartbeats 4000000 in
set_option maxRecDepth 100000 in
theorem k_X4_readCall_b53 {nE : Nat} (RE : Int32 → Mem → Option Mem) (hRE : ∀ (z1 : Int32) (μ1 : Mem), IX μ1 → (0 ≤ (z1).toInt ∧ (z1).toInt ≤ 20 ∧ 20 - (z1).toInt < nE) → ok (RE z1 μ1) (fun q => IX q ∧ Fr [(0, 16, 2), (0, 16, 3), (0, 16, 6), (1, 17, 0), (2, 2, 1), (2, 2, 2), (3, 2, 1), (3, 2, 4), (3, 2, 5), (3, 2, 6)] true μ1 q)) : ∀ (n : Nat) (a1 : Int32) (a2 : Int32) (a3 : Int32) (μ : Mem), IX μ → (1 ≤ (a3).toInt ∧ (a3).toInt ≤ 5 ∧ 5 - (a3).toInt < n ∧ 0 ≤ (a2).toInt ∧ (a2).toInt < 20 ∧ 19 - (a2).toInt < nE) → ok (p_X4_readCall_b53 RE n a1 a2 a3 μ) (fun q => IX q ∧ Fr [(0, 16, 2), (0, 16, 3), (0, 16, 6), (1, 17, 0), (2, 2, 1), (2, 2, 2), (3, 2, 1), (3, 2, 4), (3, 2, 5), (3, 2, 6)] true μ q) := by
  have li0 : (0 : Int32).toInt = 0 := by decide
  have li1 : (1 : Int32).toInt = 1 := by decide
  have li5 : (5 : Int32).toInt = 5 := by decide
  have li44 : (44 : Int32).toInt = 44 := by decide
  intro n
  induction n with
  | zero => intro a1 a2 a3 μ hI_μ hc; exact absurd hc (by have lo_a1 := ti_lo a1; have hi_a1 := ti_hi a1; have lo_a2 := ti_lo a2; have hi_a2 := ti_hi a2; have lo_a3 := ti_lo a3; have hi_a3 := ti_hi a3; omega)
  | succ n ih =>
    intro a1 a2 a3 μ hI_μ hc
    have hF_μ : Fr [(0, 16, 2), (0, 16, 3), (0, 16, 6), (1, 17, 0), (2, 2, 1), (2, 2, 2), (3, 2, 1), (3, 2, 4), (3, 2, 5), (3, 2, 6)] true μ μ := Fr.rf
    have hr_μ : μ.2.2 = μ.2.2 := rfl
    rw [p_X4_readCall_b53_s]
    have lo_a1 := ti_lo a1
    have hi_a1 := ti_hi a1
    have lo_a2 := ti_lo a2
    have hi_a2 := ti_hi a2
    have lo_a3 := ti_lo a3
    have hi_a3 := ti_hi a3
    refine ok_bd (k_X4_isWell  μ hI_μ) ?_
    rintro r20 μ19 ⟨hq9, p_r20⟩
    obtain rfl : μ = μ19 := hq9
    dsimp only at p_r20
    have lo_r20 := ti_lo r20
    have hi_r20 := ti_hi r20
    refine ok_ite ?_ ?_
    · intro c21
      rw [ti_eq] at c21
      exact ok_mono (k_X4_readCall_b97 RE hRE a1 a3 μ hI_μ (by omega)) (fun q h => ⟨h.1, hF_μ.trans h.2⟩)
    · intro c21
      rw [ti_eq] at c21
      refine ok_bd (k_X4_here  μ hI_μ) ?_
      rintro r23 μ22 hq9
      obtain rfl : μ = μ22 := hq9
      have lo_r23 := ti_lo r23
      have hi_r23 := ti_hi r23
      refine ok_ite ?_ ?_
      · intro c24
        rw [ti_eq] at c24
        refine ok_ite ?_ ?_
        · intro c25
          rw [ti_le] at c25
          exact ok_mono (k_X4_readCall_b97 RE hRE a1 a3 μ hI_μ (by omega)) (fun q h => ⟨h.1, hF_μ.trans h.2⟩)
        · intro c25
          rw [ti_le] at c25
          have g26 := ti_lo (μ.1 16 2)
          have g26h := ti_hi (μ.1 16 2)
          refine ok_bv (fun μ27 e_μ27 => ?_)
          have hI_μ27 : IX μ27 := by rw [e_μ27]; exact IX_F hI_μ (rt_16_2 _)
          have hF_μ27 : Fr [(0, 16, 2), (0, 16, 3), (0, 16, 6), (1, 17, 0), (2, 2, 1), (2, 2, 2), (3, 2, 1), (3, 2, 4), (3, 2, 5), (3, 2, 6)] true μ μ27 := by rw [e_μ27]; exact Fr.put hF_μ (by decide +kernel)
          have hr_μ27 : μ27.2.2 = μ.2.2 := (by rw [e_μ27]; rfl : μ27.2.2 = μ.2.2).trans hr_μ
          try rw [hr_μ27]
          refine ok_bw (hRE (a2 + (1 : Int32)) μ27 hI_μ27 (by (try rw [hr_μ27]); (try rw [TI.e (e := (a2 + (1 : Int32))) (n := (a2.toInt + 1)) (TI.add TI.rf (TI.lit (by decide)) (by omega) (by omega))]); omega)) ?_
          rintro μ28 ⟨hI_μ28, hC_μ28⟩
          have hF_μ28 : Fr [(0, 16, 2), (0, 16, 3), (0, 16, 6), (1, 17, 0), (2, 2, 1), (2, 2, 2), (3, 2, 1), (3, 2, 4), (3, 2, 5), (3, 2, 6)] true μ μ28 := hF_μ27.trans (hC_μ28.mono (by decide +kernel) (by decide))
          have hr_μ28 : μ28.2.2 = μ.2.2 := (hC_μ28.2 rfl : μ28.2.2 = μ27.2.2).trans hr_μ27
          try rw [hr_μ28]
          refine ok_bv (fun v30 ev30 => ?_)
          first | have tv30 : v30.toInt = (a3.toInt + 1) := (congrArg Int32.toInt ev30).trans (TI.e (n := (a3.toInt + 1)) (TI.add TI.rf (TI.lit (by decide)) (by omega) (by omega))) | have tv30 : v30.toInt ≤ a3.toInt + 1 := by rw [ev30]; exact ti_inc _ | skip
          exact ok_mono (ih a1 a2 v30 μ28 hI_μ28 (by (try rw [hr_μ28]); omega)) (fun q h => ⟨h.1, hF_μ28.trans h.2⟩)
      · intro c24
        rw [ti_eq] at c24
        exact ok_mono (k_X4_readCall_b97 RE hRE a1 a3 μ hI_μ (by omega)) (fun q h => ⟨h.1, hF_μ.trans h.2⟩)
set_option maxHeartbeats 4000000 in
set_option maxRecDepth 100000 in
theorem k_X4_readCall {nE : Nat} (RE : Int32 → Mem → Option Mem) (hRE : ∀ (z1 : Int32) (μ1 : Mem), IX μ1 → (0 ≤ (z1).toInt ∧ (z1).toInt ≤ 20 ∧ 20 - (z1).toInt < nE) → ok (RE z1 μ1) (fun q => IX q ∧ Fr [(0, 16, 2), (0, 16, 3), (0, 16, 6), (1, 17, 0), (2, 2, 1), (2, 2, 2), (3, 2, 1), (3, 2, 4), (3, 2, 5), (3, 2, 6)] true μ1 q)) (a1 : Int32) (a2 : Int32) (μ : Mem) (hI_μ : IX μ) (hc : 0 ≤ (a2).toInt ∧ (a2).toInt < 20 ∧ 19 - (a2).toInt < nE) : ok (p_X4_readCall RE a1 a2 μ) (fun q => IX q ∧ Fr [(0, 16, 2), (0, 16, 3), (0, 16, 6), (1, 17, 0), (2, 2, 1), (2, 2, 2), (3, 2, 1), (3, 2, 4), (3, 2, 5), (3, 2, 6)] true μ q) := by
  have li0 : (0 : Int32).toInt = 0 := by decide
  have li1 : (1 : Int32).toInt = 1 := by decide
  have li3 : (3 : Int32).toInt = 3 := by decide
  have li40 : (40 : Int32).toInt = 40 := by decide
  have li41 : (41 : Int32).toInt = 41 := by decide
  have hF_μ : Fr [(0, 16, 2), (0, 16, 3), (0, 16, 6), (1, 17, 0), (2, 2, 1), (2, 2, 2), (3, 2, 1), (3, 2, 4), (3, 2, 5), (3, 2, 6)] true μ μ := Fr.rf
  have hr_μ : μ.2.2 = μ.2.2 := rfl
  rw [p_X4_readCall_eq]
  have lo_a1 := ti_lo a1
  have hi_a1 := ti_hi a1
  have lo_a2 := ti_lo a2
  have hi_a2 := ti_hi a2
  have g1 := ti_lo (μ.1 16 2)
  have g1h := ti_hi (μ.1 16 2)
  refine ok_bv (fun μ2 e_μ2 => ?_)
  have hI_μ2 : IX μ2 := by rw [e_μ2]; exact IX_F hI_μ (rt_16_2 _)
  have hF_μ2 : Fr [(0, 16, 2), (0, 16, 3), (0, 16, 6), (1, 17, 0), (2, 2, 1), (2, 2, 2), (3, 2, 1), (3, 2, 4), (3, 2, 5), (3, 2, 6)] true μ μ2 := by rw [e_μ2]; exact Fr.put hF_μ (by decide +kernel)
  have hr_μ2 : μ2.2.2 = μ.2.2 := (by rw [e_μ2]; rfl : μ2.2.2 = μ.2.2).trans hr_μ
  try rw [hr_μ2]
  refine ok_bd (k_X3_count (sel 2 (μ.2.2 16 4)) (sel_2 _) (3 : Int32) μ2 hI_μ2) ?_
  rintro r4 μ3 ⟨hI_μ3, hC_μ3⟩
  have hI_μ3 : IX μ3 := hI_μ3
  have hC_μ3 : Fr [(2, 2, 1), (3, 2, 1)] true μ2 μ3 := hC_μ3
  have lo_r4 := ti_lo r4
  have hi_r4 := ti_hi r4
  have hF_μ3 : Fr [(0, 16, 2), (0, 16, 3), (0, 16, 6), (1, 17, 0), (2, 2, 1), (2, 2, 2), (3, 2, 1), (3, 2, 4), (3, 2, 5), (3, 2, 6)] true μ μ3 := hF_μ2.trans (hC_μ3.mono (by decide +kernel) (by decide))
  have hr_μ3 : μ3.2.2 = μ.2.2 := (hC_μ3.2 rfl : μ3.2.2 = μ2.2.2).trans hr_μ2
  try rw [hr_μ3]
  refine ok_bd (k_X4_take (40 : Int32) μ3 hI_μ3) ?_
  rintro r6 μ5 ⟨hI_μ5, hC_μ5, p_μ5⟩
  have hI_μ5 : IX μ5 := hI_μ5
  have hC_μ5 : Fr [(0, 16, 2), (0, 16, 3)] true μ3 μ5 := hC_μ5
  dsimp only at p_μ5
  have lo_r6 := ti_lo r6
  have hi_r6 := ti_hi r6
  have hF_μ5 : Fr [(0, 16, 2), (0, 16, 3), (0, 16, 6), (1, 17, 0), (2, 2, 1), (2, 2, 2), (3, 2, 1), (3, 2, 4), (3, 2, 5), (3, 2, 6)] true μ μ5 := hF_μ3.trans (hC_μ5.mono (by decide +kernel) (by decide))
  have hr_μ5 : μ5.2.2 = μ.2.2 := (hC_μ5.2 rfl : μ5.2.2 = μ3.2.2).trans hr_μ3
  try rw [hr_μ5]
  refine ok_bd (k_X4_isWell  μ5 hI_μ5) ?_
  rintro r8 μ7 ⟨hq9, p_r8⟩
  obtain rfl : μ5 = μ7 := hq9
  dsimp only at p_r8
  have lo_r8 := ti_lo r8
  have hi_r8 := ti_hi r8
  try rw [hr_μ5]
  refine ok_ite ?_ ?_
  · intro c9
    rw [ti_eq] at c9
    exact ok_mono (k_X4_readCall_b97 RE hRE a1 (0 : Int32) μ5 hI_μ5 (by (try rw [hr_μ5]); omega)) (fun q h => ⟨h.1, hF_μ5.trans h.2⟩)
  · intro c9
    rw [ti_eq] at c9
    refine ok_bd (k_X4_here  μ5 hI_μ5) ?_
    rintro r15 μ14 hq9
    obtain rfl : μ5 = μ14 := hq9
    have lo_r15 := ti_lo r15
    have hi_r15 := ti_hi r15
    try rw [hr_μ5]
    refine ok_ite ?_ ?_
    · intro c16
      rw [ti_eq] at c16
      exact ok_mono (k_X4_readCall_b97 RE hRE a1 (0 : Int32) μ5 hI_μ5 (by (try rw [hr_μ5]); omega)) (fun q h => ⟨h.1, hF_μ5.trans h.2⟩)
    · intro c16
      rw [ti_eq] at c16
      refine ok_bw (hRE (a2 + (1 : Int32)) μ5 hI_μ5 (by (try rw [hr_μ5]); (try rw [TI.e (e := (a2 + (1 : Int32))) (n := (a2.toInt + 1)) (TI.add TI.rf (TI.lit (by decide)) (by omega) (by omega))]); omega)) ?_
      rintro μ17 ⟨hI_μ17, hC_μ17⟩
      have hF_μ17 : Fr [(0, 16, 2), (0, 16, 3), (0, 16, 6), (1, 17, 0), (2, 2, 1), (2, 2, 2), (3, 2, 1), (3, 2, 4), (3, 2, 5), (3, 2, 6)] true μ μ17 := hF_μ5.trans (hC_μ17.mono (by decide +kernel) (by decide))
      have hr_μ17 : μ17.2.2 = μ.2.2 := (hC_μ17.2 rfl : μ17.2.2 = μ5.2.2).trans hr_μ5
      try rw [hr_μ17]
      obtain ⟨fu, hfu0, hfu⟩ := fuel_ex
      rw [hfu0]
      exact ok_mono (k_X4_readCall_b53 RE hRE fu a1 a2 (1 : Int32) μ17 hI_μ17 (by (try rw [hr_μ17]); omega)) (fun q h => ⟨h.1, hF_μ17.trans h.2⟩)

set_option maxHeartbeats 4000000 in
set_option maxRecDepth 100000 in
theorem k_X4_readReckoned {nE : Nat} (RE : Int32 → Mem → Option Mem) (hRE : ∀ (z1 : Int32) (μ1 : Mem), IX μ1 → (0 ≤ (z1).toInt ∧ (z1).toInt ≤ 20 ∧ 20 - (z1).toInt < nE) → ok (RE z1 μ1) (fun q => IX q ∧ Fr [(0, 16, 2), (0, 16, 3), (0, 16, 6), (1, 17, 0), (2, 2, 1), (2, 2, 2), (3, 2, 1), (3, 2, 4), (3, 2, 5), (3, 2, 6)] true μ1 q)) (a1 : Int32) (μ : Mem) (hI_μ : IX μ) (hc : 0 ≤ (a1).toInt ∧ (a1).toInt < 20 ∧ 19 - (a1).toInt < nE) : ok (p_X4_readReckoned RE a1 μ) (fun q => IX q ∧ Fr [(0, 16, 2), (0, 16, 3), (0, 16, 6), (1, 17, 0), (2, 2, 1), (2, 2, 2), (3, 2, 1), (3, 2, 4), (3, 2, 5), (3, 2, 6)] true μ q) := by
  have li0 : (0 : Int32).toInt = 0 := by decide
  have li1 : (1 : Int32).toInt = 1 := by decide
  have li2 : (2 : Int32).toInt = 2 := by decide
  have li41 : (41 : Int32).toInt = 41 := by decide
  have hF_μ : Fr [(0, 16, 2), (0, 16, 3), (0, 16, 6), (1, 17, 0), (2, 2, 1), (2, 2, 2), (3, 2, 1), (3, 2, 4), (3, 2, 5), (3, 2, 6)] true μ μ := Fr.rf
  have hr_μ : μ.2.2 = μ.2.2 := rfl
  rw [p_X4_readReckoned_eq]
  have lo_a1 := ti_lo a1
  have hi_a1 := ti_hi a1
  refine ok_bw (hRE (a1 + (1 : Int32)) μ hI_μ (by (try rw [TI.e (e := (a1 + (1 : Int32))) (n := (a1.toInt + 1)) (TI.add TI.rf (TI.lit (by decide)) (by omega) (by omega))]); omega)) ?_
  rintro μ1 ⟨hI_μ1, hC_μ1⟩
  have hF_μ1 : Fr [(0, 16, 2), (0, 16, 3), (0, 16, 6), (1, 17, 0), (2, 2, 1), (2, 2, 2), (3, 2, 1), (3, 2, 4), (3, 2, 5), (3, 2, 6)] true μ μ1 := hF_μ.trans (hC_μ1.mono (by decide +kernel) (by decide))
  have hr_μ1 : μ1.2.2 = μ.2.2 := (hC_μ1.2 rfl : μ1.2.2 = μ.2.2).trans hr_μ
  try rw [hr_μ1]
  refine ok_bd (k_X4_isWell  μ1 hI_μ1) ?_
  rintro r4 μ3 ⟨hq9, p_r4⟩
  obtain rfl : μ1 = μ3 := hq9
  dsimp only at p_r4
  have lo_r4 := ti_lo r4
  have hi_r4 := ti_hi r4
  try rw [hr_μ1]
  refine ok_ite ?_ ?_
  · intro c5
    rw [ti_eq] at c5
    exact ok_some ⟨hI_μ1, hF_μ1⟩
  · intro c5
    rw [ti_eq] at c5
    refine ok_bd (k_X4_here  μ1 hI_μ1) ?_
    rintro r7 μ6 hq9
    obtain rfl : μ1 = μ6 := hq9
    have lo_r7 := ti_lo r7
    have hi_r7 := ti_hi r7
    try rw [hr_μ1]
    refine ok_ite ?_ ?_
    · intro c8
      rw [ti_eq] at c8
      have g9 := ti_lo (μ1.1 16 2)
      have g9h := ti_hi (μ1.1 16 2)
      refine ok_bw (k_X4_fail (μ1.1 16 2) μ1 hI_μ1) ?_
      rintro μ10 ⟨hI_μ10, hC_μ10⟩
      have hF_μ10 : Fr [(0, 16, 2), (0, 16, 3), (0, 16, 6), (1, 17, 0), (2, 2, 1), (2, 2, 2), (3, 2, 1), (3, 2, 4), (3, 2, 5), (3, 2, 6)] true μ μ10 := hF_μ1.trans (hC_μ10.mono (by decide +kernel) (by decide))
      have hr_μ10 : μ10.2.2 = μ.2.2 := (hC_μ10.2 rfl : μ10.2.2 = μ1.2.2).trans hr_μ1
      try rw [hr_μ10]
      exact ok_some ⟨hI_μ10, hF_μ10⟩
    · intro c8
      rw [ti_eq] at c8
      have g12 := ti_lo (μ1.1 16 2)
      have g12h := ti_hi (μ1.1 16 2)
      refine ok_bv (fun μ13 e_μ13 => ?_)
      have hI_μ13 : IX μ13 := by rw [e_μ13]; exact IX_F hI_μ1 (rt_16_2 _)
      have hF_μ13 : Fr [(0, 16, 2), (0, 16, 3), (0, 16, 6), (1, 17, 0), (2, 2, 1), (2, 2, 2), (3, 2, 1), (3, 2, 4), (3, 2, 5), (3, 2, 6)] true μ μ13 := by rw [e_μ13]; exact Fr.put hF_μ1 (by decide +kernel)
      have hr_μ13 : μ13.2.2 = μ.2.2 := (by rw [e_μ13]; rfl : μ13.2.2 = μ1.2.2).trans hr_μ1
      try rw [hr_μ13]
      refine ok_bw (hRE (a1 + (1 : Int32)) μ13 hI_μ13 (by (try rw [hr_μ13]); (try rw [TI.e (e := (a1 + (1 : Int32))) (n := (a1.toInt + 1)) (TI.add TI.rf (TI.lit (by decide)) (by omega) (by omega))]); omega)) ?_
      rintro μ14 ⟨hI_μ14, hC_μ14⟩
      have hF_μ14 : Fr [(0, 16, 2), (0, 16, 3), (0, 16, 6), (1, 17, 0), (2, 2, 1), (2, 2, 2), (3, 2, 1), (3, 2, 4), (3, 2, 5), (3, 2, 6)] true μ μ14 := hF_μ13.trans (hC_μ14.mono (by decide +kernel) (by decide))
      have hr_μ14 : μ14.2.2 = μ.2.2 := (hC_μ14.2 rfl : μ14.2.2 = μ13.2.2).trans hr_μ13
      try rw [hr_μ14]
      refine ok_bd (k_X4_take (41 : Int32) μ14 hI_μ14) ?_
      rintro r17 μ16 ⟨hI_μ16, hC_μ16, p_μ16⟩
      have hI_μ16 : IX μ16 := hI_μ16
      have hC_μ16 : Fr [(0, 16, 2), (0, 16, 3)] true μ14 μ16 := hC_μ16
      dsimp only at p_μ16
      have lo_r17 := ti_lo r17
      have hi_r17 := ti_hi r17
      have hF_μ16 : Fr [(0, 16, 2), (0, 16, 3), (0, 16, 6), (1, 17, 0), (2, 2, 1), (2, 2, 2), (3, 2, 1), (3, 2, 4), (3, 2, 5), (3, 2, 6)] true μ μ16 := hF_μ14.trans (hC_μ16.mono (by decide +kernel) (by decide))
      have hr_μ16 : μ16.2.2 = μ.2.2 := (hC_μ16.2 rfl : μ16.2.2 = μ14.2.2).trans hr_μ14
      try rw [hr_μ16]
      refine ok_bd (k_X3_add (sel 2 (μ.2.2 16 4)) (sel_2 _) (2 : Int32) r7 (0 : Int32) μ16 hI_μ16 (by (try rw [hr_μ16]); omega)) ?_
      rintro r19 μ18 ⟨hI_μ18, hC_μ18⟩
      have hI_μ18 : IX μ18 := hI_μ18
      have hC_μ18 : Fr [(2, 2, 2), (3, 2, 4), (3, 2, 5), (3, 2, 6)] true μ16 μ18 := hC_μ18
      have lo_r19 := ti_lo r19
      have hi_r19 := ti_hi r19
      have hF_μ18 : Fr [(0, 16, 2), (0, 16, 3), (0, 16, 6), (1, 17, 0), (2, 2, 1), (2, 2, 2), (3, 2, 1), (3, 2, 4), (3, 2, 5), (3, 2, 6)] true μ μ18 := hF_μ16.trans (hC_μ18.mono (by decide +kernel) (by decide))
      have hr_μ18 : μ18.2.2 = μ.2.2 := (hC_μ18.2 rfl : μ18.2.2 = μ16.2.2).trans hr_μ16
      try rw [hr_μ18]
      exact ok_some ⟨hI_μ18, hF_μ18⟩

set_option maxHeartbeats 4000000 in
set_option maxRecDepth 100000 in
theorem k_X4_readTwo {nE : Nat} (RE : Int32 → Mem → Option Mem) (hRE : ∀ (z1 : Int32) (μ1 : Mem), IX μ1 → (0 ≤ (z1).toInt ∧ (z1).toInt ≤ 20 ∧ 20 - (z1).toInt < nE) → ok (RE z1 μ1) (fun q => IX q ∧ Fr [(0, 16, 2), (0, 16, 3), (0, 16, 6), (1, 17, 0), (2, 2, 1), (2, 2, 2), (3, 2, 1), (3, 2, 4), (3, 2, 5), (3, 2, 6)] true μ1 q)) (a1 : Int32) (a2 : Int32) (μ : Mem) (hI_μ : IX μ) (hc : 0 ≤ (a1).toInt ∧ (a1).toInt < 20 ∧ 19 - (a1).toInt < nE) : ok (p_X4_readTwo RE a1 a2 μ) (fun q => IX q ∧ Fr [(0, 16, 2), (0, 16, 3), (0, 16, 6), (1, 17, 0), (2, 2, 1), (2, 2, 2), (3, 2, 1), (3, 2, 4), (3, 2, 5), (3, 2, 6)] true μ q) := by
  have li0 : (0 : Int32).toInt = 0 := by decide
  have li1 : (1 : Int32).toInt = 1 := by decide
  have li44 : (44 : Int32).toInt = 44 := by decide
  have hF_μ : Fr [(0, 16, 2), (0, 16, 3), (0, 16, 6), (1, 17, 0), (2, 2, 1), (2, 2, 2), (3, 2, 1), (3, 2, 4), (3, 2, 5), (3, 2, 6)] true μ μ := Fr.rf
  have hr_μ : μ.2.2 = μ.2.2 := rfl
  rw [p_X4_readTwo_eq]
  have lo_a1 := ti_lo a1
  have hi_a1 := ti_hi a1
  have lo_a2 := ti_lo a2
  have hi_a2 := ti_hi a2
  refine ok_bw (hRE (a1 + (1 : Int32)) μ hI_μ (by (try rw [TI.e (e := (a1 + (1 : Int32))) (n := (a1.toInt + 1)) (TI.add TI.rf (TI.lit (by decide)) (by omega) (by omega))]); omega)) ?_
  rintro μ1 ⟨hI_μ1, hC_μ1⟩
  have hF_μ1 : Fr [(0, 16, 2), (0, 16, 3), (0, 16, 6), (1, 17, 0), (2, 2, 1), (2, 2, 2), (3, 2, 1), (3, 2, 4), (3, 2, 5), (3, 2, 6)] true μ μ1 := hF_μ.trans (hC_μ1.mono (by decide +kernel) (by decide))
  have hr_μ1 : μ1.2.2 = μ.2.2 := (hC_μ1.2 rfl : μ1.2.2 = μ.2.2).trans hr_μ
  try rw [hr_μ1]
  refine ok_bd (k_X4_take (44 : Int32) μ1 hI_μ1) ?_
  rintro r4 μ3 ⟨hI_μ3, hC_μ3, p_μ3⟩
  have hI_μ3 : IX μ3 := hI_μ3
  have hC_μ3 : Fr [(0, 16, 2), (0, 16, 3)] true μ1 μ3 := hC_μ3
  dsimp only at p_μ3
  have lo_r4 := ti_lo r4
  have hi_r4 := ti_hi r4
  have hF_μ3 : Fr [(0, 16, 2), (0, 16, 3), (0, 16, 6), (1, 17, 0), (2, 2, 1), (2, 2, 2), (3, 2, 1), (3, 2, 4), (3, 2, 5), (3, 2, 6)] true μ μ3 := hF_μ1.trans (hC_μ3.mono (by decide +kernel) (by decide))
  have hr_μ3 : μ3.2.2 = μ.2.2 := (hC_μ3.2 rfl : μ3.2.2 = μ1.2.2).trans hr_μ1
  try rw [hr_μ3]
  refine ok_bw (hRE (a1 + (1 : Int32)) μ3 hI_μ3 (by (try rw [hr_μ3]); (try rw [TI.e (e := (a1 + (1 : Int32))) (n := (a1.toInt + 1)) (TI.add TI.rf (TI.lit (by decide)) (by omega) (by omega))]); omega)) ?_
  rintro μ5 ⟨hI_μ5, hC_μ5⟩
  have hF_μ5 : Fr [(0, 16, 2), (0, 16, 3), (0, 16, 6), (1, 17, 0), (2, 2, 1), (2, 2, 2), (3, 2, 1), (3, 2, 4), (3, 2, 5), (3, 2, 6)] true μ μ5 := hF_μ3.trans (hC_μ5.mono (by decide +kernel) (by decide))
  have hr_μ5 : μ5.2.2 = μ.2.2 := (hC_μ5.2 rfl : μ5.2.2 = μ3.2.2).trans hr_μ3
  try rw [hr_μ5]
  refine ok_bd (k_X4_take a2 μ5 hI_μ5) ?_
  rintro r8 μ7 ⟨hI_μ7, hC_μ7, p_μ7⟩
  have hI_μ7 : IX μ7 := hI_μ7
  have hC_μ7 : Fr [(0, 16, 2), (0, 16, 3)] true μ5 μ7 := hC_μ7
  dsimp only at p_μ7
  have lo_r8 := ti_lo r8
  have hi_r8 := ti_hi r8
  have hF_μ7 : Fr [(0, 16, 2), (0, 16, 3), (0, 16, 6), (1, 17, 0), (2, 2, 1), (2, 2, 2), (3, 2, 1), (3, 2, 4), (3, 2, 5), (3, 2, 6)] true μ μ7 := hF_μ5.trans (hC_μ7.mono (by decide +kernel) (by decide))
  have hr_μ7 : μ7.2.2 = μ.2.2 := (hC_μ7.2 rfl : μ7.2.2 = μ5.2.2).trans hr_μ5
  try rw [hr_μ7]
  exact ok_some ⟨hI_μ7, hF_μ7⟩

set_option maxHeartbeats 4000000 in
set_option maxRecDepth 100000 in
theorem k_X3_leadHere (a0 : Nat) (q0 : sh 0 a0 = (0, 2)) (a1 : Int32) (μ : Mem) (hI_μ : IX μ) : ok (p_X3_leadHere a0 a1 μ) (fun q => IX q ∧ Fr [(3, 2, 5)] true μ q) := by
  have li0 : (0 : Int32).toInt = 0 := by decide
  have li1 : (1 : Int32).toInt = 1 := by decide
  have li2472 : (2472 : Int32).toInt = 2472 := by decide
  have hF_μ : Fr [(3, 2, 5)] true μ μ := Fr.rf
  have hr_μ : μ.2.2 = μ.2.2 := rfl
  rw [p_X3_leadHere_eq]
  have lo_a1 := ti_lo a1
  have hi_a1 := ti_hi a1
  refine ok_ite ?_ ?_
  · intro c1
    rw [ti_lt] at c1
    exact ok_some ⟨hI_μ, hF_μ⟩
  · intro c1
    rw [ti_lt] at c1
    refine ok_ite ?_ ?_
    · intro c2
      rw [ti_le] at c2
      exact ok_some ⟨hI_μ, hF_μ⟩
    · intro c2
      rw [ti_le] at c2
      have g3 := rgc_2_2 q0 hI_μ
      refine ok_gd (inb_iff.mpr (by omega)) ?_
      refine ok_bv (fun μ4 e_μ4 => ?_)
      have hI_μ4 : IX μ4 := by rw [e_μ4]; exact IX_F hI_μ (rtr_2_5 q0 _ _)
      have hF_μ4 : Fr [(3, 2, 5)] true μ μ4 := by rw [e_μ4]; exact Fr.putr (ci := 2) (off := 5) hF_μ (by decide +kernel) q0
      have hr_μ4 : μ4.2.2 = μ.2.2 := (by rw [e_μ4]; rfl : μ4.2.2 = μ.2.2).trans hr_μ
      exact ok_some ⟨hI_μ4, hF_μ4⟩
