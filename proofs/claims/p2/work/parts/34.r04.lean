set_option maxHeartbeats 4000000 in
set_option maxRecDepth 100000 in
theorem k_X12_goesOn (a1 : Int32) (a2 : Int32) (μ : Mem) (hI_μ : IM μ) (hc : 0 ≤ (a1).toInt ∧ (a1).toInt < 800 ∧ (a2).toInt = (μ.1 16 (a1).toNatClampNeg).toInt) : ok (p_X12_goesOn a1 a2 μ) (fun q => IM q.2 ∧ Fr [(0, 0, 4), (0, 0, 5), (1, 17, 0), (1, 21, 0)] true μ q.2 ∧ (((q.1).toInt = 0 ∨ (q.1).toInt = 1) ∧ (μ.1 0 4).toInt ≤ (q.2.1 0 4).toInt)) := by
  have li0 : (0 : Int32).toInt = 0 := by decide
  have li1 : (1 : Int32).toInt = 1 := by decide
  have li5 : (5 : Int32).toInt = 5 := by decide
  have li11 : (11 : Int32).toInt = 11 := by decide
  have li44 : (44 : Int32).toInt = 44 := by decide
  have hF_μ : Fr [(0, 0, 4), (0, 0, 5), (1, 17, 0), (1, 21, 0)] true μ μ := Fr.rf
  have hr_μ : μ.2.2 = μ.2.2 := rfl
  rw [p_X12_goesOn_eq]
  have lo_a1 := ti_lo a1
  have hi_a1 := ti_hi a1
  have lo_a2 := ti_lo a2
  have hi_a2 := ti_hi a2
  have g1 := rgm_0_4 hI_μ
  refine ok_ite ?_ ?_
  · intro c2
    rw [ti_eq] at c2
    have g5 := rgm_0_3 hI_μ
    refine ok_bd (k_X12_here  μ hI_μ) ?_
    rintro r4 μ3 ⟨hq9, p_r4⟩
    obtain rfl : μ = μ3 := hq9
    dsimp only at p_r4
    have lo_r4 := ti_lo r4
    have hi_r4 := ti_hi r4
    refine ok_ite ?_ ?_
    · intro c6
      rw [ti_eq] at c6
      have y7 := tf_isSign r4
      refine ok_bd (k_X12_fails (μ.1 0 4) μ hI_μ) ?_
      rintro r9 μ8 ⟨hI_μ8, hC_μ8, p_μ8⟩
      have hI_μ8 : IM μ8 := hI_μ8
      have hC_μ8 : Fr [(0, 0, 5)] true μ μ8 := hC_μ8
      dsimp only at p_μ8
      have lo_r9 := ti_lo r9
      have hi_r9 := ti_hi r9
      have hF_μ8 : Fr [(0, 0, 4), (0, 0, 5), (1, 17, 0), (1, 21, 0)] true μ μ8 := hF_μ.trans (hC_μ8.mono (by decide +kernel) (by decide))
      have hr_μ8 : μ8.2.2 = μ.2.2 := (hC_μ8.2 rfl : μ8.2.2 = μ.2.2).trans hr_μ
      refine ok_gd (isB_of (by omega)) ?_
      have g10 := rgm_0_4 hI_μ8
      have f11 : (μ8.1 0 4).toInt = (μ.1 0 4).toInt := congrArg Int32.toInt (hC_μ8.1 0 4 (by decide +kernel))
      exact ok_some ⟨hI_μ8, hF_μ8, by (try dsimp only); (try rw [hr_μ8]); omega⟩
    · intro c6
      rw [ti_eq] at c6
      have y13 := tf_isSign r4
      refine ok_bd (k_X12_here  μ hI_μ) ?_
      rintro r15 μ14 ⟨hq9, p_r15⟩
      obtain rfl : μ = μ14 := hq9
      dsimp only at p_r15
      have lo_r15 := ti_lo r15
      have hi_r15 := ti_hi r15
      refine ok_gd (inb_iff.mpr (by omega)) ?_
      refine ok_bv (fun μ16 e_μ16 => ?_)
      have hI_μ16 : IM μ16 := by rw [e_μ16]; exact IM_17 hI_μ (by omega)
      have hF_μ16 : Fr [(0, 0, 4), (0, 0, 5), (1, 17, 0), (1, 21, 0)] true μ μ16 := by rw [e_μ16]; exact Fr.puta hF_μ (by decide +kernel)
      have hr_μ16 : μ16.2.2 = μ.2.2 := (by rw [e_μ16]; rfl : μ16.2.2 = μ.2.2).trans hr_μ
      have g17 := rgm_0_4 hI_μ16
      have f18 : (μ16.1 0 4).toInt = (μ.1 0 4).toInt := congrArg Int32.toInt ((by rw [e_μ16]; rfl : μ16.1 0 4 = μ.1 0 4))
      refine ok_bv (fun μ19 e_μ19 => ?_)
      have hI_μ19 : IM μ19 := by rw [e_μ19]; exact IM_F hI_μ16 (rpm_0_4 (by (try rw [TI.e (e := ((μ16.1 0 4) + (1 : Int32))) (n := ((μ16.1 0 4).toInt + 1)) (TI.add TI.rf (TI.lit (by decide)) (by omega) (by omega))]); omega))
      have hF_μ19 : Fr [(0, 0, 4), (0, 0, 5), (1, 17, 0), (1, 21, 0)] true μ μ19 := by rw [e_μ19]; exact Fr.put hF_μ16 (by decide +kernel)
      have v_μ19 : (μ19.1 0 4).toInt = ((μ16.1 0 4).toInt + 1) := by rw [e_μ19, sF_v]; exact TI.e (n := ((μ16.1 0 4).toInt + 1)) (TI.add TI.rf (TI.lit (by decide)) (by omega) (by omega))
      have hr_μ19 : μ19.2.2 = μ.2.2 := (by rw [e_μ19]; rfl : μ19.2.2 = μ16.2.2).trans hr_μ16
      have g20 := rgm_0_4 hI_μ19
      exact ok_some ⟨hI_μ19, hF_μ19, by (try dsimp only); (try rw [hr_μ19]); omega⟩
  · intro c2
    rw [ti_eq] at c2
    refine ok_ite ?_ ?_
    · intro c21
      rw [ti_eq] at c21
      refine ok_gd (inb_iff.mpr (by omega)) ?_
      have g22 := hI_μ.2 a1.toNatClampNeg
      refine ok_bv (fun v23 ev23 => ?_)
      have tv23 : v23.toInt = (μ.1 17 a1.toNatClampNeg).toInt := congrArg Int32.toInt ev23
      refine ok_gd (inb_iff.mpr (by omega)) ?_
      refine ok_gd (inb_iff.mpr (by omega)) ?_
      refine ok_bv (fun μ24 e_μ24 => ?_)
      have hI_μ24 : IM μ24 := by rw [e_μ24]; exact IM_F hI_μ (rtma_21 _ _)
      have hF_μ24 : Fr [(0, 0, 4), (0, 0, 5), (1, 17, 0), (1, 21, 0)] true μ μ24 := by rw [e_μ24]; exact Fr.puta hF_μ (by decide +kernel)
      have hr_μ24 : μ24.2.2 = μ.2.2 := (by rw [e_μ24]; rfl : μ24.2.2 = μ.2.2).trans hr_μ
      have g27 := rgm_0_4 hI_μ24
      have f28 : (μ24.1 0 4).toInt = (μ.1 0 4).toInt := congrArg Int32.toInt ((by rw [e_μ24]; rfl : μ24.1 0 4 = μ.1 0 4))
      have g29 := rgm_0_3 hI_μ24
      refine ok_bd (k_X12_takes (44 : Int32) μ24 hI_μ24 (by (try rw [hr_μ24]); omega)) ?_
      rintro r26 μ25 ⟨hI_μ25, hC_μ25, p_μ25⟩
      have hI_μ25 : IM μ25 := hI_μ25
      have hC_μ25 : Fr [(0, 0, 4), (0, 0, 5)] true μ24 μ25 := hC_μ25
      dsimp only at p_μ25
      have lo_r26 := ti_lo r26
      have hi_r26 := ti_hi r26
      have hF_μ25 : Fr [(0, 0, 4), (0, 0, 5), (1, 17, 0), (1, 21, 0)] true μ μ25 := hF_μ24.trans (hC_μ25.mono (by decide +kernel) (by decide))
      have hr_μ25 : μ25.2.2 = μ.2.2 := (hC_μ25.2 rfl : μ25.2.2 = μ24.2.2).trans hr_μ24
      try simp only [hr_μ25, hr_μ24] at p_μ25
      have g30 := rgm_0_4 hI_μ25
      refine ok_gd (isB_of (by omega)) ?_
      exact ok_some ⟨hI_μ25, hF_μ25, by (try dsimp only); (try rw [hr_μ25]); omega⟩
    · intro c21
      rw [ti_eq] at c21
      have g34 := rgm_0_3 hI_μ
      refine ok_bd (k_X12_takes (44 : Int32) μ hI_μ (by omega)) ?_
      rintro r33 μ32 ⟨hI_μ32, hC_μ32, p_μ32⟩
      have hI_μ32 : IM μ32 := hI_μ32
      have hC_μ32 : Fr [(0, 0, 4), (0, 0, 5)] true μ μ32 := hC_μ32
      dsimp only at p_μ32
      have lo_r33 := ti_lo r33
      have hi_r33 := ti_hi r33
      have hF_μ32 : Fr [(0, 0, 4), (0, 0, 5), (1, 17, 0), (1, 21, 0)] true μ μ32 := hF_μ.trans (hC_μ32.mono (by decide +kernel) (by decide))
      have hr_μ32 : μ32.2.2 = μ.2.2 := (hC_μ32.2 rfl : μ32.2.2 = μ.2.2).trans hr_μ
      try simp only [hr_μ32, hr_μ] at p_μ32
      have g35 := rgm_0_4 hI_μ32
      refine ok_gd (isB_of (by omega)) ?_
      exact ok_some ⟨hI_μ32, hF_μ32, by (try dsimp only); (try rw [hr_μ32]); omega⟩

theorem rtm_arr {i k : Nat} {v : Int} (q : (sh 1 i).1 = 1) (h : i ≠ 19 ∧ i ≠ 16 ∧ i ≠ 17) : rngms i k v := by
  have h0 : i ≠ 0 := by
    intro e
    subst e
    rw [shm_0] at q
    exact absurd q (by decide)
  refine ⟨?_, h.2⟩
  replace h := h.1
  unfold rngm
  refine ⟨?_, ?_, ?_, ?_, ?_, ?_, ?_, ?_, ?_, ?_, ?_, ?_, ?_, ?_, ?_, ?_, ?_, ?_, ?_, ?_⟩ <;> first | exact fun e => absurd e h0 | exact fun e => absurd e h
set_option maxHeartbeats 4000000 in
theorem k_X12_copy_b3 (a0 : Nat) (q0 : (sh 1 a0).1 = 1) (a1 a2 : Int32) (a3 : Nat) (q3 : (sh 1 a3).1 = 1) (a4 : Int32) (hc : 0 ≤ (a1).toInt ∧ 0 ≤ (a4).toInt ∧ (a1).toInt + (a2).toInt ≤ ((sh 1 a0).2 : Int) ∧ (a4).toInt + (a2).toInt ≤ ((sh 1 a3).2 : Int) ∧ a3 ≠ 19 ∧ a3 ≠ 16 ∧ a3 ≠ 17 ∧ a0 ≠ a3) : ∀ (n : Nat) (a5 : Int32) (μ : Mem), IM μ → (0 ≤ a5.toInt ∧ 2147483648 - a5.toInt < n) → ok (p_X12_copy_b3 n a0 a1 a2 a3 a4 a5 μ) (fun q => IM q ∧ Fr [(1, a3, 0)] true μ q ∧ (∀ k : Nat, a5.toInt ≤ (k : Int) → (k : Int) < a2.toInt → q.1 a3 (a4.toInt.toNat + k) = μ.1 a0 (a1.toInt.toNat + k)) ∧ (∀ j : Nat, ((j : Int) < a4.toInt + a5.toInt ∨ a4.toInt + a2.toInt ≤ (j : Int)) → q.1 a3 j = μ.1 a3 j)) := by
  obtain ⟨h1, h2, h3, h4, h5, h5a, h5b, h6⟩ := hc
  have s0 := sh_small 1 a0
  have s3 := sh_small 1 a3
  have hlo := ti_lo a2
  have hhi := ti_hi a2
  intro n
  induction n with
  | zero => intro a5 μ hI hc; have := ti_hi a5; exact absurd hc.2 (by omega)
  | succ n ih =>
    intro a5 μ hI hc
    rw [p_X12_copy_b3_s]
    refine ok_ite ?_ ?_
    · intro c
      rw [ti_le] at c
      exact ok_some ⟨hI, Fr.rf, fun k hk1 hk2 => by omega, fun j hj => rfl⟩
    · intro c
      rw [ti_le] at c
      have t1 : (a1 + a5).toInt = a1.toInt + a5.toInt := ti_add (by omega) (by omega)
      have t4 : (a4 + a5).toInt = a4.toInt + a5.toInt := ti_add (by omega) (by omega)
      refine ok_gd (inb_iff.mpr (by rw [t1]; omega)) ?_
      refine ok_gd (inb_iff.mpr (by rw [t4]; omega)) ?_
      refine ok_bv (fun μ2 e2 => ?_)
      refine ok_bv (fun v3 e3 => ?_)
      have e1 : (1 : Int32).toInt = 1 := by decide
      have tv : v3.toInt = a5.toInt + 1 := by rw [e3, ti_add (by omega) (by omega), e1]
      have n1 : (a1 + a5).toNatClampNeg = (a1.toInt + a5.toInt).toNat := by
        show (a1 + a5).toInt.toNat = _
        rw [t1]
      have n4 : (a4 + a5).toNatClampNeg = (a4.toInt + a5.toInt).toNat := by
        show (a4 + a5).toInt.toNat = _
        rw [t4]
      rw [n1, n4] at e2
      clear t1 t4 n1 n4 e3
      have hI2 : IM μ2 := by rw [e2]; exact IM_F hI (rtm_arr q3 ⟨h5, h5a, h5b⟩)
      have hF2 : Fr [(1, a3, 0)] true μ μ2 := by rw [e2]; exact Fr.puta Fr.rf (by simp)
      refine ok_mono (ih v3 μ2 hI2 (by omega)) (fun q h => ⟨h.1, hF2.trans h.2.1, fun k hk1 hk2 => ?_, fun j hj => ?_⟩)
      · by_cases e : (k : Int) = a5.toInt
        · rw [h.2.2.2 _ (by left; omega), e2, sF_1, if_pos rfl, if_pos (by omega)]
          have e9 : (a1.toInt + a5.toInt).toNat = a1.toInt.toNat + k := by omega
          rw [e9]
        · rw [h.2.2.1 k (by omega) hk2, e2, sF_i h6]
      · rw [h.2.2.2 j (by omega), e2, sF_1, if_pos rfl, if_neg (by omega)]
theorem k_X12_copy (a0 : Nat) (q0 : (sh 1 a0).1 = 1) (a1 : Int32) (a2 : Int32) (a3 : Nat) (q3 : (sh 1 a3).1 = 1) (a4 : Int32) (μ : Mem) (hI_μ : IM μ) (hc : 0 ≤ (a1).toInt ∧ 0 ≤ (a4).toInt ∧ (a1).toInt + (a2).toInt ≤ ((sh 1 a0).2 : Int) ∧ (a4).toInt + (a2).toInt ≤ ((sh 1 a3).2 : Int) ∧ a3 ≠ 19 ∧ a3 ≠ 16 ∧ a3 ≠ 17 ∧ a0 ≠ a3) : ok (p_X12_copy a0 a1 a2 a3 a4 μ) (fun q => IM q ∧ Fr [(1, a3, 0)] true μ q ∧ ((∀ k : Nat, (k : Int) < (a2).toInt → q.1 a3 (((a4).toInt).toNat + k) = μ.1 a0 (((a1).toInt).toNat + k)) ∧ (∀ j : Nat, ((j : Int) < (a4).toInt ∨ (a4).toInt + (a2).toInt ≤ (j : Int)) → q.1 a3 j = μ.1 a3 j))) := by
  rw [p_X12_copy_eq]
  obtain ⟨fu, hfu0, hfu⟩ := fuel_ex
  rw [hfu0]
  have e0 : (0 : Int32).toInt = 0 := by decide
  refine ok_mono (k_X12_copy_b3 a0 q0 a1 a2 a3 q3 a4 hc fu 0 μ hI_μ (by omega)) (fun q h => ⟨h.1, h.2.1, fun k hk => h.2.2.1 k (by omega) hk, fun j hj => h.2.2.2 j (by omega)⟩)

set_option maxHeartbeats 4000000 in
set_option maxRecDepth 100000 in
theorem k_X12_layRead (a1 : Int32) (a2 : Int32) (μ : Mem) (hI_μ : IM μ) (hc : (μ.1 0 36).toInt < 30) : ok (p_X12_layRead a1 a2 μ) (fun q => IM q ∧ Fr [(0, 0, 36), (1, 22, 0), (1, 23, 0)] true μ q ∧ ((q.1 0 36).toInt = (μ.1 0 36).toInt + 1)) := by
  have li0 : (0 : Int32).toInt = 0 := by decide
  have li1 : (1 : Int32).toInt = 1 := by decide
  have hF_μ : Fr [(0, 0, 36), (1, 22, 0), (1, 23, 0)] true μ μ := Fr.rf
  have hr_μ : μ.2.2 = μ.2.2 := rfl
  rw [p_X12_layRead_eq]
  have lo_a1 := ti_lo a1
  have hi_a1 := ti_hi a1
  have lo_a2 := ti_lo a2
  have hi_a2 := ti_hi a2
  have g1 := rgm_0_36 hI_μ
  refine ok_gd (inb_iff.mpr (by omega)) ?_
  refine ok_bv (fun μ2 e_μ2 => ?_)
  have hI_μ2 : IM μ2 := by rw [e_μ2]; exact IM_F hI_μ (rtma_22 _ _)
  have hF_μ2 : Fr [(0, 0, 36), (1, 22, 0), (1, 23, 0)] true μ μ2 := by rw [e_μ2]; exact Fr.puta hF_μ (by decide +kernel)
  have hr_μ2 : μ2.2.2 = μ.2.2 := (by rw [e_μ2]; rfl : μ2.2.2 = μ.2.2).trans hr_μ
  have g3 := rgm_0_36 hI_μ2
  have f4 : (μ2.1 0 36).toInt = (μ.1 0 36).toInt := congrArg Int32.toInt ((by rw [e_μ2]; rfl : μ2.1 0 36 = μ.1 0 36))
  refine ok_gd (inb_iff.mpr (by omega)) ?_
  refine ok_bv (fun μ5 e_μ5 => ?_)
  have hI_μ5 : IM μ5 := by rw [e_μ5]; exact IM_F hI_μ2 (rtma_23 _ _)
  have hF_μ5 : Fr [(0, 0, 36), (1, 22, 0), (1, 23, 0)] true μ μ5 := by rw [e_μ5]; exact Fr.puta hF_μ2 (by decide +kernel)
  have hr_μ5 : μ5.2.2 = μ.2.2 := (by rw [e_μ5]; rfl : μ5.2.2 = μ2.2.2).trans hr_μ2
  have g6 := rgm_0_36 hI_μ5
  have f7 : (μ5.1 0 36).toInt = (μ2.1 0 36).toInt := congrArg Int32.toInt ((by rw [e_μ5]; rfl : μ5.1 0 36 = μ2.1 0 36))
  refine ok_bv (fun μ8 e_μ8 => ?_)
  have hI_μ8 : IM μ8 := by rw [e_μ8]; exact IM_F hI_μ5 (rpm_0_36 (by (try rw [TI.e (e := ((μ5.1 0 36) + (1 : Int32))) (n := ((μ5.1 0 36).toInt + 1)) (TI.add TI.rf (TI.lit (by decide)) (by omega) (by omega))]); omega))
  have hF_μ8 : Fr [(0, 0, 36), (1, 22, 0), (1, 23, 0)] true μ μ8 := by rw [e_μ8]; exact Fr.put hF_μ5 (by decide +kernel)
  have v_μ8 : (μ8.1 0 36).toInt = ((μ5.1 0 36).toInt + 1) := by rw [e_μ8, sF_v]; exact TI.e (n := ((μ5.1 0 36).toInt + 1)) (TI.add TI.rf (TI.lit (by decide)) (by omega) (by omega))
  have hr_μ8 : μ8.2.2 = μ.2.2 := (by rw [e_μ8]; rfl : μ8.2.2 = μ5.2.2).trans hr_μ5
  have g9 := rgm_0_36 hI_μ8
  exact ok_some ⟨hI_μ8, hF_μ8, by (try dsimp only); (try rw [hr_μ8]); omega⟩

set_option maxHeartbeats 4000000 in
set_option maxRecDepth 100000 in
theorem k_X12_closeAll_b2 : ∀ (n : Nat) (a2 : Int32) (μ : Mem), IM μ → (0 ≤ (a2).toInt ∧ (a2).toInt ≤ 30 ∧ (a2).toInt < n) → ok (p_X12_closeAll_b2 n a2 μ) (fun q => IM q.2 ∧ Fr [(0, 0, 4), (0, 0, 5), (1, 24, 0)] true μ q.2 ∧ (0 ≤ (q.1).toInt ∧ (q.1).toInt ≤ (a2).toInt ∧ (μ.1 0 4).toInt ≤ (q.2.1 0 4).toInt)) := by
  have lim1 : (-1 : Int32).toInt = -1 := by decide
  have li0 : (0 : Int32).toInt = 0 := by decide
  have li1 : (1 : Int32).toInt = 1 := by decide
  have li44 : (44 : Int32).toInt = 44 := by decide
  have li93 : (93 : Int32).toInt = 93 := by decide
  intro n
  induction n with
  | zero => intro a2 μ hI_μ hc; exact absurd hc (by have lo_a2 := ti_lo a2; have hi_a2 := ti_hi a2; omega)
  | succ n ih =>
    intro a2 μ hI_μ hc
    have hF_μ : Fr [(0, 0, 4), (0, 0, 5), (1, 24, 0)] true μ μ := Fr.rf
    have hr_μ : μ.2.2 = μ.2.2 := rfl
    rw [p_X12_closeAll_b2_s]
    have lo_a2 := ti_lo a2
    have hi_a2 := ti_hi a2
    have g2 := rgm_0_4 hI_μ
    refine ok_ite ?_ ?_
    · intro c3
      rw [ti_le] at c3
      exact ok_some ⟨hI_μ, hF_μ, by (try dsimp only); omega⟩
    · intro c3
      rw [ti_le] at c3
      refine ok_bv (fun v4 ev4 => ?_)
      first | have tv4 : v4.toInt = (a2.toInt - 1) := (congrArg Int32.toInt ev4).trans (TI.e (n := (a2.toInt - 1)) (TI.sub TI.rf (TI.lit (by decide)) (by omega) (by omega))) | skip
      refine ok_gd (inb_iff.mpr (by omega)) ?_
      refine ok_gd (inb_iff.mpr (by omega)) ?_
      refine ok_bv (fun μ5 e_μ5 => ?_)
      have hI_μ5 : IM μ5 := by rw [e_μ5]; exact IM_F hI_μ (rtma_24 _ _)
      have hF_μ5 : Fr [(0, 0, 4), (0, 0, 5), (1, 24, 0)] true μ μ5 := by rw [e_μ5]; exact Fr.puta hF_μ (by decide +kernel)
      have hr_μ5 : μ5.2.2 = μ.2.2 := (by rw [e_μ5]; rfl : μ5.2.2 = μ.2.2).trans hr_μ
      refine ok_gd (inb_iff.mpr (by (try rw [TI.e (e := (a2 - (1 : Int32))) (n := (a2.toInt - 1)) (TI.sub TI.rf (TI.lit (by decide)) (by omega) (by omega))]); omega)) ?_
      refine ok_ite ?_ ?_
      · intro c6
        rw [ti_eq] at c6
        have g9 := rgm_0_4 hI_μ5
        have f10 : (μ5.1 0 4).toInt = (μ.1 0 4).toInt := congrArg Int32.toInt ((by rw [e_μ5]; rfl : μ5.1 0 4 = μ.1 0 4))
        have g11 := rgm_0_3 hI_μ5
        refine ok_bd (k_X12_takes (44 : Int32) μ5 hI_μ5 (by (try rw [hr_μ5]); omega)) ?_
        rintro r8 μ7 ⟨hI_μ7, hC_μ7, p_μ7⟩
        have hI_μ7 : IM μ7 := hI_μ7
        have hC_μ7 : Fr [(0, 0, 4), (0, 0, 5)] true μ5 μ7 := hC_μ7
        dsimp only at p_μ7
        have lo_r8 := ti_lo r8
        have hi_r8 := ti_hi r8
        have hF_μ7 : Fr [(0, 0, 4), (0, 0, 5), (1, 24, 0)] true μ μ7 := hF_μ5.trans (hC_μ7.mono (by decide +kernel) (by decide))
        have hr_μ7 : μ7.2.2 = μ.2.2 := (hC_μ7.2 rfl : μ7.2.2 = μ5.2.2).trans hr_μ5
        try simp only [hr_μ7, hr_μ5] at p_μ7
        have g12 := rgm_0_4 hI_μ7
        exact ok_some ⟨hI_μ7, hF_μ7, by (try dsimp only); (try rw [hr_μ7]); omega⟩
      · intro c6
        rw [ti_eq] at c6
        have g15 := rgm_0_4 hI_μ5
        have f16 : (μ5.1 0 4).toInt = (μ.1 0 4).toInt := congrArg Int32.toInt ((by rw [e_μ5]; rfl : μ5.1 0 4 = μ.1 0 4))
        have g17 := rgm_0_3 hI_μ5
        refine ok_bd (k_X12_takes (93 : Int32) μ5 hI_μ5 (by (try rw [hr_μ5]); omega)) ?_
        rintro r14 μ13 ⟨hI_μ13, hC_μ13, p_μ13⟩
        have hI_μ13 : IM μ13 := hI_μ13
        have hC_μ13 : Fr [(0, 0, 4), (0, 0, 5)] true μ5 μ13 := hC_μ13
        dsimp only at p_μ13
        have lo_r14 := ti_lo r14
        have hi_r14 := ti_hi r14
        have hF_μ13 : Fr [(0, 0, 4), (0, 0, 5), (1, 24, 0)] true μ μ13 := hF_μ5.trans (hC_μ13.mono (by decide +kernel) (by decide))
        have hr_μ13 : μ13.2.2 = μ.2.2 := (hC_μ13.2 rfl : μ13.2.2 = μ5.2.2).trans hr_μ5
        try simp only [hr_μ13, hr_μ5] at p_μ13
        have g18 := rgm_0_4 hI_μ13
        refine ok_ite ?_ ?_
        · intro c19
          rw [ti_eq] at c19
          exact ok_some ⟨hI_μ13, hF_μ13, by (try dsimp only); (try rw [hr_μ13]); omega⟩
        · intro c19
          rw [ti_eq] at c19
          refine ok_bv (fun v20 ev20 => ?_)
          first | have tv20 : v20.toInt = (a2.toInt + (-1)) := (congrArg Int32.toInt ev20).trans (TI.e (n := (a2.toInt + (-1))) (TI.add TI.rf (TI.lit (by decide)) (by omega) (by omega))) | skip
          exact ok_mono (ih v20 μ13 hI_μ13 (by (try rw [hr_μ13]); omega)) (fun q h => ⟨h.1, hF_μ13.trans h.2.1, by have h9 := h.2.2; (try dsimp only at h9 ⊢); omega⟩)
set_option maxHeartbeats 4000000 in
set_option maxRecDepth 100000 in
theorem k_X12_closeAll (a1 : Int32) (μ : Mem) (hI_μ : IM μ) (hc : 0 ≤ (a1).toInt ∧ (a1).toInt ≤ 30) : ok (p_X12_closeAll a1 μ) (fun q => IM q.2 ∧ Fr [(0, 0, 4), (0, 0, 5), (1, 24, 0)] true μ q.2 ∧ (0 ≤ (q.1).toInt ∧ (q.1).toInt ≤ (a1).toInt ∧ (μ.1 0 4).toInt ≤ (q.2.1 0 4).toInt)) := by
  have li0 : (0 : Int32).toInt = 0 := by decide
  have li1 : (1 : Int32).toInt = 1 := by decide
  have hF_μ : Fr [(0, 0, 4), (0, 0, 5), (1, 24, 0)] true μ μ := Fr.rf
  have hr_μ : μ.2.2 = μ.2.2 := rfl
  rw [p_X12_closeAll_eq]
  have lo_a1 := ti_lo a1
  have hi_a1 := ti_hi a1
  have g1 := rgm_0_4 hI_μ
  obtain ⟨fu, hfu0, hfu⟩ := fuel_ex
  rw [hfu0]
  exact ok_mono (k_X12_closeAll_b2  fu a1 μ hI_μ (by omega)) (fun q h => ⟨h.1, hF_μ.trans h.2.1, by have h9 := h.2.2; (try dsimp only at h9 ⊢); omega⟩)
