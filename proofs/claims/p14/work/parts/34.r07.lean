set_option maxHeartbeats 4000000 in
set_option maxRecDepth 100000 in
theorem k_X12_readTask_b133 {n87 : Nat} (K87 : Int32 → Mem → Option (Int32 × Mem)) (hK87 : ∀ (z1 : Int32) (μ1 : Mem), IM μ1 → (((z1).toInt = 0 ∨ (μ1.1 0 48).toInt < 5) ∧ (μ1.1 0 48).toInt ≤ 5 ∧ 6 - (μ1.1 0 48).toInt < n87) → ok (K87 z1 μ1) (fun q => IM q.2 ∧ Fr [(0, 0, 36), (0, 0, 37), (0, 0, 4), (0, 0, 48), (0, 0, 49), (0, 0, 5), (0, 0, 6), (0, 0, 7), (1, 22, 0), (1, 23, 0), (1, 24, 0)] true μ1 q.2 ∧ (((q.1).toInt = 0 ∨ (q.1).toInt = 1)))) (k0 : Int32) (μ : Mem) (hI_μ : IM μ) (hc : 6 - (μ.1 0 48).toInt < n87 ∧ ((k0).toInt = 0 ∨ ((μ.1 0 48).toInt < 5 ∧ (μ.1 0 4).toInt < (μ.1 0 3).toInt))) : ok (p_X12_readTask_b133 K87 k0 μ) (fun q => IM q.2 ∧ Fr [(0, 0, 36), (0, 0, 37), (0, 0, 4), (0, 0, 48), (0, 0, 49), (0, 0, 5), (0, 0, 6), (0, 0, 7), (1, 22, 0), (1, 23, 0), (1, 24, 0)] true μ q.2 ∧ (((q.1).toInt = 0 ∨ (q.1).toInt = 1))) := by
  have li0 : (0 : Int32).toInt = 0 := by decide
  have li1 : (1 : Int32).toInt = 1 := by decide
  have hF_μ : Fr [(0, 0, 36), (0, 0, 37), (0, 0, 4), (0, 0, 48), (0, 0, 49), (0, 0, 5), (0, 0, 6), (0, 0, 7), (1, 22, 0), (1, 23, 0), (1, 24, 0)] true μ μ := Fr.rf
  have hr_μ : μ.2.2 = μ.2.2 := rfl
  rw [p_X12_readTask_b133_eq]
  have lo_k0 := ti_lo k0
  have hi_k0 := ti_hi k0
  have g66 := rgm_0_48 hI_μ
  have g67 := rgm_0_4 hI_μ
  have g68 := rgm_0_3 hI_μ
  refine ok_ite ?_ ?_
  · intro c69
    rw [ti_eq] at c69
    exact ok_mono (hK87 k0 μ hI_μ (by omega)) (fun q h => ⟨h.1, hF_μ.trans h.2.1, h.2.2⟩)
  · intro c69
    rw [ti_eq] at c69
    refine ok_bv (fun μ70 e_μ70 => ?_)
    have hI_μ70 : IM μ70 := by rw [e_μ70]; exact IM_F hI_μ (rpm_0_4 (by (try rw [TI.e (e := ((μ.1 0 4) + (1 : Int32))) (n := ((μ.1 0 4).toInt + 1)) (TI.add TI.rf (TI.lit (by decide)) (by omega) (by omega))]); omega))
    have hF_μ70 : Fr [(0, 0, 36), (0, 0, 37), (0, 0, 4), (0, 0, 48), (0, 0, 49), (0, 0, 5), (0, 0, 6), (0, 0, 7), (1, 22, 0), (1, 23, 0), (1, 24, 0)] true μ μ70 := by rw [e_μ70]; exact Fr.put hF_μ (by decide +kernel)
    have v_μ70 : (μ70.1 0 4).toInt = ((μ.1 0 4).toInt + 1) := by rw [e_μ70, sF_v]; exact TI.e (n := ((μ.1 0 4).toInt + 1)) (TI.add TI.rf (TI.lit (by decide)) (by omega) (by omega))
    have hr_μ70 : μ70.2.2 = μ.2.2 := (by rw [e_μ70]; rfl : μ70.2.2 = μ.2.2).trans hr_μ
    have g71 := rgm_0_48 hI_μ70
    have f72 : (μ70.1 0 48).toInt = (μ.1 0 48).toInt := congrArg Int32.toInt ((by rw [e_μ70]; rfl : μ70.1 0 48 = μ.1 0 48))
    exact ok_mono (hK87 k0 μ70 hI_μ70 (by (try rw [hr_μ70]); omega)) (fun q h => ⟨h.1, hF_μ70.trans h.2.1, h.2.2⟩)
set_option maxHeartbeats 4000000 in
set_option maxRecDepth 100000 in
theorem k_X12_readTask_b132 {n87 : Nat} (K87 : Int32 → Mem → Option (Int32 × Mem)) (hK87 : ∀ (z1 : Int32) (μ1 : Mem), IM μ1 → (((z1).toInt = 0 ∨ (μ1.1 0 48).toInt < 5) ∧ (μ1.1 0 48).toInt ≤ 5 ∧ 6 - (μ1.1 0 48).toInt < n87) → ok (K87 z1 μ1) (fun q => IM q.2 ∧ Fr [(0, 0, 36), (0, 0, 37), (0, 0, 4), (0, 0, 48), (0, 0, 49), (0, 0, 5), (0, 0, 6), (0, 0, 7), (1, 22, 0), (1, 23, 0), (1, 24, 0)] true μ1 q.2 ∧ (((q.1).toInt = 0 ∨ (q.1).toInt = 1))))  (μ : Mem) (hI_μ : IM μ) (hc : 6 - (μ.1 0 48).toInt < n87) : ok (p_X12_readTask_b132 K87  μ) (fun q => IM q.2 ∧ Fr [(0, 0, 36), (0, 0, 37), (0, 0, 4), (0, 0, 48), (0, 0, 49), (0, 0, 5), (0, 0, 6), (0, 0, 7), (1, 22, 0), (1, 23, 0), (1, 24, 0)] true μ q.2 ∧ (((q.1).toInt = 0 ∨ (q.1).toInt = 1))) := by
  have li0 : (0 : Int32).toInt = 0 := by decide
  have li1 : (1 : Int32).toInt = 1 := by decide
  have hF_μ : Fr [(0, 0, 36), (0, 0, 37), (0, 0, 4), (0, 0, 48), (0, 0, 49), (0, 0, 5), (0, 0, 6), (0, 0, 7), (1, 22, 0), (1, 23, 0), (1, 24, 0)] true μ μ := Fr.rf
  have hr_μ : μ.2.2 = μ.2.2 := rfl
  rw [p_X12_readTask_b132_eq]
  have g65 := rgm_0_48 hI_μ
  have g73 := rgm_0_4 hI_μ
  have g74 := rgm_0_3 hI_μ
  exact ok_mono (k_X12_readTask_b133 _ hK87 (0 : Int32) μ hI_μ (by omega)) (fun q h => ⟨h.1, hF_μ.trans h.2.1, h.2.2⟩)
set_option maxHeartbeats 4000000 in
set_option maxRecDepth 100000 in
theorem k_X12_readTask_b87 : ∀ (n : Nat) (a1 : Int32) (μ : Mem), IM μ → (((a1).toInt = 0 ∨ (μ.1 0 48).toInt < 5) ∧ (μ.1 0 48).toInt ≤ 5 ∧ 6 - (μ.1 0 48).toInt < n) → ok (p_X12_readTask_b87 n a1 μ) (fun q => IM q.2 ∧ Fr [(0, 0, 36), (0, 0, 37), (0, 0, 4), (0, 0, 48), (0, 0, 49), (0, 0, 5), (0, 0, 6), (0, 0, 7), (1, 22, 0), (1, 23, 0), (1, 24, 0)] true μ q.2 ∧ (((q.1).toInt = 0 ∨ (q.1).toInt = 1))) := by
  have li0 : (0 : Int32).toInt = 0 := by decide
  have li1 : (1 : Int32).toInt = 1 := by decide
  have li5 : (5 : Int32).toInt = 5 := by decide
  have li41 : (41 : Int32).toInt = 41 := by decide
  have li44 : (44 : Int32).toInt = 44 := by decide
  intro n
  induction n with
  | zero => intro a1 μ hI_μ hc; exact absurd hc (by have lo_a1 := ti_lo a1; have hi_a1 := ti_hi a1; omega)
  | succ n ih =>
    intro a1 μ hI_μ hc
    have hF_μ : Fr [(0, 0, 36), (0, 0, 37), (0, 0, 4), (0, 0, 48), (0, 0, 49), (0, 0, 5), (0, 0, 6), (0, 0, 7), (1, 22, 0), (1, 23, 0), (1, 24, 0)] true μ μ := Fr.rf
    have hr_μ : μ.2.2 = μ.2.2 := rfl
    rw [p_X12_readTask_b87_s]
    have lo_a1 := ti_lo a1
    have hi_a1 := ti_hi a1
    have g35 := rgm_0_48 hI_μ
    refine ok_ite ?_ ?_
    · intro c36
      rw [ti_eq] at c36
      have g39 := rgm_0_4 hI_μ
      have g40 := rgm_0_3 hI_μ
      refine ok_bd (k_X12_takes (41 : Int32) μ hI_μ (by omega)) ?_
      rintro r38 μ37 ⟨hI_μ37, hC_μ37, p_μ37⟩
      have hI_μ37 : IM μ37 := hI_μ37
      have hC_μ37 : Fr [(0, 0, 4), (0, 0, 5)] true μ μ37 := hC_μ37
      dsimp only at p_μ37
      have lo_r38 := ti_lo r38
      have hi_r38 := ti_hi r38
      have hF_μ37 : Fr [(0, 0, 36), (0, 0, 37), (0, 0, 4), (0, 0, 48), (0, 0, 49), (0, 0, 5), (0, 0, 6), (0, 0, 7), (1, 22, 0), (1, 23, 0), (1, 24, 0)] true μ μ37 := hF_μ.trans (hC_μ37.mono (by decide +kernel) (by decide))
      have hr_μ37 : μ37.2.2 = μ.2.2 := (hC_μ37.2 rfl : μ37.2.2 = μ.2.2).trans hr_μ
      try simp only [hr_μ37, hr_μ] at p_μ37
      have g41 := rgm_0_4 hI_μ37
      refine ok_ite ?_ ?_
      · intro c42
        rw [ti_eq] at c42
        exact ok_some ⟨hI_μ37, hF_μ37, by (try dsimp only); (try rw [hr_μ37]); omega⟩
      · intro c42
        rw [ti_eq] at c42
        have g43 := rgm_0_3 hI_μ37
        have f44 : (μ37.1 0 3).toInt = (μ.1 0 3).toInt := congrArg Int32.toInt (hC_μ37.1 0 3 (by decide +kernel))
        refine ok_ite ?_ ?_
        · intro c45
          rw [ti_eq] at c45
          exact ok_some ⟨hI_μ37, hF_μ37, by (try dsimp only); (try rw [hr_μ37]); omega⟩
        · intro c45
          rw [ti_eq] at c45
          refine ok_bd (k_X12_fails (μ37.1 0 4) μ37 hI_μ37) ?_
          rintro r47 μ46 ⟨hI_μ46, hC_μ46, p_μ46⟩
          have hI_μ46 : IM μ46 := hI_μ46
          have hC_μ46 : Fr [(0, 0, 5)] true μ37 μ46 := hC_μ46
          dsimp only at p_μ46
          have lo_r47 := ti_lo r47
          have hi_r47 := ti_hi r47
          have hF_μ46 : Fr [(0, 0, 36), (0, 0, 37), (0, 0, 4), (0, 0, 48), (0, 0, 49), (0, 0, 5), (0, 0, 6), (0, 0, 7), (1, 22, 0), (1, 23, 0), (1, 24, 0)] true μ μ46 := hF_μ37.trans (hC_μ46.mono (by decide +kernel) (by decide))
          have hr_μ46 : μ46.2.2 = μ.2.2 := (hC_μ46.2 rfl : μ46.2.2 = μ37.2.2).trans hr_μ37
          refine ok_ite ?_ ?_
          · intro c48
            rw [ti_eq] at c48
            exact ok_some ⟨hI_μ46, hF_μ46, by (try dsimp only); (try rw [hr_μ46]); omega⟩
          · intro c48
            rw [ti_eq] at c48
            exact ok_some ⟨hI_μ46, hF_μ46, by (try dsimp only); (try rw [hr_μ46]); omega⟩
    · intro c36
      rw [ti_eq] at c36
      have g51 := rgm_0_4 hI_μ
      refine ok_bd (k_X12_readPart (1 : Int32) μ hI_μ) ?_
      rintro r50 μ49 ⟨hI_μ49, hC_μ49, p_μ49⟩
      have hI_μ49 : IM μ49 := hI_μ49
      have hC_μ49 : Fr [(0, 0, 36), (0, 0, 37), (0, 0, 4), (0, 0, 5), (0, 0, 6), (0, 0, 7), (1, 22, 0), (1, 23, 0), (1, 24, 0)] true μ μ49 := hC_μ49
      dsimp only at p_μ49
      have lo_r50 := ti_lo r50
      have hi_r50 := ti_hi r50
      have hF_μ49 : Fr [(0, 0, 36), (0, 0, 37), (0, 0, 4), (0, 0, 48), (0, 0, 49), (0, 0, 5), (0, 0, 6), (0, 0, 7), (1, 22, 0), (1, 23, 0), (1, 24, 0)] true μ μ49 := hF_μ.trans (hC_μ49.mono (by decide +kernel) (by decide))
      have hr_μ49 : μ49.2.2 = μ.2.2 := (hC_μ49.2 rfl : μ49.2.2 = μ.2.2).trans hr_μ
      try simp only [hr_μ49, hr_μ] at p_μ49
      have g52 := rgm_0_4 hI_μ49
      refine ok_ite ?_ ?_
      · intro c53
        rw [ti_eq] at c53
        exact ok_some ⟨hI_μ49, hF_μ49, by (try dsimp only); (try rw [hr_μ49]); omega⟩
      · intro c53
        rw [ti_eq] at c53
        have g54 := rgm_0_48 hI_μ49
        have f55 : (μ49.1 0 48).toInt = (μ.1 0 48).toInt := congrArg Int32.toInt (hC_μ49.1 0 48 (by decide +kernel))
        refine ok_bv (fun μ56 e_μ56 => ?_)
        have hI_μ56 : IM μ56 := by rw [e_μ56]; exact IM_F hI_μ49 (rpm_0_48 (by (try rw [TI.e (e := ((μ49.1 0 48) + (1 : Int32))) (n := ((μ49.1 0 48).toInt + 1)) (TI.add TI.rf (TI.lit (by decide)) (by omega) (by omega))]); omega))
        have hF_μ56 : Fr [(0, 0, 36), (0, 0, 37), (0, 0, 4), (0, 0, 48), (0, 0, 49), (0, 0, 5), (0, 0, 6), (0, 0, 7), (1, 22, 0), (1, 23, 0), (1, 24, 0)] true μ μ56 := by rw [e_μ56]; exact Fr.put hF_μ49 (by decide +kernel)
        have v_μ56 : (μ56.1 0 48).toInt = ((μ49.1 0 48).toInt + 1) := by rw [e_μ56, sF_v]; exact TI.e (n := ((μ49.1 0 48).toInt + 1)) (TI.add TI.rf (TI.lit (by decide)) (by omega) (by omega))
        have hr_μ56 : μ56.2.2 = μ.2.2 := (by rw [e_μ56]; rfl : μ56.2.2 = μ49.2.2).trans hr_μ49
        have g59 := rgm_0_3 hI_μ56
        have g60 := rgm_0_4 hI_μ56
        have f61 : (μ56.1 0 4).toInt = (μ49.1 0 4).toInt := congrArg Int32.toInt ((by rw [e_μ56]; rfl : μ56.1 0 4 = μ49.1 0 4))
        refine ok_bd (k_X12_here  μ56 hI_μ56) ?_
        rintro r58 μ57 ⟨hq9, p_r58⟩
        obtain rfl : μ56 = μ57 := hq9
        dsimp only at p_r58
        have lo_r58 := ti_lo r58
        have hi_r58 := ti_hi r58
        try simp only [hr_μ56] at p_r58
        refine ok_ite ?_ ?_
        · intro c62
          rw [ti_eq] at c62
          have g63 := rgm_0_48 hI_μ56
          refine ok_ite ?_ ?_
          · intro c64
            rw [ti_le] at c64
            exact ok_mono (k_X12_readTask_b132 _ ih  μ56 hI_μ56 (by (try rw [hr_μ56]); omega)) (fun q h => ⟨h.1, hF_μ56.trans h.2.1, h.2.2⟩)
          · intro c64
            rw [ti_le] at c64
            exact ok_mono (k_X12_readTask_b133 _ ih (1 : Int32) μ56 hI_μ56 (by (try rw [hr_μ56]); omega)) (fun q h => ⟨h.1, hF_μ56.trans h.2.1, h.2.2⟩)
        · intro c62
          rw [ti_eq] at c62
          have g75 := rgm_0_48 hI_μ56
          exact ok_mono (k_X12_readTask_b132 _ ih  μ56 hI_μ56 (by (try rw [hr_μ56]); omega)) (fun q h => ⟨h.1, hF_μ56.trans h.2.1, h.2.2⟩)
set_option maxHeartbeats 4000000 in
set_option maxRecDepth 100000 in
theorem k_X12_readTask_b86 (k0 : Int32) (μ : Mem) (hI_μ : IM μ) (hc : (μ.1 0 48).toInt = 0) : ok (p_X12_readTask_b86 k0 μ) (fun q => IM q.2 ∧ Fr [(0, 0, 36), (0, 0, 37), (0, 0, 4), (0, 0, 48), (0, 0, 49), (0, 0, 5), (0, 0, 6), (0, 0, 7), (1, 22, 0), (1, 23, 0), (1, 24, 0)] true μ q.2 ∧ (((q.1).toInt = 0 ∨ (q.1).toInt = 1))) := by
  have li0 : (0 : Int32).toInt = 0 := by decide
  have li1 : (1 : Int32).toInt = 1 := by decide
  have hF_μ : Fr [(0, 0, 36), (0, 0, 37), (0, 0, 4), (0, 0, 48), (0, 0, 49), (0, 0, 5), (0, 0, 6), (0, 0, 7), (1, 22, 0), (1, 23, 0), (1, 24, 0)] true μ μ := Fr.rf
  have hr_μ : μ.2.2 = μ.2.2 := rfl
  rw [p_X12_readTask_b86_eq]
  have lo_k0 := ti_lo k0
  have hi_k0 := ti_hi k0
  have g34 := rgm_0_48 hI_μ
  obtain ⟨fu, hfu0, hfu⟩ := fuel_ex
  rw [hfu0]
  exact ok_mono (k_X12_readTask_b87  fu k0 μ hI_μ (by omega)) (fun q h => ⟨h.1, hF_μ.trans h.2.1, h.2.2⟩)
set_option maxHeartbeats 4000000 in
set_option maxRecDepth 100000 in
theorem k_X12_readTask  (μ : Mem) (hI_μ : IM μ) : ok (p_X12_readTask  μ) (fun q => IM q.2 ∧ Fr [(0, 0, 36), (0, 0, 37), (0, 0, 4), (0, 0, 48), (0, 0, 49), (0, 0, 5), (0, 0, 6), (0, 0, 7), (1, 22, 0), (1, 23, 0), (1, 24, 0)] true μ q.2 ∧ (((q.1).toInt = 0 ∨ (q.1).toInt = 1))) := by
  have li0 : (0 : Int32).toInt = 0 := by decide
  have li1 : (1 : Int32).toInt = 1 := by decide
  have li40 : (40 : Int32).toInt = 40 := by decide
  have li41 : (41 : Int32).toInt = 41 := by decide
  have li97 : (97 : Int32).toInt = 97 := by decide
  have hF_μ : Fr [(0, 0, 36), (0, 0, 37), (0, 0, 4), (0, 0, 48), (0, 0, 49), (0, 0, 5), (0, 0, 6), (0, 0, 7), (1, 22, 0), (1, 23, 0), (1, 24, 0)] true μ μ := Fr.rf
  have hr_μ : μ.2.2 = μ.2.2 := rfl
  rw [p_X12_readTask_eq]
  refine ok_bw (k_X12_beginText  μ hI_μ) ?_
  rintro μ1 ⟨hI_μ1, hC_μ1⟩
  have hF_μ1 : Fr [(0, 0, 36), (0, 0, 37), (0, 0, 4), (0, 0, 48), (0, 0, 49), (0, 0, 5), (0, 0, 6), (0, 0, 7), (1, 22, 0), (1, 23, 0), (1, 24, 0)] true μ μ1 := hF_μ.trans (hC_μ1.mono (by decide +kernel) (by decide))
  have hr_μ1 : μ1.2.2 = μ.2.2 := (hC_μ1.2 rfl : μ1.2.2 = μ.2.2).trans hr_μ
  refine ok_bv (fun μ3 e_μ3 => ?_)
  have hI_μ3 : IM μ3 := by rw [e_μ3]; exact IM_F hI_μ1 (rpm_0_36 (by omega))
  have hF_μ3 : Fr [(0, 0, 36), (0, 0, 37), (0, 0, 4), (0, 0, 48), (0, 0, 49), (0, 0, 5), (0, 0, 6), (0, 0, 7), (1, 22, 0), (1, 23, 0), (1, 24, 0)] true μ μ3 := by rw [e_μ3]; exact Fr.put hF_μ1 (by decide +kernel)
  have v_μ3 : (μ3.1 0 36).toInt = 0 := by rw [e_μ3, sF_v]; exact TI.e (n := 0) (TI.lit (by decide))
  have hr_μ3 : μ3.2.2 = μ.2.2 := (by rw [e_μ3]; rfl : μ3.2.2 = μ1.2.2).trans hr_μ1
  refine ok_bv (fun μ4 e_μ4 => ?_)
  have hI_μ4 : IM μ4 := by rw [e_μ4]; exact IM_F hI_μ3 (rpm_0_37 (by omega))
  have hF_μ4 : Fr [(0, 0, 36), (0, 0, 37), (0, 0, 4), (0, 0, 48), (0, 0, 49), (0, 0, 5), (0, 0, 6), (0, 0, 7), (1, 22, 0), (1, 23, 0), (1, 24, 0)] true μ μ4 := by rw [e_μ4]; exact Fr.put hF_μ3 (by decide +kernel)
  have v_μ4 : (μ4.1 0 37).toInt = 0 := by rw [e_μ4, sF_v]; exact TI.e (n := 0) (TI.lit (by decide))
  have hr_μ4 : μ4.2.2 = μ.2.2 := (by rw [e_μ4]; rfl : μ4.2.2 = μ3.2.2).trans hr_μ3
  refine ok_bv (fun μ5 e_μ5 => ?_)
  have hI_μ5 : IM μ5 := by rw [e_μ5]; exact IM_F hI_μ4 (rpm_0_48 (by omega))
  have hF_μ5 : Fr [(0, 0, 36), (0, 0, 37), (0, 0, 4), (0, 0, 48), (0, 0, 49), (0, 0, 5), (0, 0, 6), (0, 0, 7), (1, 22, 0), (1, 23, 0), (1, 24, 0)] true μ μ5 := by rw [e_μ5]; exact Fr.put hF_μ4 (by decide +kernel)
  have v_μ5 : (μ5.1 0 48).toInt = 0 := by rw [e_μ5, sF_v]; exact TI.e (n := 0) (TI.lit (by decide))
  have hr_μ5 : μ5.2.2 = μ.2.2 := (by rw [e_μ5]; rfl : μ5.2.2 = μ4.2.2).trans hr_μ4
  have g8 := rgm_0_3 hI_μ5
  have g9 := rgm_0_4 hI_μ5
  refine ok_bd (k_X12_here  μ5 hI_μ5) ?_
  rintro r7 μ6 ⟨hq9, p_r7⟩
  obtain rfl : μ5 = μ6 := hq9
  dsimp only at p_r7
  have lo_r7 := ti_lo r7
  have hi_r7 := ti_hi r7
  try simp only [hr_μ5] at p_r7
  refine ok_ite ?_ ?_
  · intro c10
    rw [ti_eq] at c10
    have y11 := tf_isFunctionLetter r7
    refine ok_bd (k_X12_fails (μ5.1 0 4) μ5 hI_μ5) ?_
    rintro r13 μ12 ⟨hI_μ12, hC_μ12, p_μ12⟩
    have hI_μ12 : IM μ12 := hI_μ12
    have hC_μ12 : Fr [(0, 0, 5)] true μ5 μ12 := hC_μ12
    dsimp only at p_μ12
    have lo_r13 := ti_lo r13
    have hi_r13 := ti_hi r13
    have hF_μ12 : Fr [(0, 0, 36), (0, 0, 37), (0, 0, 4), (0, 0, 48), (0, 0, 49), (0, 0, 5), (0, 0, 6), (0, 0, 7), (1, 22, 0), (1, 23, 0), (1, 24, 0)] true μ μ12 := hF_μ5.trans (hC_μ12.mono (by decide +kernel) (by decide))
    have hr_μ12 : μ12.2.2 = μ.2.2 := (hC_μ12.2 rfl : μ12.2.2 = μ5.2.2).trans hr_μ5
    refine ok_gd (isB_of (by omega)) ?_
    exact ok_some ⟨hI_μ12, hF_μ12, by (try dsimp only); (try rw [hr_μ12]); omega⟩
  · intro c10
    rw [ti_eq] at c10
    have y15 := tf_isFunctionLetter r7
    refine ok_bd (k_X12_here  μ5 hI_μ5) ?_
    rintro r17 μ16 ⟨hq9, p_r17⟩
    obtain rfl : μ5 = μ16 := hq9
    dsimp only at p_r17
    have lo_r17 := ti_lo r17
    have hi_r17 := ti_hi r17
    try simp only [hr_μ5] at p_r17
    refine ok_bv (fun μ18 e_μ18 => ?_)
    have hI_μ18 : IM μ18 := by rw [e_μ18]; exact IM_F hI_μ5 (rtm_0_49 _)
    have hF_μ18 : Fr [(0, 0, 36), (0, 0, 37), (0, 0, 4), (0, 0, 48), (0, 0, 49), (0, 0, 5), (0, 0, 6), (0, 0, 7), (1, 22, 0), (1, 23, 0), (1, 24, 0)] true μ μ18 := by rw [e_μ18]; exact Fr.put hF_μ5 (by decide +kernel)
    have hr_μ18 : μ18.2.2 = μ.2.2 := (by rw [e_μ18]; rfl : μ18.2.2 = μ5.2.2).trans hr_μ5
    have g19 := rgm_0_4 hI_μ18
    have f20 : (μ18.1 0 4).toInt = (μ5.1 0 4).toInt := congrArg Int32.toInt ((by rw [e_μ18]; rfl : μ18.1 0 4 = μ5.1 0 4))
    refine ok_bv (fun μ21 e_μ21 => ?_)
    have hI_μ21 : IM μ21 := by rw [e_μ21]; exact IM_F hI_μ18 (rpm_0_4 (by (try rw [TI.e (e := ((μ18.1 0 4) + (1 : Int32))) (n := ((μ18.1 0 4).toInt + 1)) (TI.add TI.rf (TI.lit (by decide)) (by omega) (by omega))]); omega))
    have hF_μ21 : Fr [(0, 0, 36), (0, 0, 37), (0, 0, 4), (0, 0, 48), (0, 0, 49), (0, 0, 5), (0, 0, 6), (0, 0, 7), (1, 22, 0), (1, 23, 0), (1, 24, 0)] true μ μ21 := by rw [e_μ21]; exact Fr.put hF_μ18 (by decide +kernel)
    have v_μ21 : (μ21.1 0 4).toInt = ((μ18.1 0 4).toInt + 1) := by rw [e_μ21, sF_v]; exact TI.e (n := ((μ18.1 0 4).toInt + 1)) (TI.add TI.rf (TI.lit (by decide)) (by omega) (by omega))
    have hr_μ21 : μ21.2.2 = μ.2.2 := (by rw [e_μ21]; rfl : μ21.2.2 = μ18.2.2).trans hr_μ18
    have g24 := rgm_0_4 hI_μ21
    have g25 := rgm_0_3 hI_μ21
    have f26 : (μ21.1 0 3).toInt = (μ5.1 0 3).toInt := congrArg Int32.toInt (((by rw [e_μ21]; rfl : μ21.1 0 3 = μ18.1 0 3)).trans ((by rw [e_μ18]; rfl : μ18.1 0 3 = μ5.1 0 3)))
    refine ok_bd (k_X12_takes (40 : Int32) μ21 hI_μ21 (by (try rw [hr_μ21]); omega)) ?_
    rintro r23 μ22 ⟨hI_μ22, hC_μ22, p_μ22⟩
    have hI_μ22 : IM μ22 := hI_μ22
    have hC_μ22 : Fr [(0, 0, 4), (0, 0, 5)] true μ21 μ22 := hC_μ22
    dsimp only at p_μ22
    have lo_r23 := ti_lo r23
    have hi_r23 := ti_hi r23
    have hF_μ22 : Fr [(0, 0, 36), (0, 0, 37), (0, 0, 4), (0, 0, 48), (0, 0, 49), (0, 0, 5), (0, 0, 6), (0, 0, 7), (1, 22, 0), (1, 23, 0), (1, 24, 0)] true μ μ22 := hF_μ21.trans (hC_μ22.mono (by decide +kernel) (by decide))
    have hr_μ22 : μ22.2.2 = μ.2.2 := (hC_μ22.2 rfl : μ22.2.2 = μ21.2.2).trans hr_μ21
    try simp only [hr_μ22, hr_μ21] at p_μ22
    have g27 := rgm_0_4 hI_μ22
    refine ok_ite ?_ ?_
    · intro c28
      rw [ti_eq] at c28
      exact ok_some ⟨hI_μ22, hF_μ22, by (try dsimp only); (try rw [hr_μ22]); omega⟩
    · intro c28
      rw [ti_eq] at c28
      have g31 := rgm_0_3 hI_μ22
      have f32 : (μ22.1 0 3).toInt = (μ21.1 0 3).toInt := congrArg Int32.toInt (hC_μ22.1 0 3 (by decide +kernel))
      refine ok_bd (k_X12_here  μ22 hI_μ22) ?_
      rintro r30 μ29 ⟨hq9, p_r30⟩
      obtain rfl : μ22 = μ29 := hq9
      dsimp only at p_r30
      have lo_r30 := ti_lo r30
      have hi_r30 := ti_hi r30
      try simp only [hr_μ22] at p_r30
      refine ok_ite ?_ ?_
      · intro c33
        rw [ti_eq] at c33
        have g76 := rgm_0_48 hI_μ22
        have f77 : (μ22.1 0 48).toInt = (μ5.1 0 48).toInt := congrArg Int32.toInt ((hC_μ22.1 0 48 (by decide +kernel)).trans (((by rw [e_μ21]; rfl : μ21.1 0 48 = μ18.1 0 48)).trans ((by rw [e_μ18]; rfl : μ18.1 0 48 = μ5.1 0 48))))
        exact ok_mono (k_X12_readTask_b86  (0 : Int32) μ22 hI_μ22 (by (try rw [hr_μ22]); omega)) (fun q h => ⟨h.1, hF_μ22.trans h.2.1, h.2.2⟩)
      · intro c33
        rw [ti_eq] at c33
        have g78 := rgm_0_48 hI_μ22
        have f79 : (μ22.1 0 48).toInt = (μ5.1 0 48).toInt := congrArg Int32.toInt ((hC_μ22.1 0 48 (by decide +kernel)).trans (((by rw [e_μ21]; rfl : μ21.1 0 48 = μ18.1 0 48)).trans ((by rw [e_μ18]; rfl : μ18.1 0 48 = μ5.1 0 48))))
        exact ok_mono (k_X12_readTask_b86  (1 : Int32) μ22 hI_μ22 (by (try rw [hr_μ22]); omega)) (fun q h => ⟨h.1, hF_μ22.trans h.2.1, h.2.2⟩)

set_option maxHeartbeats 4000000 in
set_option maxRecDepth 100000 in
theorem k_X12_task  (μ : Mem) (hI_μ : IM μ) : ok (p_X12_task  μ) (fun q => IM q.2 ∧ Fr [(0, 0, 3), (0, 0, 36), (0, 0, 37), (0, 0, 4), (0, 0, 42), (0, 0, 43), (0, 0, 44), (0, 0, 45), (0, 0, 46), (0, 0, 47), (0, 0, 48), (0, 0, 49), (0, 0, 5), (0, 0, 6), (0, 0, 7), (0, 0, 95), (1, 22, 0), (1, 23, 0), (1, 24, 0), (1, 25, 0), (1, 26, 0)] true μ q.2) := by
  have lim1 : (-1 : Int32).toInt = -1 := by decide
  have li0 : (0 : Int32).toInt = 0 := by decide
  have li1 : (1 : Int32).toInt = 1 := by decide
  have hF_μ : Fr [(0, 0, 3), (0, 0, 36), (0, 0, 37), (0, 0, 4), (0, 0, 42), (0, 0, 43), (0, 0, 44), (0, 0, 45), (0, 0, 46), (0, 0, 47), (0, 0, 48), (0, 0, 49), (0, 0, 5), (0, 0, 6), (0, 0, 7), (0, 0, 95), (1, 22, 0), (1, 23, 0), (1, 24, 0), (1, 25, 0), (1, 26, 0)] true μ μ := Fr.rf
  have hr_μ : μ.2.2 = μ.2.2 := rfl
  rw [p_X12_task_eq]
  refine ok_bd (k_X12_readTask  μ hI_μ) ?_
  rintro r2 μ1 ⟨hI_μ1, hC_μ1, p_μ1⟩
  have hI_μ1 : IM μ1 := hI_μ1
  have hC_μ1 : Fr [(0, 0, 36), (0, 0, 37), (0, 0, 4), (0, 0, 48), (0, 0, 49), (0, 0, 5), (0, 0, 6), (0, 0, 7), (1, 22, 0), (1, 23, 0), (1, 24, 0)] true μ μ1 := hC_μ1
  dsimp only at p_μ1
  have lo_r2 := ti_lo r2
  have hi_r2 := ti_hi r2
  have hF_μ1 : Fr [(0, 0, 3), (0, 0, 36), (0, 0, 37), (0, 0, 4), (0, 0, 42), (0, 0, 43), (0, 0, 44), (0, 0, 45), (0, 0, 46), (0, 0, 47), (0, 0, 48), (0, 0, 49), (0, 0, 5), (0, 0, 6), (0, 0, 7), (0, 0, 95), (1, 22, 0), (1, 23, 0), (1, 24, 0), (1, 25, 0), (1, 26, 0)] true μ μ1 := hF_μ.trans (hC_μ1.mono (by decide +kernel) (by decide))
  have hr_μ1 : μ1.2.2 = μ.2.2 := (hC_μ1.2 rfl : μ1.2.2 = μ.2.2).trans hr_μ
  refine ok_bv (fun μ3 e_μ3 => ?_)
  have hI_μ3 : IM μ3 := by rw [e_μ3]; exact IM_F hI_μ1 (rpm_0_3 (by omega))
  have hF_μ3 : Fr [(0, 0, 3), (0, 0, 36), (0, 0, 37), (0, 0, 4), (0, 0, 42), (0, 0, 43), (0, 0, 44), (0, 0, 45), (0, 0, 46), (0, 0, 47), (0, 0, 48), (0, 0, 49), (0, 0, 5), (0, 0, 6), (0, 0, 7), (0, 0, 95), (1, 22, 0), (1, 23, 0), (1, 24, 0), (1, 25, 0), (1, 26, 0)] true μ μ3 := by rw [e_μ3]; exact Fr.put hF_μ1 (by decide +kernel)
  have v_μ3 : (μ3.1 0 3).toInt = 0 := by rw [e_μ3, sF_v]; exact TI.e (n := 0) (TI.lit (by decide))
  have hr_μ3 : μ3.2.2 = μ.2.2 := (by rw [e_μ3]; rfl : μ3.2.2 = μ1.2.2).trans hr_μ1
  refine ok_ite ?_ ?_
  · intro c4
    rw [ti_eq] at c4
    exact ok_some ⟨hI_μ3, hF_μ3⟩
  · intro c4
    rw [ti_eq] at c4
    refine ok_bv (fun μ5 e_μ5 => ?_)
    have hI_μ5 : IM μ5 := by rw [e_μ5]; exact IM_F hI_μ3 (rtm_0_95 _)
    have hF_μ5 : Fr [(0, 0, 3), (0, 0, 36), (0, 0, 37), (0, 0, 4), (0, 0, 42), (0, 0, 43), (0, 0, 44), (0, 0, 45), (0, 0, 46), (0, 0, 47), (0, 0, 48), (0, 0, 49), (0, 0, 5), (0, 0, 6), (0, 0, 7), (0, 0, 95), (1, 22, 0), (1, 23, 0), (1, 24, 0), (1, 25, 0), (1, 26, 0)] true μ μ5 := by rw [e_μ5]; exact Fr.put hF_μ3 (by decide +kernel)
    have v_μ5 : (μ5.1 0 95).toInt = 0 := by rw [e_μ5, sF_v]; exact TI.e (n := 0) (TI.lit (by decide))
    have hr_μ5 : μ5.2.2 = μ.2.2 := (by rw [e_μ5]; rfl : μ5.2.2 = μ3.2.2).trans hr_μ3
    have g6 := ti_lo (μ5.1 0 49)
    have g6h := ti_hi (μ5.1 0 49)
    refine ok_bv (fun μ7 e_μ7 => ?_)
    have hI_μ7 : IM μ7 := by rw [e_μ7]; exact IM_F hI_μ5 (rtm_0_42 _)
    have hF_μ7 : Fr [(0, 0, 3), (0, 0, 36), (0, 0, 37), (0, 0, 4), (0, 0, 42), (0, 0, 43), (0, 0, 44), (0, 0, 45), (0, 0, 46), (0, 0, 47), (0, 0, 48), (0, 0, 49), (0, 0, 5), (0, 0, 6), (0, 0, 7), (0, 0, 95), (1, 22, 0), (1, 23, 0), (1, 24, 0), (1, 25, 0), (1, 26, 0)] true μ μ7 := by rw [e_μ7]; exact Fr.put hF_μ5 (by decide +kernel)
    have v_μ7 : (μ7.1 0 42).toInt = (μ5.1 0 49).toInt := by rw [e_μ7, sF_v]
    have hr_μ7 : μ7.2.2 = μ.2.2 := (by rw [e_μ7]; rfl : μ7.2.2 = μ5.2.2).trans hr_μ5
    have g8 := rgm_0_48 hI_μ7
    refine ok_bv (fun μ9 e_μ9 => ?_)
    have hI_μ9 : IM μ9 := by rw [e_μ9]; exact IM_F hI_μ7 (rpm_0_43 (by omega))
    have hF_μ9 : Fr [(0, 0, 3), (0, 0, 36), (0, 0, 37), (0, 0, 4), (0, 0, 42), (0, 0, 43), (0, 0, 44), (0, 0, 45), (0, 0, 46), (0, 0, 47), (0, 0, 48), (0, 0, 49), (0, 0, 5), (0, 0, 6), (0, 0, 7), (0, 0, 95), (1, 22, 0), (1, 23, 0), (1, 24, 0), (1, 25, 0), (1, 26, 0)] true μ μ9 := by rw [e_μ9]; exact Fr.put hF_μ7 (by decide +kernel)
    have v_μ9 : (μ9.1 0 43).toInt = (μ7.1 0 48).toInt := by rw [e_μ9, sF_v]
    have hr_μ9 : μ9.2.2 = μ.2.2 := (by rw [e_μ9]; rfl : μ9.2.2 = μ7.2.2).trans hr_μ7
    have g10 := rgm_0_36 hI_μ9
    refine ok_bv (fun μ11 e_μ11 => ?_)
    have hI_μ11 : IM μ11 := by rw [e_μ11]; exact IM_F hI_μ9 (rpm_0_44 (by omega))
    have hF_μ11 : Fr [(0, 0, 3), (0, 0, 36), (0, 0, 37), (0, 0, 4), (0, 0, 42), (0, 0, 43), (0, 0, 44), (0, 0, 45), (0, 0, 46), (0, 0, 47), (0, 0, 48), (0, 0, 49), (0, 0, 5), (0, 0, 6), (0, 0, 7), (0, 0, 95), (1, 22, 0), (1, 23, 0), (1, 24, 0), (1, 25, 0), (1, 26, 0)] true μ μ11 := by rw [e_μ11]; exact Fr.put hF_μ9 (by decide +kernel)
    have v_μ11 : (μ11.1 0 44).toInt = (μ9.1 0 36).toInt := by rw [e_μ11, sF_v]
    have hr_μ11 : μ11.2.2 = μ.2.2 := (by rw [e_μ11]; rfl : μ11.2.2 = μ9.2.2).trans hr_μ9
    have g12 := rgm_0_36 hI_μ11
    have f13 : (μ11.1 0 36).toInt = (μ9.1 0 36).toInt := congrArg Int32.toInt ((by rw [e_μ11]; rfl : μ11.1 0 36 = μ9.1 0 36))
    have l16 : (sh 1 22).2 = 30 := by rw [shm_22]
    have l17 : (sh 1 25).2 = 30 := by rw [shm_25]
    refine ok_bw (k_X12_copy 22 (sh_f shm_22) (0 : Int32) (μ11.1 0 36) 25 (sh_f shm_25) (0 : Int32) μ11 hI_μ11 (by (try rw [hr_μ11]); omega)) ?_
    rintro μ14 ⟨hI_μ14, hC_μ14, p_μ14⟩
    have hF_μ14 : Fr [(0, 0, 3), (0, 0, 36), (0, 0, 37), (0, 0, 4), (0, 0, 42), (0, 0, 43), (0, 0, 44), (0, 0, 45), (0, 0, 46), (0, 0, 47), (0, 0, 48), (0, 0, 49), (0, 0, 5), (0, 0, 6), (0, 0, 7), (0, 0, 95), (1, 22, 0), (1, 23, 0), (1, 24, 0), (1, 25, 0), (1, 26, 0)] true μ μ14 := hF_μ11.trans (hC_μ14.mono (by decide +kernel) (by decide))
    have hr_μ14 : μ14.2.2 = μ.2.2 := (hC_μ14.2 rfl : μ14.2.2 = μ11.2.2).trans hr_μ11
    try simp only [hr_μ14, hr_μ11] at p_μ14
    have g18 := rgm_0_36 hI_μ14
    have f19 : (μ14.1 0 36).toInt = (μ11.1 0 36).toInt := congrArg Int32.toInt (hC_μ14.1 0 36 (by decide +kernel))
    have l22 : (sh 1 23).2 = 30 := by rw [shm_23]
    have l23 : (sh 1 26).2 = 30 := by rw [shm_26]
    refine ok_bw (k_X12_copy 23 (sh_f shm_23) (0 : Int32) (μ14.1 0 36) 26 (sh_f shm_26) (0 : Int32) μ14 hI_μ14 (by (try rw [hr_μ14]); omega)) ?_
    rintro μ20 ⟨hI_μ20, hC_μ20, p_μ20⟩
    have hF_μ20 : Fr [(0, 0, 3), (0, 0, 36), (0, 0, 37), (0, 0, 4), (0, 0, 42), (0, 0, 43), (0, 0, 44), (0, 0, 45), (0, 0, 46), (0, 0, 47), (0, 0, 48), (0, 0, 49), (0, 0, 5), (0, 0, 6), (0, 0, 7), (0, 0, 95), (1, 22, 0), (1, 23, 0), (1, 24, 0), (1, 25, 0), (1, 26, 0)] true μ μ20 := hF_μ14.trans (hC_μ20.mono (by decide +kernel) (by decide))
    have hr_μ20 : μ20.2.2 = μ.2.2 := (hC_μ20.2 rfl : μ20.2.2 = μ14.2.2).trans hr_μ14
    try simp only [hr_μ20, hr_μ14] at p_μ20
    have g24 := rgm_0_37 hI_μ20
    refine ok_bv (fun μ25 e_μ25 => ?_)
    have hI_μ25 : IM μ25 := by rw [e_μ25]; exact IM_F hI_μ20 (rpm_0_45 (by omega))
    have hF_μ25 : Fr [(0, 0, 3), (0, 0, 36), (0, 0, 37), (0, 0, 4), (0, 0, 42), (0, 0, 43), (0, 0, 44), (0, 0, 45), (0, 0, 46), (0, 0, 47), (0, 0, 48), (0, 0, 49), (0, 0, 5), (0, 0, 6), (0, 0, 7), (0, 0, 95), (1, 22, 0), (1, 23, 0), (1, 24, 0), (1, 25, 0), (1, 26, 0)] true μ μ25 := by rw [e_μ25]; exact Fr.put hF_μ20 (by decide +kernel)
    have v_μ25 : (μ25.1 0 45).toInt = (μ20.1 0 37).toInt := by rw [e_μ25, sF_v]
    have hr_μ25 : μ25.2.2 = μ.2.2 := (by rw [e_μ25]; rfl : μ25.2.2 = μ20.2.2).trans hr_μ20
    refine ok_bv (fun μ26 e_μ26 => ?_)
    have hI_μ26 : IM μ26 := by rw [e_μ26]; exact IM_F hI_μ25 (rpm_0_47 (by omega))
    have hF_μ26 : Fr [(0, 0, 3), (0, 0, 36), (0, 0, 37), (0, 0, 4), (0, 0, 42), (0, 0, 43), (0, 0, 44), (0, 0, 45), (0, 0, 46), (0, 0, 47), (0, 0, 48), (0, 0, 49), (0, 0, 5), (0, 0, 6), (0, 0, 7), (0, 0, 95), (1, 22, 0), (1, 23, 0), (1, 24, 0), (1, 25, 0), (1, 26, 0)] true μ μ26 := by rw [e_μ26]; exact Fr.put hF_μ25 (by decide +kernel)
    have v_μ26 : (μ26.1 0 47).toInt = 0 := by rw [e_μ26, sF_v]; exact TI.e (n := 0) (TI.lit (by decide))
    have hr_μ26 : μ26.2.2 = μ.2.2 := (by rw [e_μ26]; rfl : μ26.2.2 = μ25.2.2).trans hr_μ25
    refine ok_bv (fun μ27 e_μ27 => ?_)
    have hI_μ27 : IM μ27 := by rw [e_μ27]; exact IM_F hI_μ26 (rpm_0_46 (by omega))
    have hF_μ27 : Fr [(0, 0, 3), (0, 0, 36), (0, 0, 37), (0, 0, 4), (0, 0, 42), (0, 0, 43), (0, 0, 44), (0, 0, 45), (0, 0, 46), (0, 0, 47), (0, 0, 48), (0, 0, 49), (0, 0, 5), (0, 0, 6), (0, 0, 7), (0, 0, 95), (1, 22, 0), (1, 23, 0), (1, 24, 0), (1, 25, 0), (1, 26, 0)] true μ μ27 := by rw [e_μ27]; exact Fr.put hF_μ26 (by decide +kernel)
    have v_μ27 : (μ27.1 0 46).toInt = 0 := by rw [e_μ27, sF_v]; exact TI.e (n := 0) (TI.lit (by decide))
    have hr_μ27 : μ27.2.2 = μ.2.2 := (by rw [e_μ27]; rfl : μ27.2.2 = μ26.2.2).trans hr_μ26
    have g28 := rgm_0_45 hI_μ27
    have f29 : (μ27.1 0 45).toInt = (μ25.1 0 45).toInt := congrArg Int32.toInt (((by rw [e_μ27]; rfl : μ27.1 0 45 = μ26.1 0 45)).trans ((by rw [e_μ26]; rfl : μ26.1 0 45 = μ25.1 0 45)))
    exact ok_some ⟨hI_μ27, hF_μ27⟩

set_option maxHeartbeats 4000000 in
set_option maxRecDepth 100000 in
theorem k_X12_readValues_b37 {n16 : Nat} (K16 : Int32 → Mem → Option (Int32 × Mem)) (hK16 : ∀ (z1 : Int32) (μ1 : Mem), IM μ1 → (0 ≤ (z1).toInt ∧ 2147483648 - (z1).toInt < n16) → ok (K16 z1 μ1) (fun q => IM q.2 ∧ Fr [(0, 0, 36), (0, 0, 37), (0, 0, 4), (0, 0, 5), (0, 0, 6), (0, 0, 7), (1, 22, 0), (1, 23, 0), (1, 24, 0)] true μ1 q.2 ∧ (((q.1).toInt = 0 ∨ (q.1).toInt = 1)))) (a1 : Int32) (μ : Mem) (hI_μ : IM μ) (hc : 0 ≤ (a1).toInt ∧ (a1).toInt < 100 ∧ 2147483648 - (a1).toInt < n16 + 1) : ok (p_X12_readValues_b37 K16 a1 μ) (fun q => IM q.2 ∧ Fr [(0, 0, 36), (0, 0, 37), (0, 0, 4), (0, 0, 5), (0, 0, 6), (0, 0, 7), (1, 22, 0), (1, 23, 0), (1, 24, 0)] true μ q.2 ∧ (((q.1).toInt = 0 ∨ (q.1).toInt = 1))) := by
  have li0 : (0 : Int32).toInt = 0 := by decide
  have li1 : (1 : Int32).toInt = 1 := by decide
  have hF_μ : Fr [(0, 0, 36), (0, 0, 37), (0, 0, 4), (0, 0, 5), (0, 0, 6), (0, 0, 7), (1, 22, 0), (1, 23, 0), (1, 24, 0)] true μ μ := Fr.rf
  have hr_μ : μ.2.2 = μ.2.2 := rfl
  rw [p_X12_readValues_b37_eq]
  have lo_a1 := ti_lo a1
  have hi_a1 := ti_hi a1
  have g16 := rgm_0_4 hI_μ
  refine ok_bd (k_X12_readPart (0 : Int32) μ hI_μ) ?_
  rintro r15 μ14 ⟨hI_μ14, hC_μ14, p_μ14⟩
  have hI_μ14 : IM μ14 := hI_μ14
  have hC_μ14 : Fr [(0, 0, 36), (0, 0, 37), (0, 0, 4), (0, 0, 5), (0, 0, 6), (0, 0, 7), (1, 22, 0), (1, 23, 0), (1, 24, 0)] true μ μ14 := hC_μ14
  dsimp only at p_μ14
  have lo_r15 := ti_lo r15
  have hi_r15 := ti_hi r15
  have hF_μ14 : Fr [(0, 0, 36), (0, 0, 37), (0, 0, 4), (0, 0, 5), (0, 0, 6), (0, 0, 7), (1, 22, 0), (1, 23, 0), (1, 24, 0)] true μ μ14 := hF_μ.trans (hC_μ14.mono (by decide +kernel) (by decide))
  have hr_μ14 : μ14.2.2 = μ.2.2 := (hC_μ14.2 rfl : μ14.2.2 = μ.2.2).trans hr_μ
  try simp only [hr_μ14, hr_μ] at p_μ14
  have g17 := rgm_0_4 hI_μ14
  refine ok_ite ?_ ?_
  · intro c18
    rw [ti_eq] at c18
    exact ok_some ⟨hI_μ14, hF_μ14, by (try dsimp only); (try rw [hr_μ14]); omega⟩
  · intro c18
    rw [ti_eq] at c18
    refine ok_bv (fun v19 ev19 => ?_)
    first | have tv19 : v19.toInt = (a1.toInt + 1) := (congrArg Int32.toInt ev19).trans (TI.e (n := (a1.toInt + 1)) (TI.add TI.rf (TI.lit (by decide)) (by omega) (by omega))) | have tv19 : v19.toInt ≤ a1.toInt + 1 := by rw [ev19]; exact ti_inc _ | skip
    exact ok_mono (hK16 v19 μ14 hI_μ14 (by (try rw [hr_μ14]); omega)) (fun q h => ⟨h.1, hF_μ14.trans h.2.1, h.2.2⟩)
set_option maxHeartbeats 4000000 in
set_option maxRecDepth 100000 in
theorem k_X12_readValues_b16 : ∀ (n : Nat) (a1 : Int32) (μ : Mem), IM μ → (0 ≤ (a1).toInt ∧ 2147483648 - (a1).toInt < n) → ok (p_X12_readValues_b16 n a1 μ) (fun q => IM q.2 ∧ Fr [(0, 0, 36), (0, 0, 37), (0, 0, 4), (0, 0, 5), (0, 0, 6), (0, 0, 7), (1, 22, 0), (1, 23, 0), (1, 24, 0)] true μ q.2 ∧ (((q.1).toInt = 0 ∨ (q.1).toInt = 1))) := by
  have li0 : (0 : Int32).toInt = 0 := by decide
  have li1 : (1 : Int32).toInt = 1 := by decide
  have li44 : (44 : Int32).toInt = 44 := by decide
  intro n
  induction n with
  | zero => intro a1 μ hI_μ hc; exact absurd hc (by have lo_a1 := ti_lo a1; have hi_a1 := ti_hi a1; omega)
  | succ n ih =>
    intro a1 μ hI_μ hc
    have hF_μ : Fr [(0, 0, 36), (0, 0, 37), (0, 0, 4), (0, 0, 5), (0, 0, 6), (0, 0, 7), (1, 22, 0), (1, 23, 0), (1, 24, 0)] true μ μ := Fr.rf
    have hr_μ : μ.2.2 = μ.2.2 := rfl
    rw [p_X12_readValues_b16_s]
    have lo_a1 := ti_lo a1
    have hi_a1 := ti_hi a1
    have g5 := rgm_0_45 hI_μ
    refine ok_ite ?_ ?_
    · intro c6
      rw [ti_le] at c6
      have g7 := rgm_0_4 hI_μ
      have g8 := rgm_0_3 hI_μ
      refine ok_ite ?_ ?_
      · intro c9
        rw [ti_eq] at c9
        exact ok_some ⟨hI_μ, hF_μ, by (try dsimp only); omega⟩
      · intro c9
        rw [ti_eq] at c9
        refine ok_bd (k_X12_fails (μ.1 0 4) μ hI_μ) ?_
        rintro r11 μ10 ⟨hI_μ10, hC_μ10, p_μ10⟩
        have hI_μ10 : IM μ10 := hI_μ10
        have hC_μ10 : Fr [(0, 0, 5)] true μ μ10 := hC_μ10
        dsimp only at p_μ10
        have lo_r11 := ti_lo r11
        have hi_r11 := ti_hi r11
        have hF_μ10 : Fr [(0, 0, 36), (0, 0, 37), (0, 0, 4), (0, 0, 5), (0, 0, 6), (0, 0, 7), (1, 22, 0), (1, 23, 0), (1, 24, 0)] true μ μ10 := hF_μ.trans (hC_μ10.mono (by decide +kernel) (by decide))
        have hr_μ10 : μ10.2.2 = μ.2.2 := (hC_μ10.2 rfl : μ10.2.2 = μ.2.2).trans hr_μ
        refine ok_ite ?_ ?_
        · intro c12
          rw [ti_eq] at c12
          exact ok_some ⟨hI_μ10, hF_μ10, by (try dsimp only); (try rw [hr_μ10]); omega⟩
        · intro c12
          rw [ti_eq] at c12
          exact ok_some ⟨hI_μ10, hF_μ10, by (try dsimp only); (try rw [hr_μ10]); omega⟩
    · intro c6
      rw [ti_le] at c6
      refine ok_ite ?_ ?_
      · intro c13
        rw [ti_le] at c13
        exact ok_mono (k_X12_readValues_b37 _ ih a1 μ hI_μ (by omega)) (fun q h => ⟨h.1, hF_μ.trans h.2.1, h.2.2⟩)
      · intro c13
        rw [ti_le] at c13
        have g22 := rgm_0_4 hI_μ
        have g23 := rgm_0_3 hI_μ
        refine ok_bd (k_X12_takes (44 : Int32) μ hI_μ (by omega)) ?_
        rintro r21 μ20 ⟨hI_μ20, hC_μ20, p_μ20⟩
        have hI_μ20 : IM μ20 := hI_μ20
        have hC_μ20 : Fr [(0, 0, 4), (0, 0, 5)] true μ μ20 := hC_μ20
        dsimp only at p_μ20
        have lo_r21 := ti_lo r21
        have hi_r21 := ti_hi r21
        have hF_μ20 : Fr [(0, 0, 36), (0, 0, 37), (0, 0, 4), (0, 0, 5), (0, 0, 6), (0, 0, 7), (1, 22, 0), (1, 23, 0), (1, 24, 0)] true μ μ20 := hF_μ.trans (hC_μ20.mono (by decide +kernel) (by decide))
        have hr_μ20 : μ20.2.2 = μ.2.2 := (hC_μ20.2 rfl : μ20.2.2 = μ.2.2).trans hr_μ
        try simp only [hr_μ20, hr_μ] at p_μ20
        have g24 := rgm_0_4 hI_μ20
        refine ok_ite ?_ ?_
        · intro c25
          rw [ti_eq] at c25
          exact ok_some ⟨hI_μ20, hF_μ20, by (try dsimp only); (try rw [hr_μ20]); omega⟩
        · intro c25
          rw [ti_eq] at c25
          exact ok_mono (k_X12_readValues_b37 _ ih a1 μ20 hI_μ20 (by (try rw [hr_μ20]); omega)) (fun q h => ⟨h.1, hF_μ20.trans h.2.1, h.2.2⟩)
set_option maxHeartbeats 4000000 in
set_option maxRecDepth 100000 in
theorem k_X12_readValues  (μ : Mem) (hI_μ : IM μ) : ok (p_X12_readValues  μ) (fun q => IM q.2 ∧ Fr [(0, 0, 36), (0, 0, 37), (0, 0, 4), (0, 0, 5), (0, 0, 6), (0, 0, 7), (1, 22, 0), (1, 23, 0), (1, 24, 0)] true μ q.2 ∧ (((q.1).toInt = 0 ∨ (q.1).toInt = 1))) := by
  have li0 : (0 : Int32).toInt = 0 := by decide
  have li1 : (1 : Int32).toInt = 1 := by decide
  have hF_μ : Fr [(0, 0, 36), (0, 0, 37), (0, 0, 4), (0, 0, 5), (0, 0, 6), (0, 0, 7), (1, 22, 0), (1, 23, 0), (1, 24, 0)] true μ μ := Fr.rf
  have hr_μ : μ.2.2 = μ.2.2 := rfl
  rw [p_X12_readValues_eq]
  refine ok_bw (k_X12_beginText  μ hI_μ) ?_
  rintro μ1 ⟨hI_μ1, hC_μ1⟩
  have hF_μ1 : Fr [(0, 0, 36), (0, 0, 37), (0, 0, 4), (0, 0, 5), (0, 0, 6), (0, 0, 7), (1, 22, 0), (1, 23, 0), (1, 24, 0)] true μ μ1 := hF_μ.trans (hC_μ1.mono (by decide +kernel) (by decide))
  have hr_μ1 : μ1.2.2 = μ.2.2 := (hC_μ1.2 rfl : μ1.2.2 = μ.2.2).trans hr_μ
  refine ok_bv (fun μ3 e_μ3 => ?_)
  have hI_μ3 : IM μ3 := by rw [e_μ3]; exact IM_F hI_μ1 (rpm_0_36 (by omega))
  have hF_μ3 : Fr [(0, 0, 36), (0, 0, 37), (0, 0, 4), (0, 0, 5), (0, 0, 6), (0, 0, 7), (1, 22, 0), (1, 23, 0), (1, 24, 0)] true μ μ3 := by rw [e_μ3]; exact Fr.put hF_μ1 (by decide +kernel)
  have v_μ3 : (μ3.1 0 36).toInt = 0 := by rw [e_μ3, sF_v]; exact TI.e (n := 0) (TI.lit (by decide))
  have hr_μ3 : μ3.2.2 = μ.2.2 := (by rw [e_μ3]; rfl : μ3.2.2 = μ1.2.2).trans hr_μ1
  refine ok_bv (fun μ4 e_μ4 => ?_)
  have hI_μ4 : IM μ4 := by rw [e_μ4]; exact IM_F hI_μ3 (rpm_0_37 (by omega))
  have hF_μ4 : Fr [(0, 0, 36), (0, 0, 37), (0, 0, 4), (0, 0, 5), (0, 0, 6), (0, 0, 7), (1, 22, 0), (1, 23, 0), (1, 24, 0)] true μ μ4 := by rw [e_μ4]; exact Fr.put hF_μ3 (by decide +kernel)
  have v_μ4 : (μ4.1 0 37).toInt = 0 := by rw [e_μ4, sF_v]; exact TI.e (n := 0) (TI.lit (by decide))
  have hr_μ4 : μ4.2.2 = μ.2.2 := (by rw [e_μ4]; rfl : μ4.2.2 = μ3.2.2).trans hr_μ3
  obtain ⟨fu, hfu0, hfu⟩ := fuel_ex
  rw [hfu0]
  exact ok_mono (k_X12_readValues_b16  fu (0 : Int32) μ4 hI_μ4 (by (try rw [hr_μ4]); omega)) (fun q h => ⟨h.1, hF_μ4.trans h.2.1, h.2.2⟩)

set_option maxHeartbeats 4000000 in
set_option maxRecDepth 100000 in
theorem k_X12_values  (μ : Mem) (hI_μ : IM μ) : ok (p_X12_values  μ) (fun q => IM q.2 ∧ Fr [(0, 0, 3), (0, 0, 36), (0, 0, 37), (0, 0, 4), (0, 0, 46), (0, 0, 47), (0, 0, 5), (0, 0, 6), (0, 0, 7), (1, 22, 0), (1, 23, 0), (1, 24, 0), (1, 27, 0), (1, 28, 0)] true μ q.2) := by
  have lim1 : (-1 : Int32).toInt = -1 := by decide
  have li0 : (0 : Int32).toInt = 0 := by decide
  have li1 : (1 : Int32).toInt = 1 := by decide
  have hF_μ : Fr [(0, 0, 3), (0, 0, 36), (0, 0, 37), (0, 0, 4), (0, 0, 46), (0, 0, 47), (0, 0, 5), (0, 0, 6), (0, 0, 7), (1, 22, 0), (1, 23, 0), (1, 24, 0), (1, 27, 0), (1, 28, 0)] true μ μ := Fr.rf
  have hr_μ : μ.2.2 = μ.2.2 := rfl
  rw [p_X12_values_eq]
  refine ok_bd (k_X12_readValues  μ hI_μ) ?_
  rintro r2 μ1 ⟨hI_μ1, hC_μ1, p_μ1⟩
  have hI_μ1 : IM μ1 := hI_μ1
  have hC_μ1 : Fr [(0, 0, 36), (0, 0, 37), (0, 0, 4), (0, 0, 5), (0, 0, 6), (0, 0, 7), (1, 22, 0), (1, 23, 0), (1, 24, 0)] true μ μ1 := hC_μ1
  dsimp only at p_μ1
  have lo_r2 := ti_lo r2
  have hi_r2 := ti_hi r2
  have hF_μ1 : Fr [(0, 0, 3), (0, 0, 36), (0, 0, 37), (0, 0, 4), (0, 0, 46), (0, 0, 47), (0, 0, 5), (0, 0, 6), (0, 0, 7), (1, 22, 0), (1, 23, 0), (1, 24, 0), (1, 27, 0), (1, 28, 0)] true μ μ1 := hF_μ.trans (hC_μ1.mono (by decide +kernel) (by decide))
  have hr_μ1 : μ1.2.2 = μ.2.2 := (hC_μ1.2 rfl : μ1.2.2 = μ.2.2).trans hr_μ
  refine ok_bv (fun μ3 e_μ3 => ?_)
  have hI_μ3 : IM μ3 := by rw [e_μ3]; exact IM_F hI_μ1 (rpm_0_3 (by omega))
  have hF_μ3 : Fr [(0, 0, 3), (0, 0, 36), (0, 0, 37), (0, 0, 4), (0, 0, 46), (0, 0, 47), (0, 0, 5), (0, 0, 6), (0, 0, 7), (1, 22, 0), (1, 23, 0), (1, 24, 0), (1, 27, 0), (1, 28, 0)] true μ μ3 := by rw [e_μ3]; exact Fr.put hF_μ1 (by decide +kernel)
  have v_μ3 : (μ3.1 0 3).toInt = 0 := by rw [e_μ3, sF_v]; exact TI.e (n := 0) (TI.lit (by decide))
  have hr_μ3 : μ3.2.2 = μ.2.2 := (by rw [e_μ3]; rfl : μ3.2.2 = μ1.2.2).trans hr_μ1
  refine ok_ite ?_ ?_
  · intro c4
    rw [ti_eq] at c4
    exact ok_some ⟨hI_μ3, hF_μ3⟩
  · intro c4
    rw [ti_eq] at c4
    have g5 := rgm_0_45 hI_μ3
    refine ok_bv (fun μ6 e_μ6 => ?_)
    have hI_μ6 : IM μ6 := by rw [e_μ6]; exact IM_F hI_μ3 (rpm_0_47 (by omega))
    have hF_μ6 : Fr [(0, 0, 3), (0, 0, 36), (0, 0, 37), (0, 0, 4), (0, 0, 46), (0, 0, 47), (0, 0, 5), (0, 0, 6), (0, 0, 7), (1, 22, 0), (1, 23, 0), (1, 24, 0), (1, 27, 0), (1, 28, 0)] true μ μ6 := by rw [e_μ6]; exact Fr.put hF_μ3 (by decide +kernel)
    have v_μ6 : (μ6.1 0 47).toInt = (μ3.1 0 45).toInt := by rw [e_μ6, sF_v]
    have hr_μ6 : μ6.2.2 = μ.2.2 := (by rw [e_μ6]; rfl : μ6.2.2 = μ3.2.2).trans hr_μ3
    have g7 := rgm_0_36 hI_μ6
    refine ok_bv (fun μ8 e_μ8 => ?_)
    have hI_μ8 : IM μ8 := by rw [e_μ8]; exact IM_F hI_μ6 (rpm_0_46 (by omega))
    have hF_μ8 : Fr [(0, 0, 3), (0, 0, 36), (0, 0, 37), (0, 0, 4), (0, 0, 46), (0, 0, 47), (0, 0, 5), (0, 0, 6), (0, 0, 7), (1, 22, 0), (1, 23, 0), (1, 24, 0), (1, 27, 0), (1, 28, 0)] true μ μ8 := by rw [e_μ8]; exact Fr.put hF_μ6 (by decide +kernel)
    have v_μ8 : (μ8.1 0 46).toInt = (μ6.1 0 36).toInt := by rw [e_μ8, sF_v]
    have hr_μ8 : μ8.2.2 = μ.2.2 := (by rw [e_μ8]; rfl : μ8.2.2 = μ6.2.2).trans hr_μ6
    have g9 := rgm_0_36 hI_μ8
    have f10 : (μ8.1 0 36).toInt = (μ6.1 0 36).toInt := congrArg Int32.toInt ((by rw [e_μ8]; rfl : μ8.1 0 36 = μ6.1 0 36))
    have l13 : (sh 1 22).2 = 30 := by rw [shm_22]
    have l14 : (sh 1 27).2 = 30 := by rw [shm_27]
    refine ok_bw (k_X12_copy 22 (sh_f shm_22) (0 : Int32) (μ8.1 0 36) 27 (sh_f shm_27) (0 : Int32) μ8 hI_μ8 (by (try rw [hr_μ8]); omega)) ?_
    rintro μ11 ⟨hI_μ11, hC_μ11, p_μ11⟩
    have hF_μ11 : Fr [(0, 0, 3), (0, 0, 36), (0, 0, 37), (0, 0, 4), (0, 0, 46), (0, 0, 47), (0, 0, 5), (0, 0, 6), (0, 0, 7), (1, 22, 0), (1, 23, 0), (1, 24, 0), (1, 27, 0), (1, 28, 0)] true μ μ11 := hF_μ8.trans (hC_μ11.mono (by decide +kernel) (by decide))
    have hr_μ11 : μ11.2.2 = μ.2.2 := (hC_μ11.2 rfl : μ11.2.2 = μ8.2.2).trans hr_μ8
    try simp only [hr_μ11, hr_μ8] at p_μ11
    have g15 := rgm_0_36 hI_μ11
    have f16 : (μ11.1 0 36).toInt = (μ8.1 0 36).toInt := congrArg Int32.toInt (hC_μ11.1 0 36 (by decide +kernel))
    have l19 : (sh 1 23).2 = 30 := by rw [shm_23]
    have l20 : (sh 1 28).2 = 30 := by rw [shm_28]
    refine ok_bw (k_X12_copy 23 (sh_f shm_23) (0 : Int32) (μ11.1 0 36) 28 (sh_f shm_28) (0 : Int32) μ11 hI_μ11 (by (try rw [hr_μ11]); omega)) ?_
    rintro μ17 ⟨hI_μ17, hC_μ17, p_μ17⟩
    have hF_μ17 : Fr [(0, 0, 3), (0, 0, 36), (0, 0, 37), (0, 0, 4), (0, 0, 46), (0, 0, 47), (0, 0, 5), (0, 0, 6), (0, 0, 7), (1, 22, 0), (1, 23, 0), (1, 24, 0), (1, 27, 0), (1, 28, 0)] true μ μ17 := hF_μ11.trans (hC_μ17.mono (by decide +kernel) (by decide))
    have hr_μ17 : μ17.2.2 = μ.2.2 := (hC_μ17.2 rfl : μ17.2.2 = μ11.2.2).trans hr_μ11
    try simp only [hr_μ17, hr_μ11] at p_μ17
    have g21 := rgm_0_45 hI_μ17
    have f22 : (μ17.1 0 45).toInt = (μ3.1 0 45).toInt := congrArg Int32.toInt ((hC_μ17.1 0 45 (by decide +kernel)).trans ((hC_μ11.1 0 45 (by decide +kernel)).trans (((by rw [e_μ8]; rfl : μ8.1 0 45 = μ6.1 0 45)).trans ((by rw [e_μ6]; rfl : μ6.1 0 45 = μ3.1 0 45)))))
    exact ok_some ⟨hI_μ17, hF_μ17⟩

set_option maxHeartbeats 4000000 in
set_option maxRecDepth 100000 in
theorem k_X12_fault  (μ : Mem) (hI_μ : IM μ) : ok (p_X12_fault  μ) (fun q => μ = q.2) := by
  have li0 : (0 : Int32).toInt = 0 := by decide
  have li1 : (1 : Int32).toInt = 1 := by decide
  have hF_μ : Fr [] true μ μ := Fr.rf
  have hr_μ : μ.2.2 = μ.2.2 := rfl
  rw [p_X12_fault_eq]
  have g1 := ti_lo (μ.1 0 5)
  have g1h := ti_hi (μ.1 0 5)
  exact ok_some rfl
