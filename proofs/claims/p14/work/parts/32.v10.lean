set_option maxHeartbeats 4000000 in
set_option maxRecDepth 100000 in
theorem k_X2_growBeside_b171 {n19 : Nat} (K19 : Nat → Nat → Nat → Int32 → Int32 → Int32 → Int32 → Mem → Option (Int32 × Mem)) (hK19 : ∀ (z0 : Nat) (w0 : sh 0 z0 = (0, 1)) (z1 : Nat) (w1 : sh 0 z1 = (0, 1)) (z2 : Nat) (w2 : sh 0 z2 = (0, 1)) (z3 : Int32) (z4 : Int32) (z5 : Int32) (z6 : Int32) (μ1 : Mem), IX μ1 → (0 ≤ (z4).toInt ∧ 0 ≤ (z5).toInt ∧ 0 ≤ (z6).toInt ∧ (z6).toInt ≤ 200 ∧ 200 - (z6).toInt < n19) → ok (K19 z0 z1 z2 z3 z4 z5 z6 μ1) (fun q => IX q.2 ∧ Fr [(2, 1, 2), (2, 1, 3)] true μ1 q.2)) (a0 : Nat) (q0 : sh 0 a0 = (0, 1)) (a1 : Nat) (q1 : sh 0 a1 = (0, 1)) (a2 : Nat) (q2 : sh 0 a2 = (0, 1)) (a3 : Int32) (a4 : Int32) (a5 : Int32) (a6 : Int32) (μ : Mem) (hI_μ : IX μ) (hc : 0 ≤ (a4).toInt ∧ 0 ≤ (a5).toInt ∧ 0 ≤ (a6).toInt ∧ (a6).toInt < 200 ∧ 200 - (a6).toInt < n19 + 1) : ok (p_X2_growBeside_b171 K19 a0 a1 a2 a3 a4 a5 a6 μ) (fun q => IX q.2 ∧ Fr [(2, 1, 2), (2, 1, 3)] true μ q.2) := by
  have li0 : (0 : Int32).toInt = 0 := by decide
  have li1 : (1 : Int32).toInt = 1 := by decide
  have hF_μ : Fr [(2, 1, 2), (2, 1, 3)] true μ μ := Fr.rf
  have hr_μ : μ.2.2 = μ.2.2 := rfl
  rw [p_X2_growBeside_b171_eq]
  have lo_a3 := ti_lo a3
  have hi_a3 := ti_hi a3
  have lo_a4 := ti_lo a4
  have hi_a4 := ti_hi a4
  have lo_a5 := ti_lo a5
  have hi_a5 := ti_hi a5
  have lo_a6 := ti_lo a6
  have hi_a6 := ti_hi a6
  refine ok_bv (fun v18 ev18 => ?_)
  first | have tv18 : v18.toInt = (a6.toInt + 1) := (congrArg Int32.toInt ev18).trans (TI.e (n := (a6.toInt + 1)) (TI.add TI.rf (TI.lit (by decide)) (by omega) (by omega))) | have tv18 : v18.toInt ≤ a6.toInt + 1 := by rw [ev18]; exact ti_inc _ | skip
  exact ok_mono (hK19 a0 q0 a1 q1 a2 q2 a3 a4 a5 v18 μ hI_μ (by omega)) (fun q h => ⟨h.1, hF_μ.trans h.2⟩)
set_option maxHeartbeats 4000000 in
set_option maxRecDepth 100000 in
theorem k_X2_growBeside_b159 {n19 : Nat} (K19 : Nat → Nat → Nat → Int32 → Int32 → Int32 → Int32 → Mem → Option (Int32 × Mem)) (hK19 : ∀ (z0 : Nat) (w0 : sh 0 z0 = (0, 1)) (z1 : Nat) (w1 : sh 0 z1 = (0, 1)) (z2 : Nat) (w2 : sh 0 z2 = (0, 1)) (z3 : Int32) (z4 : Int32) (z5 : Int32) (z6 : Int32) (μ1 : Mem), IX μ1 → (0 ≤ (z4).toInt ∧ 0 ≤ (z5).toInt ∧ 0 ≤ (z6).toInt ∧ (z6).toInt ≤ 200 ∧ 200 - (z6).toInt < n19) → ok (K19 z0 z1 z2 z3 z4 z5 z6 μ1) (fun q => IX q.2 ∧ Fr [(2, 1, 2), (2, 1, 3)] true μ1 q.2)) (a0 : Nat) (q0 : sh 0 a0 = (0, 1)) (a1 : Nat) (q1 : sh 0 a1 = (0, 1)) (a2 : Nat) (q2 : sh 0 a2 = (0, 1)) (a3 : Int32) (a5 : Int32) (a6 : Int32) (a7 : Int32) (μ : Mem) (hI_μ : IX μ) (hc : 0 ≤ (a5).toInt ∧ 0 ≤ (a6).toInt ∧ (a6).toInt < 200 ∧ 0 ≤ (a7).toInt ∧ 200 - (a6).toInt < n19 + 1) : ok (p_X2_growBeside_b159 K19 a0 a1 a2 a3 a5 a6 a7 μ) (fun q => IX q.2 ∧ Fr [(2, 1, 2), (2, 1, 3)] true μ q.2) := by
  have li0 : (0 : Int32).toInt = 0 := by decide
  have li1 : (1 : Int32).toInt = 1 := by decide
  have hF_μ : Fr [(2, 1, 2), (2, 1, 3)] true μ μ := Fr.rf
  have hr_μ : μ.2.2 = μ.2.2 := rfl
  rw [p_X2_growBeside_b159_eq]
  have lo_a3 := ti_lo a3
  have hi_a3 := ti_hi a3
  have lo_a5 := ti_lo a5
  have hi_a5 := ti_hi a5
  have lo_a6 := ti_lo a6
  have hi_a6 := ti_hi a6
  have lo_a7 := ti_lo a7
  have hi_a7 := ti_hi a7
  refine ok_bd (k_X2_behind a1 q1 a5 μ hI_μ) ?_
  rintro r25 μ24 ⟨hq9, p_r25⟩
  obtain rfl : μ = μ24 := hq9
  dsimp only at p_r25
  have lo_r25 := ti_lo r25
  have hi_r25 := ti_hi r25
  exact ok_mono (k_X2_growBeside_b171 _ hK19 a0 q0 a1 q1 a2 q2 a3 a7 r25 a6 μ hI_μ (by omega)) (fun q h => ⟨h.1, hF_μ.trans h.2⟩)
set_option maxHeartbeats 4000000 in
set_option maxRecDepth 100000 in
theorem k_X2_growBeside_b110 {n19 : Nat} (K19 : Nat → Nat → Nat → Int32 → Int32 → Int32 → Int32 → Mem → Option (Int32 × Mem)) (hK19 : ∀ (z0 : Nat) (w0 : sh 0 z0 = (0, 1)) (z1 : Nat) (w1 : sh 0 z1 = (0, 1)) (z2 : Nat) (w2 : sh 0 z2 = (0, 1)) (z3 : Int32) (z4 : Int32) (z5 : Int32) (z6 : Int32) (μ1 : Mem), IX μ1 → (0 ≤ (z4).toInt ∧ 0 ≤ (z5).toInt ∧ 0 ≤ (z6).toInt ∧ (z6).toInt ≤ 200 ∧ 200 - (z6).toInt < n19) → ok (K19 z0 z1 z2 z3 z4 z5 z6 μ1) (fun q => IX q.2 ∧ Fr [(2, 1, 2), (2, 1, 3)] true μ1 q.2)) (a0 : Nat) (q0 : sh 0 a0 = (0, 1)) (a1 : Nat) (q1 : sh 0 a1 = (0, 1)) (a2 : Nat) (q2 : sh 0 a2 = (0, 1)) (a3 : Int32) (a4 : Int32) (a5 : Int32) (a6 : Int32) (a7 : Int32) (μ : Mem) (hI_μ : IX μ) (hc : 0 ≤ (a4).toInt ∧ (a4).toInt < (μ.1 a0 2).toInt ∧ 0 ≤ (a5).toInt ∧ (a5).toInt < (μ.1 a1 2).toInt ∧ 0 ≤ (a6).toInt ∧ (a6).toInt < 200 ∧ 0 ≤ (a7).toInt ∧ 200 - (a6).toInt < n19 + 1) : ok (p_X2_growBeside_b110 K19 a0 a1 a2 a3 a4 a5 a6 a7 μ) (fun q => IX q.2 ∧ Fr [(2, 1, 2), (2, 1, 3)] true μ q.2) := by
  have li0 : (0 : Int32).toInt = 0 := by decide
  have li1 : (1 : Int32).toInt = 1 := by decide
  have hF_μ : Fr [(2, 1, 2), (2, 1, 3)] true μ μ := Fr.rf
  have hr_μ : μ.2.2 = μ.2.2 := rfl
  rw [p_X2_growBeside_b110_eq]
  have lo_a3 := ti_lo a3
  have hi_a3 := ti_hi a3
  have lo_a4 := ti_lo a4
  have hi_a4 := ti_hi a4
  have lo_a5 := ti_lo a5
  have hi_a5 := ti_hi a5
  have lo_a6 := ti_lo a6
  have hi_a6 := ti_hi a6
  have lo_a7 := ti_lo a7
  have hi_a7 := ti_hi a7
  have g19 := rgp q0 hI_μ
  have g20 := rgp q1 hI_μ
  refine ok_gd (inb_iff.mpr (by omega)) ?_
  refine ok_gd (inb_iff.mpr (by omega)) ?_
  refine ok_ite ?_ ?_
  · intro c21
    rw [ti_eq] at c21
    refine ok_bw (k_X2_addParts a2 q2 a0 q0 a4 a7 μ hI_μ (by omega)) ?_
    rintro μ22 ⟨hI_μ22, hC_μ22⟩
    have hF_μ22 : Fr [(2, 1, 2), (2, 1, 3)] true μ μ22 := hF_μ.trans (hC_μ22.mono (by decide +kernel) (by decide))
    have hr_μ22 : μ22.2.2 = μ.2.2 := (hC_μ22.2 rfl : μ22.2.2 = μ.2.2).trans hr_μ
    exact ok_mono (k_X2_growBeside_b159 _ hK19 a0 q0 a1 q1 a2 q2 a3 a5 a6 a7 μ22 hI_μ22 (by (try rw [hr_μ22]); omega)) (fun q h => ⟨h.1, hF_μ22.trans h.2⟩)
  · intro c21
    rw [ti_eq] at c21
    have l26 := pl_eq q0
    refine ok_gd (inb_iff.mpr (by omega)) ?_
    refine ok_bw (k_X2_add a2 q2 (17179869184 : Int64) (μ.2.1 (a0 + 2) a4.toNatClampNeg) μ hI_μ) ?_
    rintro μ27 ⟨hI_μ27, hC_μ27⟩
    have hF_μ27 : Fr [(2, 1, 2), (2, 1, 3)] true μ μ27 := hF_μ.trans (hC_μ27.mono (by decide +kernel) (by decide))
    have hr_μ27 : μ27.2.2 = μ.2.2 := (hC_μ27.2 rfl : μ27.2.2 = μ.2.2).trans hr_μ
    refine ok_bv (fun v29 ev29 => ?_)
    first | have tv29 : v29.toInt = (a3.toInt + 1) := (congrArg Int32.toInt ev29).trans (TI.e (n := (a3.toInt + 1)) (TI.add TI.rf (TI.lit (by decide)) (by omega) (by omega))) | have tv29 : v29.toInt ≤ a3.toInt + 1 := by rw [ev29]; exact ti_inc _ | skip
    exact ok_mono (k_X2_growBeside_b159 _ hK19 a0 q0 a1 q1 a2 q2 v29 a5 a6 a7 μ27 hI_μ27 (by (try rw [hr_μ27]); omega)) (fun q h => ⟨h.1, hF_μ27.trans h.2⟩)
set_option maxHeartbeats 4000000 in
set_option maxRecDepth 100000 in
theorem k_X2_growBeside_b19 : ∀ (n : Nat) (a0 : Nat) (q0 : sh 0 a0 = (0, 1)) (a1 : Nat) (q1 : sh 0 a1 = (0, 1)) (a2 : Nat) (q2 : sh 0 a2 = (0, 1)) (a3 : Int32) (a4 : Int32) (a5 : Int32) (a6 : Int32) (μ : Mem), IX μ → (0 ≤ (a4).toInt ∧ 0 ≤ (a5).toInt ∧ 0 ≤ (a6).toInt ∧ (a6).toInt ≤ 200 ∧ 200 - (a6).toInt < n) → ok (p_X2_growBeside_b19 n a0 a1 a2 a3 a4 a5 a6 μ) (fun q => IX q.2 ∧ Fr [(2, 1, 2), (2, 1, 3)] true μ q.2) := by
  have li0 : (0 : Int32).toInt = 0 := by decide
  have li1 : (1 : Int32).toInt = 1 := by decide
  intro n
  induction n with
  | zero => intro a0 q0 a1 q1 a2 q2 a3 a4 a5 a6 μ hI_μ hc; exact absurd hc (by have lo_a3 := ti_lo a3; have hi_a3 := ti_hi a3; have lo_a4 := ti_lo a4; have hi_a4 := ti_hi a4; have lo_a5 := ti_lo a5; have hi_a5 := ti_hi a5; have lo_a6 := ti_lo a6; have hi_a6 := ti_hi a6; omega)
  | succ n ih =>
    intro a0 q0 a1 q1 a2 q2 a3 a4 a5 a6 μ hI_μ hc
    have hF_μ : Fr [(2, 1, 2), (2, 1, 3)] true μ μ := Fr.rf
    have hr_μ : μ.2.2 = μ.2.2 := rfl
    rw [p_X2_growBeside_b19_s]
    have lo_a3 := ti_lo a3
    have hi_a3 := ti_hi a3
    have lo_a4 := ti_lo a4
    have hi_a4 := ti_hi a4
    have lo_a5 := ti_lo a5
    have hi_a5 := ti_hi a5
    have lo_a6 := ti_lo a6
    have hi_a6 := ti_hi a6
    refine ok_ite ?_ ?_
    · intro c4
      rw [ti_le] at c4
      try rw [TI.e (e := (Int32.ofNat ((sh 0 (a0 + 1)).2))) (n := ((sh 0 (a0 + 1)).2 : Int)) (TI.len (a0 + 1))] at c4
      exact ok_some ⟨hI_μ, hF_μ⟩
    · intro c4
      rw [ti_le] at c4
      try rw [TI.e (e := (Int32.ofNat ((sh 0 (a0 + 1)).2))) (n := ((sh 0 (a0 + 1)).2 : Int)) (TI.len (a0 + 1))] at c4
      have g5 := rgp q0 hI_μ
      refine ok_ite ?_ ?_
      · intro c6
        rw [ti_le] at c6
        exact ok_some ⟨hI_μ, hF_μ⟩
      · intro c6
        rw [ti_le] at c6
        have g7 := rgp q1 hI_μ
        refine ok_ite ?_ ?_
        · intro c8
          rw [ti_le] at c8
          exact ok_some ⟨hI_μ, hF_μ⟩
        · intro c8
          rw [ti_le] at c8
          refine ok_bd (k_X2_behind a0 q0 a4 μ hI_μ) ?_
          rintro r10 μ9 ⟨hq9, p_r10⟩
          obtain rfl : μ = μ9 := hq9
          dsimp only at p_r10
          have lo_r10 := ti_lo r10
          have hi_r10 := ti_hi r10
          refine ok_gd (inb_iff.mpr (by omega)) ?_
          refine ok_ite ?_ ?_
          · intro c11
            rw [ti_eq] at c11
            refine ok_gd (inb_iff.mpr (by omega)) ?_
            refine ok_ite ?_ ?_
            · intro c12
              rw [ti_eq] at c12
              refine ok_gd (inb_iff.mpr (by omega)) ?_
              have l13 := pl_eq q0
              refine ok_gd (inb_iff.mpr (by omega)) ?_
              refine ok_bw (k_X2_add a2 q2 (μ.2.1 (a0 + 1) a4.toNatClampNeg) (μ.2.1 (a0 + 2) a4.toNatClampNeg) μ hI_μ) ?_
              rintro μ14 ⟨hI_μ14, hC_μ14⟩
              have hF_μ14 : Fr [(2, 1, 2), (2, 1, 3)] true μ μ14 := hF_μ.trans (hC_μ14.mono (by decide +kernel) (by decide))
              have hr_μ14 : μ14.2.2 = μ.2.2 := (hC_μ14.2 rfl : μ14.2.2 = μ.2.2).trans hr_μ
              refine ok_bv (fun v16 ev16 => ?_)
              first | have tv16 : v16.toInt = (a4.toInt + 1) := (congrArg Int32.toInt ev16).trans (TI.e (n := (a4.toInt + 1)) (TI.add TI.rf (TI.lit (by decide)) (by omega) (by omega))) | have tv16 : v16.toInt ≤ a4.toInt + 1 := by rw [ev16]; exact ti_inc _ | skip
              refine ok_bv (fun v17 ev17 => ?_)
              first | have tv17 : v17.toInt = (a5.toInt + 1) := (congrArg Int32.toInt ev17).trans (TI.e (n := (a5.toInt + 1)) (TI.add TI.rf (TI.lit (by decide)) (by omega) (by omega))) | have tv17 : v17.toInt ≤ a5.toInt + 1 := by rw [ev17]; exact ti_inc _ | skip
              exact ok_mono (k_X2_growBeside_b171 _ ih a0 q0 a1 q1 a2 q2 a3 v16 v17 a6 μ14 hI_μ14 (by (try rw [hr_μ14]); omega)) (fun q h => ⟨h.1, hF_μ14.trans h.2⟩)
            · intro c12
              rw [ti_eq] at c12
              exact ok_mono (k_X2_growBeside_b110 _ ih a0 q0 a1 q1 a2 q2 a3 a4 a5 a6 r10 μ hI_μ (by omega)) (fun q h => ⟨h.1, hF_μ.trans h.2⟩)
          · intro c11
            rw [ti_eq] at c11
            exact ok_mono (k_X2_growBeside_b110 _ ih a0 q0 a1 q1 a2 q2 a3 a4 a5 a6 r10 μ hI_μ (by omega)) (fun q h => ⟨h.1, hF_μ.trans h.2⟩)
set_option maxHeartbeats 4000000 in
set_option maxRecDepth 100000 in
theorem k_X2_growBeside (a0 : Nat) (q0 : sh 0 a0 = (0, 1)) (a1 : Nat) (q1 : sh 0 a1 = (0, 1)) (a2 : Nat) (q2 : sh 0 a2 = (0, 1)) (μ : Mem) (hI_μ : IX μ) : ok (p_X2_growBeside a0 a1 a2 μ) (fun q => IX q.2 ∧ Fr [(2, 1, 2), (2, 1, 3)] true μ q.2) := by
  have li0 : (0 : Int32).toInt = 0 := by decide
  have li1 : (1 : Int32).toInt = 1 := by decide
  have hF_μ : Fr [(2, 1, 2), (2, 1, 3)] true μ μ := Fr.rf
  have hr_μ : μ.2.2 = μ.2.2 := rfl
  rw [p_X2_growBeside_eq]
  have g1 := ti_lo (μ.1 a0 3)
  have g1h := ti_hi (μ.1 a0 3)
  refine ok_bw (k_X2_begin a2 q2 (μ.1 a0 3) μ hI_μ) ?_
  rintro μ2 ⟨hI_μ2, hC_μ2⟩
  have hF_μ2 : Fr [(2, 1, 2), (2, 1, 3)] true μ μ2 := hF_μ.trans (hC_μ2.mono (by decide +kernel) (by decide))
  have hr_μ2 : μ2.2.2 = μ.2.2 := (hC_μ2.2 rfl : μ2.2.2 = μ.2.2).trans hr_μ
  obtain ⟨fu, hfu0, hfu⟩ := fuel_ex
  rw [hfu0]
  exact ok_mono (k_X2_growBeside_b19  fu a0 q0 a1 q1 a2 q2 (0 : Int32) (0 : Int32) (0 : Int32) (0 : Int32) μ2 hI_μ2 (by (try rw [hr_μ2]); omega)) (fun q h => ⟨h.1, hF_μ2.trans h.2⟩)

set_option maxHeartbeats 4000000 in
set_option maxRecDepth 100000 in
theorem k_X10_swapCalls  (μ : Mem) (hI_μ : IX μ) : ok (p_X10_swapCalls  μ) (fun q => IX q ∧ Fr [] false μ q) := by
  have li0 : (0 : Int32).toInt = 0 := by decide
  have li1 : (1 : Int32).toInt = 1 := by decide
  have hF_μ : Fr [] false μ μ := Fr.rf
  have hr_μ : μ.2.2 = μ.2.2 := rfl
  rw [p_X10_swapCalls_eq]
  refine ok_bv (fun μ1 e_μ1 => ?_)
  have hI_μ1 : IX μ1 := by rw [e_μ1]; exact IX_R hI_μ
  have hF_μ1 : Fr [] false μ μ1 := by rw [e_μ1]; exact ⟨hF_μ.1, fun h9 => absurd h9 (by decide)⟩
  have hr_μ1 : μ1.2.2 = μ1.2.2 := rfl
  refine ok_bv (fun μ2 e_μ2 => ?_)
  have hI_μ2 : IX μ2 := by rw [e_μ2]; exact IX_R hI_μ1
  have hF_μ2 : Fr [] false μ μ2 := by rw [e_μ2]; exact ⟨hF_μ1.1, fun h9 => absurd h9 (by decide)⟩
  have hr_μ2 : μ2.2.2 = μ2.2.2 := rfl
  exact ok_some ⟨hI_μ2, hF_μ2⟩

set_option maxHeartbeats 4000000 in
set_option maxRecDepth 100000 in
theorem k_X5_ofVariant (a1 : Int32) (a2 : Int32) (μ : Mem) (hI_μ : IX μ) (hc : 0 ≤ (a2).toInt ∧ (a2).toInt ≤ 3) : ok (p_X5_ofVariant a1 a2 μ) (fun q => μ = q.2) := by
  have lim1 : (-1 : Int32).toInt = -1 := by decide
  have li0 : (0 : Int32).toInt = 0 := by decide
  have li1 : (1 : Int32).toInt = 1 := by decide
  have li4 : (4 : Int32).toInt = 4 := by decide
  have hF_μ : Fr [] true μ μ := Fr.rf
  have hr_μ : μ.2.2 = μ.2.2 := rfl
  rw [p_X5_ofVariant_eq]
  have lo_a1 := ti_lo a1
  have hi_a1 := ti_hi a1
  have lo_a2 := ti_lo a2
  have hi_a2 := ti_hi a2
  refine ok_ite ?_ ?_
  · intro c1
    rw [ti_lt] at c1
    exact ok_some rfl
  · intro c1
    rw [ti_lt] at c1
    have g2 := rg_39_2 hI_μ
    refine ok_ite ?_ ?_
    · intro c3
      rw [ti_le] at c3
      exact ok_some rfl
    · intro c3
      rw [ti_le] at c3
      refine ok_gd (inb_iff.mpr (by (try rw [TI.e (e := ((a1 * (4 : Int32)) + a2)) (n := ((a1.toInt * 4) + a2.toInt)) (TI.add (TI.mul TI.rf (TI.lit (by decide)) (by omega) (by omega)) TI.rf (by omega) (by omega))]); omega)) ?_
      exact ok_some rfl

set_option maxHeartbeats 4000000 in
set_option maxRecDepth 100000 in
theorem k_X10_shapeCall_b117 {n57 : Nat} (K57 : Int32 → Int32 → Int32 → Mem → Option Mem) (hK57 : ∀ (z1 : Int32) (z3 : Int32) (z4 : Int32) (μ1 : Mem), IX μ1 → (0 ≤ (z4).toInt ∧ (z4).toInt ≤ 24 ∧ 24 - (z4).toInt < n57) → ok (K57 z1 z3 z4 μ1) (fun q => IX q ∧ Fr [(0, 30, 7), (0, 39, 4), (2, 1, 2), (2, 1, 3)] false μ1 q)) (a1 : Int32) (a3 : Int32) (a4 : Int32) (μ : Mem) (hI_μ : IX μ) (hc : 0 ≤ (a4).toInt ∧ (a4).toInt < 24 ∧ 24 - (a4).toInt < n57 + 1) : ok (p_X10_shapeCall_b117 K57 a1 a3 a4 μ) (fun q => IX q ∧ Fr [(0, 30, 7), (0, 39, 4), (2, 1, 2), (2, 1, 3)] false μ q) := by
  have li0 : (0 : Int32).toInt = 0 := by decide
  have li1 : (1 : Int32).toInt = 1 := by decide
  have hF_μ : Fr [(0, 30, 7), (0, 39, 4), (2, 1, 2), (2, 1, 3)] false μ μ := Fr.rf
  have hr_μ : μ.2.2 = μ.2.2 := rfl
  rw [p_X10_shapeCall_b117_eq]
  have lo_a1 := ti_lo a1
  have hi_a1 := ti_hi a1
  have lo_a3 := ti_lo a3
  have hi_a3 := ti_hi a3
  have lo_a4 := ti_lo a4
  have hi_a4 := ti_hi a4
  refine ok_bd (k_X5_ofVariant a3 (0 : Int32) μ hI_μ (by omega)) ?_
  rintro r22 μ21 hq9
  obtain rfl : μ = μ21 := hq9
  have lo_r22 := ti_lo r22
  have hi_r22 := ti_hi r22
  refine ok_bv (fun v23 ev23 => ?_)
  first | have tv23 : v23.toInt = (a4.toInt + 1) := (congrArg Int32.toInt ev23).trans (TI.e (n := (a4.toInt + 1)) (TI.add TI.rf (TI.lit (by decide)) (by omega) (by omega))) | have tv23 : v23.toInt ≤ a4.toInt + 1 := by rw [ev23]; exact ti_inc _ | skip
  exact ok_mono (hK57 a1 r22 v23 μ hI_μ (by omega)) (fun q h => ⟨h.1, hF_μ.trans h.2⟩)
set_option maxHeartbeats 4000000 in
set_option maxRecDepth 100000 in
theorem k_X10_shapeCall_b57 : ∀ (n : Nat) (a1 : Int32) (a3 : Int32) (a4 : Int32) (μ : Mem), IX μ → (0 ≤ (a4).toInt ∧ (a4).toInt ≤ 24 ∧ 24 - (a4).toInt < n) → ok (p_X10_shapeCall_b57 n a1 a3 a4 μ) (fun q => IX q ∧ Fr [(0, 30, 7), (0, 39, 4), (2, 1, 2), (2, 1, 3)] false μ q) := by
  have lim1 : (-1 : Int32).toInt = -1 := by decide
  have li0 : (0 : Int32).toInt = 0 := by decide
  have li1 : (1 : Int32).toInt = 1 := by decide
  have li24 : (24 : Int32).toInt = 24 := by decide
  intro n
  induction n with
  | zero => intro a1 a3 a4 μ hI_μ hc; exact absurd hc (by have lo_a1 := ti_lo a1; have hi_a1 := ti_hi a1; have lo_a3 := ti_lo a3; have hi_a3 := ti_hi a3; have lo_a4 := ti_lo a4; have hi_a4 := ti_hi a4; omega)
  | succ n ih =>
    intro a1 a3 a4 μ hI_μ hc
    have hF_μ : Fr [(0, 30, 7), (0, 39, 4), (2, 1, 2), (2, 1, 3)] false μ μ := Fr.rf
    have hr_μ : μ.2.2 = μ.2.2 := rfl
    rw [p_X10_shapeCall_b57_s]
    have lo_a1 := ti_lo a1
    have hi_a1 := ti_hi a1
    have lo_a3 := ti_lo a3
    have hi_a3 := ti_hi a3
    have lo_a4 := ti_lo a4
    have hi_a4 := ti_hi a4
    refine ok_ite ?_ ?_
    · intro c9
      rw [ti_le] at c9
      exact ok_some ⟨hI_μ, hF_μ⟩
    · intro c9
      rw [ti_le] at c9
      refine ok_ite ?_ ?_
      · intro c10
        rw [ti_eq] at c10
        exact ok_some ⟨hI_μ, hF_μ⟩
      · intro c10
        rw [ti_eq] at c10
        refine ok_bd (k_X5_patternOf a3 μ hI_μ) ?_
        rintro r12 μ11 ⟨hq9, p_r12⟩
        obtain rfl : μ = μ11 := hq9
        have qr12 : sh 0 r12 = (0, 1) := p_r12
        have g13 := ti_lo (μ.1 r12 3)
        have g13h := ti_hi (μ.1 r12 3)
        refine ok_ite ?_ ?_
        · intro c14
          rw [ti_eq] at c14
          have g15 := ti_lo (μ.1 39 4)
          have g15h := ti_hi (μ.1 39 4)
          refine ok_bd (k_X2_growBeside (sel 1 (μ.2.2 137 14)) (sel_1 _) r12 qr12 (sel 1 (μ.2.2 137 15)) (sel_1 _) μ hI_μ) ?_
          rintro r17 μ16 ⟨hI_μ16, hC_μ16⟩
          have hI_μ16 : IX μ16 := hI_μ16
          have hC_μ16 : Fr [(2, 1, 2), (2, 1, 3)] true μ μ16 := hC_μ16
          have lo_r17 := ti_lo r17
          have hi_r17 := ti_hi r17
          have hF_μ16 : Fr [(0, 30, 7), (0, 39, 4), (2, 1, 2), (2, 1, 3)] false μ μ16 := hF_μ.trans (hC_μ16.mono (by decide +kernel) (by decide))
          have hr_μ16 : μ16.2.2 = μ.2.2 := (hC_μ16.2 rfl : μ16.2.2 = μ.2.2).trans hr_μ
          try rw [hr_μ16]
          refine ok_bv (fun μ18 e_μ18 => ?_)
          have hI_μ18 : IX μ18 := by rw [e_μ18]; exact IX_F hI_μ16 (rt_39_4 _)
          have hF_μ18 : Fr [(0, 30, 7), (0, 39, 4), (2, 1, 2), (2, 1, 3)] false μ μ18 := by rw [e_μ18]; exact Fr.put hF_μ16 (by decide +kernel)
          have hr_μ18 : μ18.2.2 = μ.2.2 := (by rw [e_μ18]; rfl : μ18.2.2 = μ16.2.2).trans hr_μ16
          try rw [hr_μ18]
          refine ok_bw (k_X10_swapCalls  μ18 hI_μ18) ?_
          rintro μ19 ⟨hI_μ19, hC_μ19⟩
          have hF_μ19 : Fr [(0, 30, 7), (0, 39, 4), (2, 1, 2), (2, 1, 3)] false μ μ19 := hF_μ18.trans (hC_μ19.mono (by decide +kernel) (by decide))
          have hr_μ19 : μ19.2.2 = μ19.2.2 := rfl
          exact ok_mono (k_X10_shapeCall_b117 _ ih a1 a3 a4 μ19 hI_μ19 (by omega)) (fun q h => ⟨h.1, hF_μ19.trans h.2⟩)
        · intro c14
          rw [ti_eq] at c14
          exact ok_mono (k_X10_shapeCall_b117 _ ih a1 a3 a4 μ hI_μ (by omega)) (fun q h => ⟨h.1, hF_μ.trans h.2⟩)
set_option maxHeartbeats 4000000 in
set_option maxRecDepth 100000 in
theorem k_X10_shapeCall_b12 : ∀ (n : Nat) (a1 : Int32) (a2 : Int32) (a3 : Int32) (μ : Mem), IX μ → (0 ≤ (a2).toInt ∧ (a2).toInt ≤ 5 ∧ (a3).toInt + 2147483649 < n) → ok (p_X10_shapeCall_b12 n a1 a2 a3 μ) (fun q => IX q ∧ Fr [(0, 30, 7), (0, 39, 4), (2, 1, 2), (2, 1, 3)] false μ q) := by
  have lim1 : (-1 : Int32).toInt = -1 := by decide
  have li0 : (0 : Int32).toInt = 0 := by decide
  have li1 : (1 : Int32).toInt = 1 := by decide
  intro n
  induction n with
  | zero => intro a1 a2 a3 μ hI_μ hc; exact absurd hc (by have lo_a1 := ti_lo a1; have hi_a1 := ti_hi a1; have lo_a2 := ti_lo a2; have hi_a2 := ti_hi a2; have lo_a3 := ti_lo a3; have hi_a3 := ti_hi a3; omega)
  | succ n ih =>
    intro a1 a2 a3 μ hI_μ hc
    have hF_μ : Fr [(0, 30, 7), (0, 39, 4), (2, 1, 2), (2, 1, 3)] false μ μ := Fr.rf
    have hr_μ : μ.2.2 = μ.2.2 := rfl
    rw [p_X10_shapeCall_b12_s]
    have lo_a1 := ti_lo a1
    have hi_a1 := ti_hi a1
    have lo_a2 := ti_lo a2
    have hi_a2 := ti_hi a2
    have lo_a3 := ti_lo a3
    have hi_a3 := ti_hi a3
    refine ok_ite ?_ ?_
    · intro c4
      rw [ti_lt] at c4
      refine ok_bw (k_X8_drop a2 μ hI_μ (by omega)) ?_
      rintro μ5 ⟨hI_μ5, hC_μ5⟩
      have hF_μ5 : Fr [(0, 30, 7), (0, 39, 4), (2, 1, 2), (2, 1, 3)] false μ μ5 := hF_μ.trans (hC_μ5.mono (by decide +kernel) (by decide))
      have hr_μ5 : μ5.2.2 = μ.2.2 := (hC_μ5.2 rfl : μ5.2.2 = μ.2.2).trans hr_μ
      try rw [hr_μ5]
      have g7 := ti_lo (μ5.1 137 7)
      have g7h := ti_hi (μ5.1 137 7)
      refine ok_bv (fun v8 ev8 => ?_)
      have tv8 : v8.toInt = (μ5.1 137 7).toInt := congrArg Int32.toInt ev8
      obtain ⟨fu, hfu0, hfu⟩ := fuel_ex
      rw [hfu0]
      exact ok_mono (k_X10_shapeCall_b57  fu a1 v8 (0 : Int32) μ5 hI_μ5 (by (try rw [hr_μ5]); omega)) (fun q h => ⟨h.1, hF_μ5.trans h.2⟩)
    · intro c4
      rw [ti_lt] at c4
      refine ok_bd (k_X8_fromTop a3 μ hI_μ) ?_
      rintro r25 μ24 hq9
      obtain rfl : μ = μ24 := hq9
      refine ok_bw (k_X8_flatten r25 (sel 1 (μ.2.2 137 14)) (sel_1 _) μ hI_μ) ?_
      rintro μ26 ⟨hI_μ26, hC_μ26⟩
      have hF_μ26 : Fr [(0, 30, 7), (0, 39, 4), (2, 1, 2), (2, 1, 3)] false μ μ26 := hF_μ.trans (hC_μ26.mono (by decide +kernel) (by decide))
      have hr_μ26 : μ26.2.2 = μ.2.2 := (hC_μ26.2 rfl : μ26.2.2 = μ.2.2).trans hr_μ
      try rw [hr_μ26]
      refine ok_bv (fun v28 ev28 => ?_)
      first | have tv28 : v28.toInt = (a3.toInt + (-1)) := (congrArg Int32.toInt ev28).trans (TI.e (n := (a3.toInt + (-1))) (TI.add TI.rf (TI.lit (by decide)) (by omega) (by omega))) | skip
      exact ok_mono (ih a1 a2 v28 μ26 hI_μ26 (by (try rw [hr_μ26]); omega)) (fun q h => ⟨h.1, hF_μ26.trans h.2⟩)
set_option maxHeartbeats 4000000 in
set_option maxRecDepth 100000 in
theorem k_X10_shapeCall (a1 : Int32) (a2 : Int32) (μ : Mem) (hI_μ : IX μ) (hc : 0 ≤ (a2).toInt ∧ (a2).toInt ≤ 5) : ok (p_X10_shapeCall a1 a2 μ) (fun q => IX q ∧ Fr [(0, 30, 7), (0, 39, 4), (2, 1, 2), (2, 1, 3)] false μ q) := by
  have li0 : (0 : Int32).toInt = 0 := by decide
  have li1 : (1 : Int32).toInt = 1 := by decide
  have hF_μ : Fr [(0, 30, 7), (0, 39, 4), (2, 1, 2), (2, 1, 3)] false μ μ := Fr.rf
  have hr_μ : μ.2.2 = μ.2.2 := rfl
  rw [p_X10_shapeCall_eq]
  have lo_a1 := ti_lo a1
  have hi_a1 := ti_hi a1
  have lo_a2 := ti_lo a2
  have hi_a2 := ti_hi a2
  refine ok_bw (k_X2_begin (sel 1 (μ.2.2 137 14)) (sel_1 _) a1 μ hI_μ) ?_
  rintro μ1 ⟨hI_μ1, hC_μ1⟩
  have hF_μ1 : Fr [(0, 30, 7), (0, 39, 4), (2, 1, 2), (2, 1, 3)] false μ μ1 := hF_μ.trans (hC_μ1.mono (by decide +kernel) (by decide))
  have hr_μ1 : μ1.2.2 = μ.2.2 := (hC_μ1.2 rfl : μ1.2.2 = μ.2.2).trans hr_μ
  try rw [hr_μ1]
  refine ok_bv (fun v3 ev3 => ?_)
  first | have tv3 : v3.toInt = (a2.toInt - 1) := (congrArg Int32.toInt ev3).trans (TI.e (n := (a2.toInt - 1)) (TI.sub TI.rf (TI.lit (by decide)) (by omega) (by omega))) | skip
  obtain ⟨fu, hfu0, hfu⟩ := fuel_ex
  rw [hfu0]
  exact ok_mono (k_X10_shapeCall_b12  fu a1 a2 v3 μ1 hI_μ1 (by (try rw [hr_μ1]); omega)) (fun q h => ⟨h.1, hF_μ1.trans h.2⟩)

set_option maxHeartbeats 4000000 in
set_option maxRecDepth 100000 in
theorem k_X2_isSame_b26 : ∀ (n : Nat) (a0 : Nat) (q0 : sh 0 a0 = (0, 1)) (a1 : Nat) (q1 : sh 0 a1 = (0, 1)) (a2 : Int32) (μ : Mem), IX μ → (0 ≤ (a2).toInt ∧ 2147483648 - (a2).toInt < n) → ok (p_X2_isSame_b26 n a0 a1 a2 μ) (fun q => μ = q.2 ∧ ((q.1).toInt = 0 ∨ (q.1).toInt = 1)) := by
  have li0 : (0 : Int32).toInt = 0 := by decide
  have li1 : (1 : Int32).toInt = 1 := by decide
  intro n
  induction n with
  | zero => intro a0 q0 a1 q1 a2 μ hI_μ hc; exact absurd hc (by have lo_a2 := ti_lo a2; have hi_a2 := ti_hi a2; omega)
  | succ n ih =>
    intro a0 q0 a1 q1 a2 μ hI_μ hc
    have hF_μ : Fr [] true μ μ := Fr.rf
    have hr_μ : μ.2.2 = μ.2.2 := rfl
    rw [p_X2_isSame_b26_s]
    have lo_a2 := ti_lo a2
    have hi_a2 := ti_hi a2
    have g7 := rgp q0 hI_μ
    refine ok_ite ?_ ?_
    · intro c8
      rw [ti_le] at c8
      exact ok_some ⟨rfl, by (try dsimp only); omega⟩
    · intro c8
      rw [ti_le] at c8
      have g9 := rgp q1 hI_μ
      refine ok_ite ?_ ?_
      · intro c10
        rw [ti_le] at c10
        exact ok_some ⟨rfl, by (try dsimp only); omega⟩
      · intro c10
        rw [ti_le] at c10
        refine ok_gd (inb_iff.mpr (by omega)) ?_
        refine ok_gd (inb_iff.mpr (by omega)) ?_
        refine ok_ite ?_ ?_
        · intro c11
          rw [ti_eq] at c11
          refine ok_bv (fun v12 ev12 => ?_)
          first | have tv12 : v12.toInt = (a2.toInt + 1) := (congrArg Int32.toInt ev12).trans (TI.e (n := (a2.toInt + 1)) (TI.add TI.rf (TI.lit (by decide)) (by omega) (by omega))) | have tv12 : v12.toInt ≤ a2.toInt + 1 := by rw [ev12]; exact ti_inc _ | skip
          exact ok_mono (ih a0 q0 a1 q1 v12 μ hI_μ (by omega)) (fun q h => h)
        · intro c11
          rw [ti_eq] at c11
          exact ok_some ⟨rfl, by (try dsimp only); omega⟩
set_option maxHeartbeats 4000000 in
set_option maxRecDepth 100000 in
theorem k_X2_isSame (a0 : Nat) (q0 : sh 0 a0 = (0, 1)) (a1 : Nat) (q1 : sh 0 a1 = (0, 1)) (μ : Mem) (hI_μ : IX μ) : ok (p_X2_isSame a0 a1 μ) (fun q => μ = q.2 ∧ ((q.1).toInt = 0 ∨ (q.1).toInt = 1)) := by
  have li0 : (0 : Int32).toInt = 0 := by decide
  have li1 : (1 : Int32).toInt = 1 := by decide
  have hF_μ : Fr [] true μ μ := Fr.rf
  have hr_μ : μ.2.2 = μ.2.2 := rfl
  rw [p_X2_isSame_eq]
  have g1 := ti_lo (μ.1 a0 3)
  have g1h := ti_hi (μ.1 a0 3)
  have g2 := ti_lo (μ.1 a1 3)
  have g2h := ti_hi (μ.1 a1 3)
  refine ok_ite ?_ ?_
  · intro c3
    rw [ti_eq] at c3
    have g4 := rgp q0 hI_μ
    have g5 := rgp q1 hI_μ
    refine ok_ite ?_ ?_
    · intro c6
      rw [ti_eq] at c6
      obtain ⟨fu, hfu0, hfu⟩ := fuel_ex
      rw [hfu0]
      exact ok_mono (k_X2_isSame_b26  fu a0 q0 a1 q1 (0 : Int32) μ hI_μ (by omega)) (fun q h => h)
    · intro c6
      rw [ti_eq] at c6
      exact ok_some ⟨rfl, by (try dsimp only); omega⟩
  · intro c3
    rw [ti_eq] at c3
    exact ok_some ⟨rfl, by (try dsimp only); omega⟩

set_option maxHeartbeats 4000000 in
set_option maxRecDepth 100000 in
theorem k_X5_find_b2 : ∀ (n : Nat) (a1 : Nat) (q1 : sh 0 a1 = (0, 1)) (a2 : Int32) (μ : Mem), IX μ → (0 ≤ (a2).toInt ∧ (a2).toInt ≤ 24 ∧ 24 - (a2).toInt < n) → ok (p_X5_find_b2 n a1 a2 μ) (fun q => μ = q.2) := by
  have lim1 : (-1 : Int32).toInt = -1 := by decide
  have li0 : (0 : Int32).toInt = 0 := by decide
  have li1 : (1 : Int32).toInt = 1 := by decide
  have li24 : (24 : Int32).toInt = 24 := by decide
  intro n
  induction n with
  | zero => intro a1 q1 a2 μ hI_μ hc; exact absurd hc (by have lo_a2 := ti_lo a2; have hi_a2 := ti_hi a2; omega)
  | succ n ih =>
    intro a1 q1 a2 μ hI_μ hc
    have hF_μ : Fr [] true μ μ := Fr.rf
    have hr_μ : μ.2.2 = μ.2.2 := rfl
    rw [p_X5_find_b2_s]
    have lo_a2 := ti_lo a2
    have hi_a2 := ti_hi a2
    have g1 := rg_39_2 hI_μ
    refine ok_ite ?_ ?_
    · intro c2
      rw [ti_le] at c2
      exact ok_some rfl
    · intro c2
      rw [ti_le] at c2
      refine ok_ite ?_ ?_
      · intro c3
        rw [ti_le] at c3
        exact ok_some rfl
      · intro c3
        rw [ti_le] at c3
        refine ok_gd (inb_iff.mpr (by omega)) ?_
        refine ok_bd (k_X2_isSame (ptc a2.toNatClampNeg) (ptc_ok _) a1 q1 μ hI_μ) ?_
        rintro r5 μ4 ⟨hq9, p_r5⟩
        obtain rfl : μ = μ4 := hq9
        dsimp only at p_r5
        have lo_r5 := ti_lo r5
        have hi_r5 := ti_hi r5
        refine ok_ite ?_ ?_
        · intro c6
          rw [ti_eq] at c6
          refine ok_bv (fun v7 ev7 => ?_)
          first | have tv7 : v7.toInt = (a2.toInt + 1) := (congrArg Int32.toInt ev7).trans (TI.e (n := (a2.toInt + 1)) (TI.add TI.rf (TI.lit (by decide)) (by omega) (by omega))) | have tv7 : v7.toInt ≤ a2.toInt + 1 := by rw [ev7]; exact ti_inc _ | skip
          exact ok_mono (ih a1 q1 v7 μ hI_μ (by omega)) (fun q h => h)
        · intro c6
          rw [ti_eq] at c6
          exact ok_some rfl
set_option maxHeartbeats 4000000 in
set_option maxRecDepth 100000 in
theorem k_X5_find (a1 : Nat) (q1 : sh 0 a1 = (0, 1)) (μ : Mem) (hI_μ : IX μ) : ok (p_X5_find a1 μ) (fun q => μ = q.2) := by
  have li0 : (0 : Int32).toInt = 0 := by decide
  have li1 : (1 : Int32).toInt = 1 := by decide
  have hF_μ : Fr [] true μ μ := Fr.rf
  have hr_μ : μ.2.2 = μ.2.2 := rfl
  rw [p_X5_find_eq]
  obtain ⟨fu, hfu0, hfu⟩ := fuel_ex
  rw [hfu0]
  exact ok_mono (k_X5_find_b2  fu a1 q1 (0 : Int32) μ hI_μ (by omega)) (fun q h => h)

set_option maxHeartbeats 4000000 in
set_option maxRecDepth 100000 in
theorem k_X5_variantsOf_b34 {n4 : Nat} (K4 : Int32 → Int32 → Int32 → Mem → Option (Int32 × Mem)) (hK4 : ∀ (z1 : Int32) (z2 : Int32) (z3 : Int32) (μ1 : Mem), IX μ1 → (0 ≤ (z3).toInt ∧ (z3).toInt ≤ 24 ∧ 24 - (z3).toInt < n4) → ok (K4 z1 z2 z3 μ1) (fun q => μ1 = q.2)) (a1 : Int32) (a2 : Int32) (a3 : Int32) (μ : Mem) (hI_μ : IX μ) (hc : 0 ≤ (a3).toInt ∧ (a3).toInt < 24 ∧ 24 - (a3).toInt < n4 + 1) : ok (p_X5_variantsOf_b34 K4 a1 a2 a3 μ) (fun q => μ = q.2) := by
  have li0 : (0 : Int32).toInt = 0 := by decide
  have li1 : (1 : Int32).toInt = 1 := by decide
  have hF_μ : Fr [] true μ μ := Fr.rf
  have hr_μ : μ.2.2 = μ.2.2 := rfl
  rw [p_X5_variantsOf_b34_eq]
  have lo_a1 := ti_lo a1
  have hi_a1 := ti_hi a1
  have lo_a2 := ti_lo a2
  have hi_a2 := ti_hi a2
  have lo_a3 := ti_lo a3
  have hi_a3 := ti_hi a3
  refine ok_bv (fun v7 ev7 => ?_)
  first | have tv7 : v7.toInt = (a3.toInt + 1) := (congrArg Int32.toInt ev7).trans (TI.e (n := (a3.toInt + 1)) (TI.add TI.rf (TI.lit (by decide)) (by omega) (by omega))) | have tv7 : v7.toInt ≤ a3.toInt + 1 := by rw [ev7]; exact ti_inc _ | skip
  exact ok_mono (hK4 a1 a2 v7 μ hI_μ (by omega)) (fun q h => h)
set_option maxHeartbeats 4000000 in
set_option maxRecDepth 100000 in
theorem k_X5_variantsOf_b4 : ∀ (n : Nat) (a1 : Int32) (a2 : Int32) (a3 : Int32) (μ : Mem), IX μ → (0 ≤ (a3).toInt ∧ (a3).toInt ≤ 24 ∧ 24 - (a3).toInt < n) → ok (p_X5_variantsOf_b4 n a1 a2 a3 μ) (fun q => μ = q.2) := by
  have li0 : (0 : Int32).toInt = 0 := by decide
  have li1 : (1 : Int32).toInt = 1 := by decide
  have li24 : (24 : Int32).toInt = 24 := by decide
  intro n
  induction n with
  | zero => intro a1 a2 a3 μ hI_μ hc; exact absurd hc (by have lo_a1 := ti_lo a1; have hi_a1 := ti_hi a1; have lo_a2 := ti_lo a2; have hi_a2 := ti_hi a2; have lo_a3 := ti_lo a3; have hi_a3 := ti_hi a3; omega)
  | succ n ih =>
    intro a1 a2 a3 μ hI_μ hc
    have hF_μ : Fr [] true μ μ := Fr.rf
    have hr_μ : μ.2.2 = μ.2.2 := rfl
    rw [p_X5_variantsOf_b4_s]
    have lo_a1 := ti_lo a1
    have hi_a1 := ti_hi a1
    have lo_a2 := ti_lo a2
    have hi_a2 := ti_hi a2
    have lo_a3 := ti_lo a3
    have hi_a3 := ti_hi a3
    have g1 := rg_39_2 hI_μ
    refine ok_ite ?_ ?_
    · intro c2
      rw [ti_le] at c2
      exact ok_some rfl
    · intro c2
      rw [ti_le] at c2
      refine ok_ite ?_ ?_
      · intro c3
        rw [ti_le] at c3
        exact ok_some rfl
      · intro c3
        rw [ti_le] at c3
        refine ok_gd (inb_iff.mpr (by omega)) ?_
        have g4 := ti_lo (μ.1 (ptc a3.toNatClampNeg) 3)
        have g4h := ti_hi (μ.1 (ptc a3.toNatClampNeg) 3)
        refine ok_ite ?_ ?_
        · intro c5
          rw [ti_eq] at c5
          refine ok_bv (fun v6 ev6 => ?_)
          first | have tv6 : v6.toInt = (a2.toInt + 1) := (congrArg Int32.toInt ev6).trans (TI.e (n := (a2.toInt + 1)) (TI.add TI.rf (TI.lit (by decide)) (by omega) (by omega))) | have tv6 : v6.toInt ≤ a2.toInt + 1 := by rw [ev6]; exact ti_inc _ | skip
          exact ok_mono (k_X5_variantsOf_b34 _ ih a1 v6 a3 μ hI_μ (by omega)) (fun q h => h)
        · intro c5
          rw [ti_eq] at c5
          exact ok_mono (k_X5_variantsOf_b34 _ ih a1 a2 a3 μ hI_μ (by omega)) (fun q h => h)
set_option maxHeartbeats 4000000 in
set_option maxRecDepth 100000 in
theorem k_X5_variantsOf (a1 : Int32) (μ : Mem) (hI_μ : IX μ) : ok (p_X5_variantsOf a1 μ) (fun q => μ = q.2) := by
  have li0 : (0 : Int32).toInt = 0 := by decide
  have li1 : (1 : Int32).toInt = 1 := by decide
  have hF_μ : Fr [] true μ μ := Fr.rf
  have hr_μ : μ.2.2 = μ.2.2 := rfl
  rw [p_X5_variantsOf_eq]
  have lo_a1 := ti_lo a1
  have hi_a1 := ti_hi a1
  obtain ⟨fu, hfu0, hfu⟩ := fuel_ex
  rw [hfu0]
  exact ok_mono (k_X5_variantsOf_b4  fu a1 (0 : Int32) (0 : Int32) μ hI_μ (by omega)) (fun q h => h)

set_option maxHeartbeats 4000000 in
set_option maxRecDepth 100000 in
theorem k_X10_isTooMuch (a1 : Int32) (μ : Mem) (hI_μ : IX μ) : ok (p_X10_isTooMuch a1 μ) (fun q => μ = q.2 ∧ ((q.1).toInt = 0 ∨ (q.1).toInt = 1)) := by
  have li0 : (0 : Int32).toInt = 0 := by decide
  have li1 : (1 : Int32).toInt = 1 := by decide
  have li8 : (8 : Int32).toInt = 8 := by decide
  have hF_μ : Fr [] true μ μ := Fr.rf
  have hr_μ : μ.2.2 = μ.2.2 := rfl
  rw [p_X10_isTooMuch_eq]
  have lo_a1 := ti_lo a1
  have hi_a1 := ti_hi a1
  refine ok_bd (k_X5_variantsOf a1 μ hI_μ) ?_
  rintro r2 μ1 hq9
  obtain rfl : μ = μ1 := hq9
  have lo_r2 := ti_lo r2
  have hi_r2 := ti_hi r2
  have g3 := ti_lo (μ.1 137 1)
  have g3h := ti_hi (μ.1 137 1)
  refine ok_ite ?_ ?_
  · intro c4
    rw [ti_le] at c4
    exact ok_some ⟨rfl, by (try dsimp only); omega⟩
  · intro c4
    rw [ti_le] at c4
    have g5 := rg_39_1 hI_μ
    have g6 := ti_lo (μ.1 137 2)
    have g6h := ti_hi (μ.1 137 2)
    refine ok_ite ?_ ?_
    · intro c7
      rw [ti_le] at c7
      exact ok_some ⟨rfl, by (try dsimp only); omega⟩
    · intro c7
      rw [ti_le] at c7
      refine ok_bd (k_X2_stars (sel 1 (μ.2.2 137 14)) (sel_1 _) μ hI_μ) ?_
      rintro r9 μ8 hq9
      obtain rfl : μ = μ8 := hq9
      have lo_r9 := ti_lo r9
      have hi_r9 := ti_hi r9
      refine ok_ite ?_ ?_
      · intro c10
        rw [ti_le] at c10
        exact ok_some ⟨rfl, by (try dsimp only); omega⟩
      · intro c10
        rw [ti_le] at c10
        exact ok_some ⟨rfl, by (try dsimp only); omega⟩

set_option maxHeartbeats 4000000 in
set_option maxRecDepth 100000 in
theorem k_X2_letAllGo_b10 : ∀ (n : Nat) (a0 : Nat) (q0 : sh 0 a0 = (0, 1)) (a1 : Nat) (q1 : sh 0 a1 = (0, 1)) (a2 : Int32) (μ : Mem), IX μ → (0 ≤ (a2).toInt ∧ 2147483648 - (a2).toInt < n) → ok (p_X2_letAllGo_b10 n a0 a1 a2 μ) (fun q => IX q ∧ Fr [(2, 1, 2), (2, 1, 3)] true μ q) := by
  have li0 : (0 : Int32).toInt = 0 := by decide
  have li1 : (1 : Int32).toInt = 1 := by decide
  intro n
  induction n with
  | zero => intro a0 q0 a1 q1 a2 μ hI_μ hc; exact absurd hc (by have lo_a2 := ti_lo a2; have hi_a2 := ti_hi a2; omega)
  | succ n ih =>
    intro a0 q0 a1 q1 a2 μ hI_μ hc
    have hF_μ : Fr [(2, 1, 2), (2, 1, 3)] true μ μ := Fr.rf
    have hr_μ : μ.2.2 = μ.2.2 := rfl
    rw [p_X2_letAllGo_b10_s]
    have lo_a2 := ti_lo a2
    have hi_a2 := ti_hi a2
    have g4 := rgp q0 hI_μ
    refine ok_ite ?_ ?_
    · intro c5
      rw [ti_le] at c5
      exact ok_some ⟨hI_μ, hF_μ⟩
    · intro c5
      rw [ti_le] at c5
      have l6 := pl_eq q0
      refine ok_gd (inb_iff.mpr (by omega)) ?_
      refine ok_bw (k_X2_add a1 q1 (17179869184 : Int64) (μ.2.1 (a0 + 2) a2.toNatClampNeg) μ hI_μ) ?_
      rintro μ7 ⟨hI_μ7, hC_μ7⟩
      have hF_μ7 : Fr [(2, 1, 2), (2, 1, 3)] true μ μ7 := hF_μ.trans (hC_μ7.mono (by decide +kernel) (by decide))
      have hr_μ7 : μ7.2.2 = μ.2.2 := (hC_μ7.2 rfl : μ7.2.2 = μ.2.2).trans hr_μ
      refine ok_bd (k_X2_behind a0 q0 a2 μ7 hI_μ7) ?_
      rintro r10 μ9 ⟨hq9, p_r10⟩
      obtain rfl : μ7 = μ9 := hq9
      dsimp only at p_r10
      have lo_r10 := ti_lo r10
      have hi_r10 := ti_hi r10
      refine ok_bv (fun v11 ev11 => ?_)
      first | have tv11 : v11.toInt = (max r10.toInt (a2.toInt + 1)) := (congrArg Int32.toInt ev11).trans (TI.e (n := (max r10.toInt (a2.toInt + 1))) (TI.max TI.rf (TI.add TI.rf (TI.lit (by decide)) (by omega) (by omega)))) | skip
      exact ok_mono (ih a0 q0 a1 q1 v11 μ7 hI_μ7 (by (try rw [hr_μ7]); omega)) (fun q h => ⟨h.1, hF_μ7.trans h.2⟩)
set_option maxHeartbeats 4000000 in
set_option maxRecDepth 100000 in
theorem k_X2_letAllGo (a0 : Nat) (q0 : sh 0 a0 = (0, 1)) (a1 : Nat) (q1 : sh 0 a1 = (0, 1)) (μ : Mem) (hI_μ : IX μ) : ok (p_X2_letAllGo a0 a1 μ) (fun q => IX q ∧ Fr [(2, 1, 2), (2, 1, 3)] true μ q) := by
  have li0 : (0 : Int32).toInt = 0 := by decide
  have li1 : (1 : Int32).toInt = 1 := by decide
  have hF_μ : Fr [(2, 1, 2), (2, 1, 3)] true μ μ := Fr.rf
  have hr_μ : μ.2.2 = μ.2.2 := rfl
  rw [p_X2_letAllGo_eq]
  have g1 := ti_lo (μ.1 a0 3)
  have g1h := ti_hi (μ.1 a0 3)
  refine ok_bw (k_X2_begin a1 q1 (μ.1 a0 3) μ hI_μ) ?_
  rintro μ2 ⟨hI_μ2, hC_μ2⟩
  have hF_μ2 : Fr [(2, 1, 2), (2, 1, 3)] true μ μ2 := hF_μ.trans (hC_μ2.mono (by decide +kernel) (by decide))
  have hr_μ2 : μ2.2.2 = μ.2.2 := (hC_μ2.2 rfl : μ2.2.2 = μ.2.2).trans hr_μ
  obtain ⟨fu, hfu0, hfu⟩ := fuel_ex
  rw [hfu0]
  exact ok_mono (k_X2_letAllGo_b10  fu a0 q0 a1 q1 (0 : Int32) μ2 hI_μ2 (by (try rw [hr_μ2]); omega)) (fun q h => ⟨h.1, hF_μ2.trans h.2⟩)
