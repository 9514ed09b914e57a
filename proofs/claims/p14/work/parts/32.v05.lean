set_option maxHeartbeats 4000000 in
set_option maxRecDepth 100000 in
theorem k_X4_readTask_b116 (a1 : Nat) (q1 : sh 0 a1 = (0, 1)) (a2 : Int32) (a3 : Int32) (μ : Mem) (hI_μ : IX μ) : ok (p_X4_readTask_b116 a1 a2 a3 μ) (fun q => IX q ∧ Fr [(0, 16, 2), (0, 16, 3), (2, 1, 2), (2, 1, 3)] true μ q) := by
  have li0 : (0 : Int32).toInt = 0 := by decide
  have li1 : (1 : Int32).toInt = 1 := by decide
  have li6 : (6 : Int32).toInt = 6 := by decide
  have li41 : (41 : Int32).toInt = 41 := by decide
  have li97 : (97 : Int32).toInt = 97 := by decide
  have hF_μ : Fr [(0, 16, 2), (0, 16, 3), (2, 1, 2), (2, 1, 3)] true μ μ := Fr.rf
  have hr_μ : μ.2.2 = μ.2.2 := rfl
  rw [p_X4_readTask_b116_eq]
  have lo_a2 := ti_lo a2
  have hi_a2 := ti_hi a2
  have lo_a3 := ti_lo a3
  have hi_a3 := ti_hi a3
  refine ok_bd (k_X4_take (41 : Int32) μ hI_μ) ?_
  rintro r17 μ16 ⟨hI_μ16, hC_μ16, p_μ16⟩
  have hI_μ16 : IX μ16 := hI_μ16
  have hC_μ16 : Fr [(0, 16, 2), (0, 16, 3)] true μ μ16 := hC_μ16
  dsimp only at p_μ16
  have lo_r17 := ti_lo r17
  have hi_r17 := ti_hi r17
  have hF_μ16 : Fr [(0, 16, 2), (0, 16, 3), (2, 1, 2), (2, 1, 3)] true μ μ16 := hF_μ.trans (hC_μ16.mono (by decide +kernel) (by decide))
  have hr_μ16 : μ16.2.2 = μ.2.2 := (hC_μ16.2 rfl : μ16.2.2 = μ.2.2).trans hr_μ
  try rw [hr_μ16]
  refine ok_bv (fun μ18 e_μ18 => ?_)
  have hI_μ18 : IX μ18 := by rw [e_μ18]; exact IX_F hI_μ16 (rtc_1_3 q1 _)
  have hF_μ18 : Fr [(0, 16, 2), (0, 16, 3), (2, 1, 2), (2, 1, 3)] true μ μ18 := by rw [e_μ18]; exact Fr.putc (ci := 1) hF_μ16 (by decide +kernel) q1
  have hr_μ18 : μ18.2.2 = μ.2.2 := (by rw [e_μ18]; rfl : μ18.2.2 = μ16.2.2).trans hr_μ16
  try rw [hr_μ18]
  refine ok_bw (k_X4_takeEnd  μ18 hI_μ18) ?_
  rintro μ19 ⟨hI_μ19, hC_μ19⟩
  have hF_μ19 : Fr [(0, 16, 2), (0, 16, 3), (2, 1, 2), (2, 1, 3)] true μ μ19 := hF_μ18.trans (hC_μ19.mono (by decide +kernel) (by decide))
  have hr_μ19 : μ19.2.2 = μ.2.2 := (hC_μ19.2 rfl : μ19.2.2 = μ18.2.2).trans hr_μ18
  try rw [hr_μ19]
  exact ok_some ⟨hI_μ19, hF_μ19⟩
set_option maxHeartbeats 4000000 in
set_option maxRecDepth 100000 in
theorem k_X4_readTask_b71 : ∀ (n : Nat) (a1 : Nat) (q1 : sh 0 a1 = (0, 1)) (a2 : Int32) (a3 : Int32) (μ : Mem), IX μ → (0 ≤ (a3).toInt ∧ (a3).toInt ≤ 5 ∧ 5 - (a3).toInt < n) → ok (p_X4_readTask_b71 n a1 a2 a3 μ) (fun q => IX q ∧ Fr [(0, 16, 2), (0, 16, 3), (2, 1, 2), (2, 1, 3)] true μ q) := by
  have li0 : (0 : Int32).toInt = 0 := by decide
  have li1 : (1 : Int32).toInt = 1 := by decide
  have li5 : (5 : Int32).toInt = 5 := by decide
  have li8 : (8 : Int32).toInt = 8 := by decide
  have li44 : (44 : Int32).toInt = 44 := by decide
  intro n
  induction n with
  | zero => intro a1 q1 a2 a3 μ hI_μ hc; exact absurd hc (by have lo_a2 := ti_lo a2; have hi_a2 := ti_hi a2; have lo_a3 := ti_lo a3; have hi_a3 := ti_hi a3; omega)
  | succ n ih =>
    intro a1 q1 a2 a3 μ hI_μ hc
    have hF_μ : Fr [(0, 16, 2), (0, 16, 3), (2, 1, 2), (2, 1, 3)] true μ μ := Fr.rf
    have hr_μ : μ.2.2 = μ.2.2 := rfl
    rw [p_X4_readTask_b71_s]
    have lo_a2 := ti_lo a2
    have hi_a2 := ti_hi a2
    have lo_a3 := ti_lo a3
    have hi_a3 := ti_hi a3
    refine ok_bd (k_X4_isWell  μ hI_μ) ?_
    rintro r27 μ26 ⟨hq9, p_r27⟩
    obtain rfl : μ = μ26 := hq9
    dsimp only at p_r27
    have lo_r27 := ti_lo r27
    have hi_r27 := ti_hi r27
    refine ok_ite ?_ ?_
    · intro c28
      rw [ti_eq] at c28
      exact ok_mono (k_X4_readTask_b116  a1 q1 a2 a3 μ hI_μ) (fun q h => ⟨h.1, hF_μ.trans h.2⟩)
    · intro c28
      rw [ti_eq] at c28
      refine ok_bd (k_X4_here  μ hI_μ) ?_
      rintro r30 μ29 hq9
      obtain rfl : μ = μ29 := hq9
      have lo_r30 := ti_lo r30
      have hi_r30 := ti_hi r30
      refine ok_ite ?_ ?_
      · intro c31
        rw [ti_eq] at c31
        refine ok_ite ?_ ?_
        · intro c32
          rw [ti_le] at c32
          exact ok_mono (k_X4_readTask_b116  a1 q1 a2 a3 μ hI_μ) (fun q h => ⟨h.1, hF_μ.trans h.2⟩)
        · intro c32
          rw [ti_le] at c32
          have g33 := ti_lo (μ.1 16 2)
          have g33h := ti_hi (μ.1 16 2)
          refine ok_bv (fun μ34 e_μ34 => ?_)
          have hI_μ34 : IX μ34 := by rw [e_μ34]; exact IX_F hI_μ (rt_16_2 _)
          have hF_μ34 : Fr [(0, 16, 2), (0, 16, 3), (2, 1, 2), (2, 1, 3)] true μ μ34 := by rw [e_μ34]; exact Fr.put hF_μ (by decide +kernel)
          have hr_μ34 : μ34.2.2 = μ.2.2 := (by rw [e_μ34]; rfl : μ34.2.2 = μ.2.2).trans hr_μ
          try rw [hr_μ34]
          refine ok_bw (kr_X4_readPart 50 a1 q1 (8 : Int32) (0 : Int32) μ34 hI_μ34 (by (try rw [hr_μ34]); omega)) ?_
          rintro μ35 ⟨hI_μ35, hC_μ35⟩
          have hF_μ35 : Fr [(0, 16, 2), (0, 16, 3), (2, 1, 2), (2, 1, 3)] true μ μ35 := hF_μ34.trans (hC_μ35.mono (by decide +kernel) (by decide))
          have hr_μ35 : μ35.2.2 = μ.2.2 := (hC_μ35.2 rfl : μ35.2.2 = μ34.2.2).trans hr_μ34
          try rw [hr_μ35]
          refine ok_bv (fun v37 ev37 => ?_)
          first | have tv37 : v37.toInt = (a3.toInt + 1) := (congrArg Int32.toInt ev37).trans (TI.e (n := (a3.toInt + 1)) (TI.add TI.rf (TI.lit (by decide)) (by omega) (by omega))) | have tv37 : v37.toInt ≤ a3.toInt + 1 := by rw [ev37]; exact ti_inc _ | skip
          exact ok_mono (ih a1 q1 a2 v37 μ35 hI_μ35 (by (try rw [hr_μ35]); omega)) (fun q h => ⟨h.1, hF_μ35.trans h.2⟩)
      · intro c31
        rw [ti_eq] at c31
        exact ok_mono (k_X4_readTask_b116  a1 q1 a2 a3 μ hI_μ) (fun q h => ⟨h.1, hF_μ.trans h.2⟩)
set_option maxHeartbeats 4000000 in
set_option maxRecDepth 100000 in
theorem k_X4_readTask (a1 : Nat) (q1 : sh 0 a1 = (0, 1)) (μ : Mem) (hI_μ : IX μ) : ok (p_X4_readTask a1 μ) (fun q => IX q ∧ Fr [(0, 16, 2), (0, 16, 3), (2, 1, 2), (2, 1, 3)] true μ q) := by
  have li0 : (0 : Int32).toInt = 0 := by decide
  have li1 : (1 : Int32).toInt = 1 := by decide
  have li8 : (8 : Int32).toInt = 8 := by decide
  have li40 : (40 : Int32).toInt = 40 := by decide
  have li41 : (41 : Int32).toInt = 41 := by decide
  have hF_μ : Fr [(0, 16, 2), (0, 16, 3), (2, 1, 2), (2, 1, 3)] true μ μ := Fr.rf
  have hr_μ : μ.2.2 = μ.2.2 := rfl
  rw [p_X4_readTask_eq]
  refine ok_bw (k_X2_begin a1 q1 (0 : Int32) μ hI_μ) ?_
  rintro μ1 ⟨hI_μ1, hC_μ1⟩
  have hF_μ1 : Fr [(0, 16, 2), (0, 16, 3), (2, 1, 2), (2, 1, 3)] true μ μ1 := hF_μ.trans (hC_μ1.mono (by decide +kernel) (by decide))
  have hr_μ1 : μ1.2.2 = μ.2.2 := (hC_μ1.2 rfl : μ1.2.2 = μ.2.2).trans hr_μ
  try rw [hr_μ1]
  refine ok_bd (k_X4_here  μ1 hI_μ1) ?_
  rintro r4 μ3 hq9
  obtain rfl : μ1 = μ3 := hq9
  have lo_r4 := ti_lo r4
  have hi_r4 := ti_hi r4
  try rw [hr_μ1]
  refine ok_ite ?_ ?_
  · intro c5
    rw [ti_eq] at c5
    have g6 := ti_lo (μ1.1 16 2)
    have g6h := ti_hi (μ1.1 16 2)
    refine ok_bw (k_X4_fail (μ1.1 16 2) μ1 hI_μ1) ?_
    rintro μ7 ⟨hI_μ7, hC_μ7⟩
    have hF_μ7 : Fr [(0, 16, 2), (0, 16, 3), (2, 1, 2), (2, 1, 3)] true μ μ7 := hF_μ1.trans (hC_μ7.mono (by decide +kernel) (by decide))
    have hr_μ7 : μ7.2.2 = μ.2.2 := (hC_μ7.2 rfl : μ7.2.2 = μ1.2.2).trans hr_μ1
    try rw [hr_μ7]
    exact ok_some ⟨hI_μ7, hF_μ7⟩
  · intro c5
    rw [ti_eq] at c5
    have g9 := ti_lo (μ1.1 16 2)
    have g9h := ti_hi (μ1.1 16 2)
    refine ok_bv (fun μ10 e_μ10 => ?_)
    have hI_μ10 : IX μ10 := by rw [e_μ10]; exact IX_F hI_μ1 (rt_16_2 _)
    have hF_μ10 : Fr [(0, 16, 2), (0, 16, 3), (2, 1, 2), (2, 1, 3)] true μ μ10 := by rw [e_μ10]; exact Fr.put hF_μ1 (by decide +kernel)
    have hr_μ10 : μ10.2.2 = μ.2.2 := (by rw [e_μ10]; rfl : μ10.2.2 = μ1.2.2).trans hr_μ1
    try rw [hr_μ10]
    refine ok_bd (k_X4_take (40 : Int32) μ10 hI_μ10) ?_
    rintro r12 μ11 ⟨hI_μ11, hC_μ11, p_μ11⟩
    have hI_μ11 : IX μ11 := hI_μ11
    have hC_μ11 : Fr [(0, 16, 2), (0, 16, 3)] true μ10 μ11 := hC_μ11
    dsimp only at p_μ11
    have lo_r12 := ti_lo r12
    have hi_r12 := ti_hi r12
    have hF_μ11 : Fr [(0, 16, 2), (0, 16, 3), (2, 1, 2), (2, 1, 3)] true μ μ11 := hF_μ10.trans (hC_μ11.mono (by decide +kernel) (by decide))
    have hr_μ11 : μ11.2.2 = μ.2.2 := (hC_μ11.2 rfl : μ11.2.2 = μ10.2.2).trans hr_μ10
    try rw [hr_μ11]
    refine ok_bd (k_X4_isWell  μ11 hI_μ11) ?_
    rintro r14 μ13 ⟨hq9, p_r14⟩
    obtain rfl : μ11 = μ13 := hq9
    dsimp only at p_r14
    have lo_r14 := ti_lo r14
    have hi_r14 := ti_hi r14
    try rw [hr_μ11]
    refine ok_ite ?_ ?_
    · intro c15
      rw [ti_eq] at c15
      exact ok_mono (k_X4_readTask_b116  a1 q1 r4 (0 : Int32) μ11 hI_μ11) (fun q h => ⟨h.1, hF_μ11.trans h.2⟩)
    · intro c15
      rw [ti_eq] at c15
      refine ok_bd (k_X4_here  μ11 hI_μ11) ?_
      rintro r22 μ21 hq9
      obtain rfl : μ11 = μ21 := hq9
      have lo_r22 := ti_lo r22
      have hi_r22 := ti_hi r22
      try rw [hr_μ11]
      refine ok_ite ?_ ?_
      · intro c23
        rw [ti_eq] at c23
        exact ok_mono (k_X4_readTask_b116  a1 q1 r4 (0 : Int32) μ11 hI_μ11) (fun q h => ⟨h.1, hF_μ11.trans h.2⟩)
      · intro c23
        rw [ti_eq] at c23
        refine ok_bw (kr_X4_readPart 50 a1 q1 (8 : Int32) (0 : Int32) μ11 hI_μ11 (by (try rw [hr_μ11]); omega)) ?_
        rintro μ24 ⟨hI_μ24, hC_μ24⟩
        have hF_μ24 : Fr [(0, 16, 2), (0, 16, 3), (2, 1, 2), (2, 1, 3)] true μ μ24 := hF_μ11.trans (hC_μ24.mono (by decide +kernel) (by decide))
        have hr_μ24 : μ24.2.2 = μ.2.2 := (hC_μ24.2 rfl : μ24.2.2 = μ11.2.2).trans hr_μ11
        try rw [hr_μ24]
        obtain ⟨fu, hfu0, hfu⟩ := fuel_ex
        rw [hfu0]
        exact ok_mono (k_X4_readTask_b71  fu a1 q1 r4 (1 : Int32) μ24 hI_μ24 (by (try rw [hr_μ24]); omega)) (fun q h => ⟨h.1, hF_μ24.trans h.2⟩)

set_option maxHeartbeats 4000000 in
set_option maxRecDepth 100000 in
theorem k_X11_task  (μ : Mem) (hI_μ : IX μ) : ok (p_X11_task  μ) (fun q => IX q.2 ∧ Fr [(0, 0, 1), (0, 0, 2), (0, 0, 10), (0, 16, 1), (0, 16, 2), (0, 16, 3), (0, 39, 0), (0, 39, 1), (0, 39, 2), (0, 39, 3), (0, 39, 4), (0, 39, 5), (0, 39, 6), (2, 1, 2), (2, 1, 3)] false μ q.2 ∧ ((q.2.1 0 1).toInt = 0)) := by
  have lim1 : (-1 : Int32).toInt = -1 := by decide
  have li0 : (0 : Int32).toInt = 0 := by decide
  have li1 : (1 : Int32).toInt = 1 := by decide
  have hF_μ : Fr [(0, 0, 1), (0, 0, 2), (0, 0, 10), (0, 16, 1), (0, 16, 2), (0, 16, 3), (0, 39, 0), (0, 39, 1), (0, 39, 2), (0, 39, 3), (0, 39, 4), (0, 39, 5), (0, 39, 6), (2, 1, 2), (2, 1, 3)] false μ μ := Fr.rf
  have hr_μ : μ.2.2 = μ.2.2 := rfl
  rw [p_X11_task_eq]
  refine ok_bw (k_X11_takeTape  μ hI_μ) ?_
  rintro μ1 ⟨hI_μ1, hC_μ1, p_μ1⟩
  have hF_μ1 : Fr [(0, 0, 1), (0, 0, 2), (0, 0, 10), (0, 16, 1), (0, 16, 2), (0, 16, 3), (0, 39, 0), (0, 39, 1), (0, 39, 2), (0, 39, 3), (0, 39, 4), (0, 39, 5), (0, 39, 6), (2, 1, 2), (2, 1, 3)] false μ μ1 := hF_μ.trans (hC_μ1.mono (by decide +kernel) (by decide))
  have hr_μ1 : μ1.2.2 = μ.2.2 := (hC_μ1.2 rfl : μ1.2.2 = μ.2.2).trans hr_μ
  try rw [hr_μ1]
  have g3 := rg_0_1 hI_μ1
  refine ok_bw (k_X4_readTask (sel 1 (μ.2.2 0 7)) (sel_1 _) μ1 hI_μ1) ?_
  rintro μ4 ⟨hI_μ4, hC_μ4⟩
  have hF_μ4 : Fr [(0, 0, 1), (0, 0, 2), (0, 0, 10), (0, 16, 1), (0, 16, 2), (0, 16, 3), (0, 39, 0), (0, 39, 1), (0, 39, 2), (0, 39, 3), (0, 39, 4), (0, 39, 5), (0, 39, 6), (2, 1, 2), (2, 1, 3)] false μ μ4 := hF_μ1.trans (hC_μ4.mono (by decide +kernel) (by decide))
  have hr_μ4 : μ4.2.2 = μ.2.2 := (hC_μ4.2 rfl : μ4.2.2 = μ1.2.2).trans hr_μ1
  try rw [hr_μ4]
  refine ok_bd (k_X4_badPlace  μ4 hI_μ4) ?_
  rintro r7 μ6 hq9
  obtain rfl : μ4 = μ6 := hq9
  have lo_r7 := ti_lo r7
  have hi_r7 := ti_hi r7
  try rw [hr_μ4]
  refine ok_bv (fun μ8 e_μ8 => ?_)
  have hI_μ8 : IX μ8 := by rw [e_μ8]; exact IX_F hI_μ4 (rt_0_2 _)
  have hF_μ8 : Fr [(0, 0, 1), (0, 0, 2), (0, 0, 10), (0, 16, 1), (0, 16, 2), (0, 16, 3), (0, 39, 0), (0, 39, 1), (0, 39, 2), (0, 39, 3), (0, 39, 4), (0, 39, 5), (0, 39, 6), (2, 1, 2), (2, 1, 3)] false μ μ8 := by rw [e_μ8]; exact Fr.put hF_μ4 (by decide +kernel)
  have v_μ8 : (μ8.1 0 2).toInt = r7.toInt := by rw [e_μ8, sF_v]
  have hr_μ8 : μ8.2.2 = μ.2.2 := (by rw [e_μ8]; rfl : μ8.2.2 = μ4.2.2).trans hr_μ4
  try rw [hr_μ8]
  have g9 := ti_lo (μ8.1 0 2)
  have g9h := ti_hi (μ8.1 0 2)
  refine ok_ite ?_ ?_
  · intro c10
    rw [ti_eq] at c10
    refine ok_bv (fun μ11 e_μ11 => ?_)
    have hI_μ11 : IX μ11 := by rw [e_μ11]; exact IX_R hI_μ8
    have hF_μ11 : Fr [(0, 0, 1), (0, 0, 2), (0, 0, 10), (0, 16, 1), (0, 16, 2), (0, 16, 3), (0, 39, 0), (0, 39, 1), (0, 39, 2), (0, 39, 3), (0, 39, 4), (0, 39, 5), (0, 39, 6), (2, 1, 2), (2, 1, 3)] false μ μ11 := by rw [e_μ11]; exact ⟨hF_μ8.1, fun h9 => absurd h9 (by decide)⟩
    have hr_μ11 : μ11.2.2 = μ11.2.2 := rfl
    refine ok_bv (fun μ12 e_μ12 => ?_)
    have hI_μ12 : IX μ12 := by rw [e_μ12]; exact IX_R hI_μ11
    have hF_μ12 : Fr [(0, 0, 1), (0, 0, 2), (0, 0, 10), (0, 16, 1), (0, 16, 2), (0, 16, 3), (0, 39, 0), (0, 39, 1), (0, 39, 2), (0, 39, 3), (0, 39, 4), (0, 39, 5), (0, 39, 6), (2, 1, 2), (2, 1, 3)] false μ μ12 := by rw [e_μ12]; exact ⟨hF_μ11.1, fun h9 => absurd h9 (by decide)⟩
    have hr_μ12 : μ12.2.2 = μ12.2.2 := rfl
    refine ok_bv (fun μ13 e_μ13 => ?_)
    have hI_μ13 : IX μ13 := by rw [e_μ13]; exact IX_F hI_μ12 (rt_0_10 _)
    have hF_μ13 : Fr [(0, 0, 1), (0, 0, 2), (0, 0, 10), (0, 16, 1), (0, 16, 2), (0, 16, 3), (0, 39, 0), (0, 39, 1), (0, 39, 2), (0, 39, 3), (0, 39, 4), (0, 39, 5), (0, 39, 6), (2, 1, 2), (2, 1, 3)] false μ μ13 := by rw [e_μ13]; exact Fr.put hF_μ12 (by decide +kernel)
    have v_μ13 : (μ13.1 0 10).toInt = 0 := by rw [e_μ13, sF_v]; exact TI.e (n := 0) (TI.lit (by decide))
    have hr_μ13 : μ13.2.2 = μ12.2.2 := (by rw [e_μ13]; rfl : μ13.2.2 = μ12.2.2).trans hr_μ12
    try rw [hr_μ13]
    refine ok_bw (k_X2_begin (sel 1 (μ12.2.2 0 8)) (sel_1 _) (0 : Int32) μ13 hI_μ13) ?_
    rintro μ14 ⟨hI_μ14, hC_μ14⟩
    have hF_μ14 : Fr [(0, 0, 1), (0, 0, 2), (0, 0, 10), (0, 16, 1), (0, 16, 2), (0, 16, 3), (0, 39, 0), (0, 39, 1), (0, 39, 2), (0, 39, 3), (0, 39, 4), (0, 39, 5), (0, 39, 6), (2, 1, 2), (2, 1, 3)] false μ μ14 := hF_μ13.trans (hC_μ14.mono (by decide +kernel) (by decide))
    have hr_μ14 : μ14.2.2 = μ12.2.2 := (hC_μ14.2 rfl : μ14.2.2 = μ13.2.2).trans hr_μ13
    try rw [hr_μ14]
    refine ok_bw (k_X5_clear  μ14 hI_μ14) ?_
    rintro μ16 ⟨hI_μ16, hC_μ16⟩
    have hF_μ16 : Fr [(0, 0, 1), (0, 0, 2), (0, 0, 10), (0, 16, 1), (0, 16, 2), (0, 16, 3), (0, 39, 0), (0, 39, 1), (0, 39, 2), (0, 39, 3), (0, 39, 4), (0, 39, 5), (0, 39, 6), (2, 1, 2), (2, 1, 3)] false μ μ16 := hF_μ14.trans (hC_μ16.mono (by decide +kernel) (by decide))
    have hr_μ16 : μ16.2.2 = μ12.2.2 := (hC_μ16.2 rfl : μ16.2.2 = μ14.2.2).trans hr_μ14
    try rw [hr_μ16]
    refine ok_bd (k_X2_stars (sel 1 (μ12.2.2 0 6)) (sel_1 _) μ16 hI_μ16) ?_
    rintro r19 μ18 hq9
    obtain rfl : μ16 = μ18 := hq9
    have lo_r19 := ti_lo r19
    have hi_r19 := ti_hi r19
    try rw [hr_μ16]
    have g20 := rg_0_1 hI_μ16
    have f21 : (μ16.1 0 1).toInt = (μ1.1 0 1).toInt := congrArg Int32.toInt ((hC_μ16.1 0 1 (by decide +kernel)).trans ((hC_μ14.1 0 1 (by decide +kernel)).trans (((by rw [e_μ13]; rfl : μ13.1 0 1 = μ12.1 0 1)).trans (((by rw [e_μ12]; rfl : μ12.1 0 1 = μ11.1 0 1)).trans (((by rw [e_μ11]; rfl : μ11.1 0 1 = μ8.1 0 1)).trans (((by rw [e_μ8]; rfl : μ8.1 0 1 = μ4.1 0 1)).trans (hC_μ4.1 0 1 (by decide +kernel))))))))
    exact ok_some ⟨hI_μ16, hF_μ16, by (try dsimp only); (try rw [hr_μ16]); omega⟩
  · intro c10
    rw [ti_eq] at c10
    have g22 := rg_0_1 hI_μ8
    have f23 : (μ8.1 0 1).toInt = (μ1.1 0 1).toInt := congrArg Int32.toInt (((by rw [e_μ8]; rfl : μ8.1 0 1 = μ4.1 0 1)).trans (hC_μ4.1 0 1 (by decide +kernel)))
    exact ok_some ⟨hI_μ8, hF_μ8, by (try dsimp only); (try rw [hr_μ8]); omega⟩

set_option maxHeartbeats 4000000 in
set_option maxRecDepth 100000 in
theorem k_X4_readValues_b30 {n7 : Nat} (K7 : Nat → Int32 → Int32 → Mem → Option Mem) (hK7 : ∀ (z1 : Nat) (w1 : sh 0 z1 = (0, 1)) (z2 : Int32) (z3 : Int32) (μ1 : Mem), IX μ1 → (0 ≤ (z3).toInt ∧ 2147483648 - (z3).toInt < n7) → ok (K7 z1 z2 z3 μ1) (fun q => IX q ∧ Fr [(0, 16, 2), (0, 16, 3), (2, 1, 2), (2, 1, 3)] true μ1 q)) (a1 : Nat) (q1 : sh 0 a1 = (0, 1)) (a2 : Int32) (a3 : Int32) (μ : Mem) (hI_μ : IX μ) (hc : 0 ≤ (a3).toInt ∧ (a3).toInt < 2147483647 ∧ 2147483648 - (a3).toInt < n7 + 1) : ok (p_X4_readValues_b30 K7 a1 a2 a3 μ) (fun q => IX q ∧ Fr [(0, 16, 2), (0, 16, 3), (2, 1, 2), (2, 1, 3)] true μ q) := by
  have li0 : (0 : Int32).toInt = 0 := by decide
  have li1 : (1 : Int32).toInt = 1 := by decide
  have hF_μ : Fr [(0, 16, 2), (0, 16, 3), (2, 1, 2), (2, 1, 3)] true μ μ := Fr.rf
  have hr_μ : μ.2.2 = μ.2.2 := rfl
  rw [p_X4_readValues_b30_eq]
  have lo_a2 := ti_lo a2
  have hi_a2 := ti_hi a2
  have lo_a3 := ti_lo a3
  have hi_a3 := ti_hi a3
  refine ok_bw (kr_X4_readPart 50 a1 q1 (0 : Int32) (0 : Int32) μ hI_μ (by omega)) ?_
  rintro μ12 ⟨hI_μ12, hC_μ12⟩
  have hF_μ12 : Fr [(0, 16, 2), (0, 16, 3), (2, 1, 2), (2, 1, 3)] true μ μ12 := hF_μ.trans (hC_μ12.mono (by decide +kernel) (by decide))
  have hr_μ12 : μ12.2.2 = μ.2.2 := (hC_μ12.2 rfl : μ12.2.2 = μ.2.2).trans hr_μ
  try rw [hr_μ12]
  refine ok_bv (fun v14 ev14 => ?_)
  first | have tv14 : v14.toInt = (a3.toInt + 1) := (congrArg Int32.toInt ev14).trans (TI.e (n := (a3.toInt + 1)) (TI.add TI.rf (TI.lit (by decide)) (by omega) (by omega))) | have tv14 : v14.toInt ≤ a3.toInt + 1 := by rw [ev14]; exact ti_inc _ | skip
  exact ok_mono (hK7 a1 q1 a2 v14 μ12 hI_μ12 (by (try rw [hr_μ12]); omega)) (fun q h => ⟨h.1, hF_μ12.trans h.2⟩)
set_option maxHeartbeats 4000000 in
set_option maxRecDepth 100000 in
theorem k_X4_readValues_b7 : ∀ (n : Nat) (a1 : Nat) (q1 : sh 0 a1 = (0, 1)) (a2 : Int32) (a3 : Int32) (μ : Mem), IX μ → (0 ≤ (a3).toInt ∧ 2147483648 - (a3).toInt < n) → ok (p_X4_readValues_b7 n a1 a2 a3 μ) (fun q => IX q ∧ Fr [(0, 16, 2), (0, 16, 3), (2, 1, 2), (2, 1, 3)] true μ q) := by
  have li0 : (0 : Int32).toInt = 0 := by decide
  have li1 : (1 : Int32).toInt = 1 := by decide
  have li44 : (44 : Int32).toInt = 44 := by decide
  intro n
  induction n with
  | zero => intro a1 q1 a2 a3 μ hI_μ hc; exact absurd hc (by have lo_a2 := ti_lo a2; have hi_a2 := ti_hi a2; have lo_a3 := ti_lo a3; have hi_a3 := ti_hi a3; omega)
  | succ n ih =>
    intro a1 q1 a2 a3 μ hI_μ hc
    have hF_μ : Fr [(0, 16, 2), (0, 16, 3), (2, 1, 2), (2, 1, 3)] true μ μ := Fr.rf
    have hr_μ : μ.2.2 = μ.2.2 := rfl
    rw [p_X4_readValues_b7_s]
    have lo_a2 := ti_lo a2
    have hi_a2 := ti_hi a2
    have lo_a3 := ti_lo a3
    have hi_a3 := ti_hi a3
    refine ok_ite ?_ ?_
    · intro c3
      rw [ti_le] at c3
      refine ok_bw (k_X4_takeEnd  μ hI_μ) ?_
      rintro μ4 ⟨hI_μ4, hC_μ4⟩
      have hF_μ4 : Fr [(0, 16, 2), (0, 16, 3), (2, 1, 2), (2, 1, 3)] true μ μ4 := hF_μ.trans (hC_μ4.mono (by decide +kernel) (by decide))
      have hr_μ4 : μ4.2.2 = μ.2.2 := (hC_μ4.2 rfl : μ4.2.2 = μ.2.2).trans hr_μ
      try rw [hr_μ4]
      exact ok_some ⟨hI_μ4, hF_μ4⟩
    · intro c3
      rw [ti_le] at c3
      refine ok_bd (k_X4_isWell  μ hI_μ) ?_
      rintro r7 μ6 ⟨hq9, p_r7⟩
      obtain rfl : μ = μ6 := hq9
      dsimp only at p_r7
      have lo_r7 := ti_lo r7
      have hi_r7 := ti_hi r7
      refine ok_ite ?_ ?_
      · intro c8
        rw [ti_eq] at c8
        refine ok_bw (k_X4_takeEnd  μ hI_μ) ?_
        rintro μ9 ⟨hI_μ9, hC_μ9⟩
        have hF_μ9 : Fr [(0, 16, 2), (0, 16, 3), (2, 1, 2), (2, 1, 3)] true μ μ9 := hF_μ.trans (hC_μ9.mono (by decide +kernel) (by decide))
        have hr_μ9 : μ9.2.2 = μ.2.2 := (hC_μ9.2 rfl : μ9.2.2 = μ.2.2).trans hr_μ
        try rw [hr_μ9]
        exact ok_some ⟨hI_μ9, hF_μ9⟩
      · intro c8
        rw [ti_eq] at c8
        refine ok_ite ?_ ?_
        · intro c11
          rw [ti_le] at c11
          exact ok_mono (k_X4_readValues_b30 _ ih a1 q1 a2 a3 μ hI_μ (by omega)) (fun q h => ⟨h.1, hF_μ.trans h.2⟩)
        · intro c11
          rw [ti_le] at c11
          refine ok_bd (k_X4_take (44 : Int32) μ hI_μ) ?_
          rintro r16 μ15 ⟨hI_μ15, hC_μ15, p_μ15⟩
          have hI_μ15 : IX μ15 := hI_μ15
          have hC_μ15 : Fr [(0, 16, 2), (0, 16, 3)] true μ μ15 := hC_μ15
          dsimp only at p_μ15
          have lo_r16 := ti_lo r16
          have hi_r16 := ti_hi r16
          have hF_μ15 : Fr [(0, 16, 2), (0, 16, 3), (2, 1, 2), (2, 1, 3)] true μ μ15 := hF_μ.trans (hC_μ15.mono (by decide +kernel) (by decide))
          have hr_μ15 : μ15.2.2 = μ.2.2 := (hC_μ15.2 rfl : μ15.2.2 = μ.2.2).trans hr_μ
          try rw [hr_μ15]
          exact ok_mono (k_X4_readValues_b30 _ ih a1 q1 a2 a3 μ15 hI_μ15 (by (try rw [hr_μ15]); omega)) (fun q h => ⟨h.1, hF_μ15.trans h.2⟩)
set_option maxHeartbeats 4000000 in
set_option maxRecDepth 100000 in
theorem k_X4_readValues (a1 : Nat) (q1 : sh 0 a1 = (0, 1)) (a2 : Int32) (μ : Mem) (hI_μ : IX μ) : ok (p_X4_readValues a1 a2 μ) (fun q => IX q ∧ Fr [(0, 16, 2), (0, 16, 3), (2, 1, 2), (2, 1, 3)] true μ q) := by
  have li0 : (0 : Int32).toInt = 0 := by decide
  have li1 : (1 : Int32).toInt = 1 := by decide
  have hF_μ : Fr [(0, 16, 2), (0, 16, 3), (2, 1, 2), (2, 1, 3)] true μ μ := Fr.rf
  have hr_μ : μ.2.2 = μ.2.2 := rfl
  rw [p_X4_readValues_eq]
  have lo_a2 := ti_lo a2
  have hi_a2 := ti_hi a2
  refine ok_bw (k_X2_begin a1 q1 (0 : Int32) μ hI_μ) ?_
  rintro μ1 ⟨hI_μ1, hC_μ1⟩
  have hF_μ1 : Fr [(0, 16, 2), (0, 16, 3), (2, 1, 2), (2, 1, 3)] true μ μ1 := hF_μ.trans (hC_μ1.mono (by decide +kernel) (by decide))
  have hr_μ1 : μ1.2.2 = μ.2.2 := (hC_μ1.2 rfl : μ1.2.2 = μ.2.2).trans hr_μ
  try rw [hr_μ1]
  obtain ⟨fu, hfu0, hfu⟩ := fuel_ex
  rw [hfu0]
  exact ok_mono (k_X4_readValues_b7  fu a1 q1 a2 (0 : Int32) μ1 hI_μ1 (by (try rw [hr_μ1]); omega)) (fun q h => ⟨h.1, hF_μ1.trans h.2⟩)

set_option maxHeartbeats 4000000 in
set_option maxRecDepth 100000 in
theorem k_X11_values  (μ : Mem) (hI_μ : IX μ) : ok (p_X11_values  μ) (fun q => IX q.2 ∧ Fr [(0, 0, 1), (0, 0, 2), (0, 0, 10), (0, 16, 1), (0, 16, 2), (0, 16, 3), (2, 1, 2), (2, 1, 3)] false μ q.2 ∧ ((q.2.1 0 1).toInt = 0)) := by
  have lim1 : (-1 : Int32).toInt = -1 := by decide
  have li0 : (0 : Int32).toInt = 0 := by decide
  have li1 : (1 : Int32).toInt = 1 := by decide
  have hF_μ : Fr [(0, 0, 1), (0, 0, 2), (0, 0, 10), (0, 16, 1), (0, 16, 2), (0, 16, 3), (2, 1, 2), (2, 1, 3)] false μ μ := Fr.rf
  have hr_μ : μ.2.2 = μ.2.2 := rfl
  rw [p_X11_values_eq]
  refine ok_bw (k_X11_takeTape  μ hI_μ) ?_
  rintro μ1 ⟨hI_μ1, hC_μ1, p_μ1⟩
  have hF_μ1 : Fr [(0, 0, 1), (0, 0, 2), (0, 0, 10), (0, 16, 1), (0, 16, 2), (0, 16, 3), (2, 1, 2), (2, 1, 3)] false μ μ1 := hF_μ.trans (hC_μ1.mono (by decide +kernel) (by decide))
  have hr_μ1 : μ1.2.2 = μ.2.2 := (hC_μ1.2 rfl : μ1.2.2 = μ.2.2).trans hr_μ
  try rw [hr_μ1]
  have g3 := rg_0_1 hI_μ1
  refine ok_bd (k_X2_stars (sel 1 (μ.2.2 0 6)) (sel_1 _) μ1 hI_μ1) ?_
  rintro r5 μ4 hq9
  obtain rfl : μ1 = μ4 := hq9
  have lo_r5 := ti_lo r5
  have hi_r5 := ti_hi r5
  try rw [hr_μ1]
  refine ok_bw (k_X4_readValues (sel 1 (μ.2.2 0 9)) (sel_1 _) r5 μ1 hI_μ1) ?_
  rintro μ6 ⟨hI_μ6, hC_μ6⟩
  have hF_μ6 : Fr [(0, 0, 1), (0, 0, 2), (0, 0, 10), (0, 16, 1), (0, 16, 2), (0, 16, 3), (2, 1, 2), (2, 1, 3)] false μ μ6 := hF_μ1.trans (hC_μ6.mono (by decide +kernel) (by decide))
  have hr_μ6 : μ6.2.2 = μ.2.2 := (hC_μ6.2 rfl : μ6.2.2 = μ1.2.2).trans hr_μ1
  try rw [hr_μ6]
  refine ok_bd (k_X4_badPlace  μ6 hI_μ6) ?_
  rintro r9 μ8 hq9
  obtain rfl : μ6 = μ8 := hq9
  have lo_r9 := ti_lo r9
  have hi_r9 := ti_hi r9
  try rw [hr_μ6]
  refine ok_bv (fun μ10 e_μ10 => ?_)
  have hI_μ10 : IX μ10 := by rw [e_μ10]; exact IX_F hI_μ6 (rt_0_2 _)
  have hF_μ10 : Fr [(0, 0, 1), (0, 0, 2), (0, 0, 10), (0, 16, 1), (0, 16, 2), (0, 16, 3), (2, 1, 2), (2, 1, 3)] false μ μ10 := by rw [e_μ10]; exact Fr.put hF_μ6 (by decide +kernel)
  have v_μ10 : (μ10.1 0 2).toInt = r9.toInt := by rw [e_μ10, sF_v]
  have hr_μ10 : μ10.2.2 = μ.2.2 := (by rw [e_μ10]; rfl : μ10.2.2 = μ6.2.2).trans hr_μ6
  try rw [hr_μ10]
  have g11 := ti_lo (μ10.1 0 2)
  have g11h := ti_hi (μ10.1 0 2)
  refine ok_ite ?_ ?_
  · intro c12
    rw [ti_eq] at c12
    refine ok_bv (fun μ13 e_μ13 => ?_)
    have hI_μ13 : IX μ13 := by rw [e_μ13]; exact IX_R hI_μ10
    have hF_μ13 : Fr [(0, 0, 1), (0, 0, 2), (0, 0, 10), (0, 16, 1), (0, 16, 2), (0, 16, 3), (2, 1, 2), (2, 1, 3)] false μ μ13 := by rw [e_μ13]; exact ⟨hF_μ10.1, fun h9 => absurd h9 (by decide)⟩
    have hr_μ13 : μ13.2.2 = μ13.2.2 := rfl
    refine ok_bv (fun μ14 e_μ14 => ?_)
    have hI_μ14 : IX μ14 := by rw [e_μ14]; exact IX_R hI_μ13
    have hF_μ14 : Fr [(0, 0, 1), (0, 0, 2), (0, 0, 10), (0, 16, 1), (0, 16, 2), (0, 16, 3), (2, 1, 2), (2, 1, 3)] false μ μ14 := by rw [e_μ14]; exact ⟨hF_μ13.1, fun h9 => absurd h9 (by decide)⟩
    have hr_μ14 : μ14.2.2 = μ14.2.2 := rfl
    refine ok_bv (fun μ15 e_μ15 => ?_)
    have hI_μ15 : IX μ15 := by rw [e_μ15]; exact IX_F hI_μ14 (rt_0_10 _)
    have hF_μ15 : Fr [(0, 0, 1), (0, 0, 2), (0, 0, 10), (0, 16, 1), (0, 16, 2), (0, 16, 3), (2, 1, 2), (2, 1, 3)] false μ μ15 := by rw [e_μ15]; exact Fr.put hF_μ14 (by decide +kernel)
    have v_μ15 : (μ15.1 0 10).toInt = 1 := by rw [e_μ15, sF_v]; exact TI.e (n := 1) (TI.lit (by decide))
    have hr_μ15 : μ15.2.2 = μ14.2.2 := (by rw [e_μ15]; rfl : μ15.2.2 = μ14.2.2).trans hr_μ14
    try rw [hr_μ15]
    have g16 := rg_0_1 hI_μ15
    have f17 : (μ15.1 0 1).toInt = (μ1.1 0 1).toInt := congrArg Int32.toInt (((by rw [e_μ15]; rfl : μ15.1 0 1 = μ14.1 0 1)).trans (((by rw [e_μ14]; rfl : μ14.1 0 1 = μ13.1 0 1)).trans (((by rw [e_μ13]; rfl : μ13.1 0 1 = μ10.1 0 1)).trans (((by rw [e_μ10]; rfl : μ10.1 0 1 = μ6.1 0 1)).trans (hC_μ6.1 0 1 (by decide +kernel))))))
    exact ok_some ⟨hI_μ15, hF_μ15, by (try dsimp only); (try rw [hr_μ15]); omega⟩
  · intro c12
    rw [ti_eq] at c12
    have g18 := rg_0_1 hI_μ10
    have f19 : (μ10.1 0 1).toInt = (μ1.1 0 1).toInt := congrArg Int32.toInt (((by rw [e_μ10]; rfl : μ10.1 0 1 = μ6.1 0 1)).trans (hC_μ6.1 0 1 (by decide +kernel)))
    exact ok_some ⟨hI_μ10, hF_μ10, by (try dsimp only); (try rw [hr_μ10]); omega⟩

set_option maxHeartbeats 4000000 in
set_option maxRecDepth 100000 in
theorem k_X11_fault  (μ : Mem) (hI_μ : IX μ) : ok (p_X11_fault  μ) (fun q => μ = q.2) := by
  have li0 : (0 : Int32).toInt = 0 := by decide
  have li1 : (1 : Int32).toInt = 1 := by decide
  have hF_μ : Fr [] true μ μ := Fr.rf
  have hr_μ : μ.2.2 = μ.2.2 := rfl
  rw [p_X11_fault_eq]
  have g1 := ti_lo (μ.1 0 2)
  have g1h := ti_hi (μ.1 0 2)
  exact ok_some rfl

set_option maxHeartbeats 4000000 in
set_option maxRecDepth 100000 in
theorem k_X10_setLimit_b46 (a1 : Int32) (a2 : Int32) (μ : Mem) (hI_μ : IX μ) : ok (p_X10_setLimit_b46 a1 a2 μ) (fun q => IX q.2 ∧ Fr [(0, 137, 0), (0, 137, 1), (0, 137, 2)] true μ q.2 ∧ ((q.1).toInt = 0 ∨ (q.1).toInt = 1)) := by
  have li0 : (0 : Int32).toInt = 0 := by decide
  have li1 : (1 : Int32).toInt = 1 := by decide
  have li2 : (2 : Int32).toInt = 2 := by decide
  have li10 : (10 : Int32).toInt = 10 := by decide
  have li300 : (300 : Int32).toInt = 300 := by decide
  have hF_μ : Fr [(0, 137, 0), (0, 137, 1), (0, 137, 2)] true μ μ := Fr.rf
  have hr_μ : μ.2.2 = μ.2.2 := rfl
  rw [p_X10_setLimit_b46_eq]
  have lo_a1 := ti_lo a1
  have hi_a1 := ti_hi a1
  have lo_a2 := ti_lo a2
  have hi_a2 := ti_hi a2
  refine ok_ite ?_ ?_
  · intro c5
    rw [ti_eq] at c5
    refine ok_ite ?_ ?_
    · intro c6
      rw [ti_lt] at c6
      exact ok_some ⟨hI_μ, hF_μ, by (try dsimp only); omega⟩
    · intro c6
      rw [ti_lt] at c6
      refine ok_ite ?_ ?_
      · intro c7
        rw [ti_lt] at c7
        exact ok_some ⟨hI_μ, hF_μ, by (try dsimp only); omega⟩
      · intro c7
        rw [ti_lt] at c7
        refine ok_bv (fun μ8 e_μ8 => ?_)
        have hI_μ8 : IX μ8 := by rw [e_μ8]; exact IX_F hI_μ (rt_137_2 _)
        have hF_μ8 : Fr [(0, 137, 0), (0, 137, 1), (0, 137, 2)] true μ μ8 := by rw [e_μ8]; exact Fr.put hF_μ (by decide +kernel)
        have v_μ8 : (μ8.1 137 2).toInt = a2.toInt := by rw [e_μ8, sF_v]
        have hr_μ8 : μ8.2.2 = μ.2.2 := (by rw [e_μ8]; rfl : μ8.2.2 = μ.2.2).trans hr_μ
        try rw [hr_μ8]
        exact ok_some ⟨hI_μ8, hF_μ8, by (try dsimp only); (try rw [hr_μ8]); omega⟩
  · intro c5
    rw [ti_eq] at c5
    exact ok_some ⟨hI_μ, hF_μ, by (try dsimp only); omega⟩
set_option maxHeartbeats 4000000 in
set_option maxRecDepth 100000 in
theorem k_X10_setLimit_b22 (a1 : Int32) (a2 : Int32) (μ : Mem) (hI_μ : IX μ) : ok (p_X10_setLimit_b22 a1 a2 μ) (fun q => IX q.2 ∧ Fr [(0, 137, 0), (0, 137, 1), (0, 137, 2)] true μ q.2 ∧ ((q.1).toInt = 0 ∨ (q.1).toInt = 1)) := by
  have li0 : (0 : Int32).toInt = 0 := by decide
  have li1 : (1 : Int32).toInt = 1 := by decide
  have li6 : (6 : Int32).toInt = 6 := by decide
  have hF_μ : Fr [(0, 137, 0), (0, 137, 1), (0, 137, 2)] true μ μ := Fr.rf
  have hr_μ : μ.2.2 = μ.2.2 := rfl
  rw [p_X10_setLimit_b22_eq]
  have lo_a1 := ti_lo a1
  have hi_a1 := ti_hi a1
  have lo_a2 := ti_lo a2
  have hi_a2 := ti_hi a2
  refine ok_ite ?_ ?_
  · intro c3
    rw [ti_eq] at c3
    refine ok_ite ?_ ?_
    · intro c4
      rw [ti_lt] at c4
      exact ok_mono (k_X10_setLimit_b46  a1 a2 μ hI_μ) (fun q h => ⟨h.1, hF_μ.trans h.2.1, h.2.2⟩)
    · intro c4
      rw [ti_lt] at c4
      refine ok_ite ?_ ?_
      · intro c9
        rw [ti_lt] at c9
        exact ok_mono (k_X10_setLimit_b46  a1 a2 μ hI_μ) (fun q h => ⟨h.1, hF_μ.trans h.2.1, h.2.2⟩)
      · intro c9
        rw [ti_lt] at c9
        refine ok_bv (fun μ10 e_μ10 => ?_)
        have hI_μ10 : IX μ10 := by rw [e_μ10]; exact IX_F hI_μ (rt_137_1 _)
        have hF_μ10 : Fr [(0, 137, 0), (0, 137, 1), (0, 137, 2)] true μ μ10 := by rw [e_μ10]; exact Fr.put hF_μ (by decide +kernel)
        have v_μ10 : (μ10.1 137 1).toInt = a2.toInt := by rw [e_μ10, sF_v]
        have hr_μ10 : μ10.2.2 = μ.2.2 := (by rw [e_μ10]; rfl : μ10.2.2 = μ.2.2).trans hr_μ
        try rw [hr_μ10]
        exact ok_some ⟨hI_μ10, hF_μ10, by (try dsimp only); (try rw [hr_μ10]); omega⟩
  · intro c3
    rw [ti_eq] at c3
    exact ok_mono (k_X10_setLimit_b46  a1 a2 μ hI_μ) (fun q h => ⟨h.1, hF_μ.trans h.2.1, h.2.2⟩)
set_option maxHeartbeats 4000000 in
set_option maxRecDepth 100000 in
theorem k_X10_setLimit (a1 : Int32) (a2 : Int32) (μ : Mem) (hI_μ : IX μ) : ok (p_X10_setLimit a1 a2 μ) (fun q => IX q.2 ∧ Fr [(0, 137, 0), (0, 137, 1), (0, 137, 2)] true μ q.2 ∧ ((q.1).toInt = 0 ∨ (q.1).toInt = 1)) := by
  have li0 : (0 : Int32).toInt = 0 := by decide
  have li1 : (1 : Int32).toInt = 1 := by decide
  have li12 : (12 : Int32).toInt = 12 := by decide
  have hF_μ : Fr [(0, 137, 0), (0, 137, 1), (0, 137, 2)] true μ μ := Fr.rf
  have hr_μ : μ.2.2 = μ.2.2 := rfl
  rw [p_X10_setLimit_eq]
  have lo_a1 := ti_lo a1
  have hi_a1 := ti_hi a1
  have lo_a2 := ti_lo a2
  have hi_a2 := ti_hi a2
  refine ok_ite ?_ ?_
  · intro c1
    rw [ti_eq] at c1
    refine ok_ite ?_ ?_
    · intro c2
      rw [ti_lt] at c2
      exact ok_mono (k_X10_setLimit_b22  a1 a2 μ hI_μ) (fun q h => ⟨h.1, hF_μ.trans h.2.1, h.2.2⟩)
    · intro c2
      rw [ti_lt] at c2
      refine ok_ite ?_ ?_
      · intro c11
        rw [ti_lt] at c11
        exact ok_mono (k_X10_setLimit_b22  a1 a2 μ hI_μ) (fun q h => ⟨h.1, hF_μ.trans h.2.1, h.2.2⟩)
      · intro c11
        rw [ti_lt] at c11
        refine ok_bv (fun μ12 e_μ12 => ?_)
        have hI_μ12 : IX μ12 := by rw [e_μ12]; exact IX_F hI_μ (rt_137_0 _)
        have hF_μ12 : Fr [(0, 137, 0), (0, 137, 1), (0, 137, 2)] true μ μ12 := by rw [e_μ12]; exact Fr.put hF_μ (by decide +kernel)
        have v_μ12 : (μ12.1 137 0).toInt = a2.toInt := by rw [e_μ12, sF_v]
        have hr_μ12 : μ12.2.2 = μ.2.2 := (by rw [e_μ12]; rfl : μ12.2.2 = μ.2.2).trans hr_μ
        try rw [hr_μ12]
        exact ok_some ⟨hI_μ12, hF_μ12, by (try dsimp only); (try rw [hr_μ12]); omega⟩
  · intro c1
    rw [ti_eq] at c1
    exact ok_mono (k_X10_setLimit_b22  a1 a2 μ hI_μ) (fun q h => ⟨h.1, hF_μ.trans h.2.1, h.2.2⟩)

set_option maxHeartbeats 4000000 in
set_option maxRecDepth 100000 in
theorem k_X11_set (a1 : Int32) (a2 : Int32) (μ : Mem) (hI_μ : IX μ) : ok (p_X11_set a1 a2 μ) (fun q => IX q.2 ∧ Fr [(0, 39, 0), (0, 39, 1), (0, 39, 2), (0, 39, 3), (0, 39, 4), (0, 39, 5), (0, 39, 6), (0, 137, 0), (0, 137, 1), (0, 137, 2)] true μ q.2 ∧ ((q.1).toInt = 0 ∨ (q.1).toInt = 1)) := by
  have li0 : (0 : Int32).toInt = 0 := by decide
  have li1 : (1 : Int32).toInt = 1 := by decide
  have hF_μ : Fr [(0, 39, 0), (0, 39, 1), (0, 39, 2), (0, 39, 3), (0, 39, 4), (0, 39, 5), (0, 39, 6), (0, 137, 0), (0, 137, 1), (0, 137, 2)] true μ μ := Fr.rf
  have hr_μ : μ.2.2 = μ.2.2 := rfl
  rw [p_X11_set_eq]
  have lo_a1 := ti_lo a1
  have hi_a1 := ti_hi a1
  have lo_a2 := ti_lo a2
  have hi_a2 := ti_hi a2
  refine ok_bd (k_X10_setLimit a1 a2 μ hI_μ) ?_
  rintro r2 μ1 ⟨hI_μ1, hC_μ1, p_μ1⟩
  have hI_μ1 : IX μ1 := hI_μ1
  have hC_μ1 : Fr [(0, 137, 0), (0, 137, 1), (0, 137, 2)] true μ μ1 := hC_μ1
  dsimp only at p_μ1
  have lo_r2 := ti_lo r2
  have hi_r2 := ti_hi r2
  have hF_μ1 : Fr [(0, 39, 0), (0, 39, 1), (0, 39, 2), (0, 39, 3), (0, 39, 4), (0, 39, 5), (0, 39, 6), (0, 137, 0), (0, 137, 1), (0, 137, 2)] true μ μ1 := hF_μ.trans (hC_μ1.mono (by decide +kernel) (by decide))
  have hr_μ1 : μ1.2.2 = μ.2.2 := (hC_μ1.2 rfl : μ1.2.2 = μ.2.2).trans hr_μ
  try rw [hr_μ1]
  refine ok_ite ?_ ?_
  · intro c3
    rw [ti_eq] at c3
    exact ok_some ⟨hI_μ1, hF_μ1, by (try dsimp only); (try rw [hr_μ1]); omega⟩
  · intro c3
    rw [ti_eq] at c3
    refine ok_bw (k_X5_clear  μ1 hI_μ1) ?_
    rintro μ4 ⟨hI_μ4, hC_μ4⟩
    have hF_μ4 : Fr [(0, 39, 0), (0, 39, 1), (0, 39, 2), (0, 39, 3), (0, 39, 4), (0, 39, 5), (0, 39, 6), (0, 137, 0), (0, 137, 1), (0, 137, 2)] true μ μ4 := hF_μ1.trans (hC_μ4.mono (by decide +kernel) (by decide))
    have hr_μ4 : μ4.2.2 = μ.2.2 := (hC_μ4.2 rfl : μ4.2.2 = μ1.2.2).trans hr_μ1
    try rw [hr_μ4]
    exact ok_some ⟨hI_μ4, hF_μ4, by (try dsimp only); (try rw [hr_μ4]); omega⟩

set_option maxHeartbeats 4000000 in
set_option maxRecDepth 100000 in
theorem k_X11_is (a1 : Int32) (μ : Mem) (hI_μ : IX μ) : ok (p_X11_is a1 μ) (fun q => μ = q.2) := by
  have lim1 : (-1 : Int32).toInt = -1 := by decide
  have li0 : (0 : Int32).toInt = 0 := by decide
  have li1 : (1 : Int32).toInt = 1 := by decide
  have li2 : (2 : Int32).toInt = 2 := by decide
  have li3 : (3 : Int32).toInt = 3 := by decide
  have li4 : (4 : Int32).toInt = 4 := by decide
  have li5 : (5 : Int32).toInt = 5 := by decide
  have li6 : (6 : Int32).toInt = 6 := by decide
  have li7 : (7 : Int32).toInt = 7 := by decide
  have hF_μ : Fr [] true μ μ := Fr.rf
  have hr_μ : μ.2.2 = μ.2.2 := rfl
  rw [p_X11_is_eq]
  have lo_a1 := ti_lo a1
  have hi_a1 := ti_hi a1
  refine ok_ite ?_ ?_
  · intro c2
    rw [ti_eq] at c2
    have g3 := rgc_2_0 (sel_2 (μ.2.2 0 4)) hI_μ
    exact ok_some rfl
  intro c2
  rw [ti_eq] at c2
  refine ok_ite ?_ ?_
  · intro c4
    rw [ti_eq] at c4
    refine ok_bd (k_X2_stars (sel 1 (μ.2.2 0 6)) (sel_1 _) μ hI_μ) ?_
    rintro r6 μ5 hq9
    obtain rfl : μ = μ5 := hq9
    have lo_r6 := ti_lo r6
    have hi_r6 := ti_hi r6
    exact ok_some rfl
  intro c4
  rw [ti_eq] at c4
  refine ok_ite ?_ ?_
  · intro c7
    rw [ti_eq] at c7
    have g8 := ti_lo (μ.1 0 10)
    have g8h := ti_hi (μ.1 0 10)
    refine ok_ite ?_ ?_
    · intro c9
      rw [ti_eq] at c9
      exact ok_some rfl
    · intro c9
      rw [ti_eq] at c9
      refine ok_bd (k_X2_stars (sel 1 (μ.2.2 0 6)) (sel_1 _) μ hI_μ) ?_
      rintro r11 μ10 hq9
      obtain rfl : μ = μ10 := hq9
      have lo_r11 := ti_lo r11
      have hi_r11 := ti_hi r11
      exact ok_some rfl
  intro c7
  rw [ti_eq] at c7
  refine ok_ite ?_ ?_
  · intro c12
    rw [ti_eq] at c12
    have g13 := ti_lo (μ.1 137 0)
    have g13h := ti_hi (μ.1 137 0)
    exact ok_some rfl
  intro c12
  rw [ti_eq] at c12
  refine ok_ite ?_ ?_
  · intro c14
    rw [ti_eq] at c14
    have g15 := ti_lo (μ.1 137 1)
    have g15h := ti_hi (μ.1 137 1)
    exact ok_some rfl
  intro c14
  rw [ti_eq] at c14
  refine ok_ite ?_ ?_
  · intro c16
    rw [ti_eq] at c16
    have g17 := ti_lo (μ.1 137 2)
    have g17h := ti_hi (μ.1 137 2)
    exact ok_some rfl
  intro c16
  rw [ti_eq] at c16
  refine ok_ite ?_ ?_
  · intro c18
    rw [ti_eq] at c18
    have g19 := rg_0_1 hI_μ
    exact ok_some rfl
  intro c18
  rw [ti_eq] at c18
  refine ok_ite ?_ ?_
  · intro c20
    rw [ti_eq] at c20
    have g21 := ti_lo (μ.1 (sel 2 (μ.2.2 0 4)) 1)
    have g21h := ti_hi (μ.1 (sel 2 (μ.2.2 0 4)) 1)
    exact ok_some rfl
  intro c20
  rw [ti_eq] at c20
  exact ok_some rfl

set_option maxHeartbeats 4000000 in
set_option maxRecDepth 100000 in
theorem k_X3_about (a0 : Nat) (q0 : sh 0 a0 = (0, 2)) (a1 : Int32) (a2 : Int32) (μ : Mem) (hI_μ : IX μ) : ok (p_X3_about a0 a1 a2 μ) (fun q => μ = q.2) := by
  have lim1 : (-1 : Int32).toInt = -1 := by decide
  have li0 : (0 : Int32).toInt = 0 := by decide
  have li1 : (1 : Int32).toInt = 1 := by decide
  have li6 : (6 : Int32).toInt = 6 := by decide
  have hF_μ : Fr [] true μ μ := Fr.rf
  have hr_μ : μ.2.2 = μ.2.2 := rfl
  rw [p_X3_about_eq]
  have lo_a1 := ti_lo a1
  have hi_a1 := ti_hi a1
  have lo_a2 := ti_lo a2
  have hi_a2 := ti_hi a2
  refine ok_ite ?_ ?_
  · intro c1
    rw [ti_lt] at c1
    exact ok_some rfl
  · intro c1
    rw [ti_lt] at c1
    have g2 := rgc_2_0 q0 hI_μ
    refine ok_ite ?_ ?_
    · intro c3
      rw [ti_le] at c3
      exact ok_some rfl
    · intro c3
      rw [ti_le] at c3
      refine ok_ite ?_ ?_
      · intro c4
        rw [ti_lt] at c4
        exact ok_some rfl
      · intro c4
        rw [ti_lt] at c4
        refine ok_ite ?_ ?_
        · intro c5
          rw [ti_lt] at c5
          refine ok_gd (inb_iff.mpr (by (try rw [TI.e (e := ((a1 * (6 : Int32)) + a2)) (n := ((a1.toInt * 6) + a2.toInt)) (TI.add (TI.mul TI.rf (TI.lit (by decide)) (by omega) (by omega)) TI.rf (by omega) (by omega))]); omega)) ?_
          exact ok_some rfl
        · intro c5
          rw [ti_lt] at c5
          exact ok_some rfl

set_option maxHeartbeats 4000000 in
set_option maxRecDepth 100000 in
theorem k_X11_function (a1 : Int32) (a2 : Int32) (μ : Mem) (hI_μ : IX μ) : ok (p_X11_function a1 a2 μ) (fun q => μ = q.2) := by
  have li0 : (0 : Int32).toInt = 0 := by decide
  have li1 : (1 : Int32).toInt = 1 := by decide
  have hF_μ : Fr [] true μ μ := Fr.rf
  have hr_μ : μ.2.2 = μ.2.2 := rfl
  rw [p_X11_function_eq]
  have lo_a1 := ti_lo a1
  have hi_a1 := ti_hi a1
  have lo_a2 := ti_lo a2
  have hi_a2 := ti_hi a2
  refine ok_bd (k_X3_about (sel 2 (μ.2.2 0 4)) (sel_2 _) a1 a2 μ hI_μ) ?_
  rintro r2 μ1 hq9
  obtain rfl : μ = μ1 := hq9
  have lo_r2 := ti_lo r2
  have hi_r2 := ti_hi r2
  exact ok_some rfl

set_option maxHeartbeats 4000000 in
set_option maxRecDepth 100000 in
theorem k_X2_addParts_b3 : ∀ (n : Nat) (a0 : Nat) (q0 : sh 0 a0 = (0, 1)) (a1 : Nat) (q1 : sh 0 a1 = (0, 1)) (a3 : Int32) (a4 : Int32) (μ : Mem), IX μ → (0 ≤ (a4).toInt ∧ 2147483648 - (a4).toInt < n) → ok (p_X2_addParts_b3 n a0 a1 a3 a4 μ) (fun q => IX q ∧ Fr [(2, 1, 2)] true μ q) := by
  have li0 : (0 : Int32).toInt = 0 := by decide
  have li1 : (1 : Int32).toInt = 1 := by decide
  intro n
  induction n with
  | zero => intro a0 q0 a1 q1 a3 a4 μ hI_μ hc; exact absurd hc (by have lo_a3 := ti_lo a3; have hi_a3 := ti_hi a3; have lo_a4 := ti_lo a4; have hi_a4 := ti_hi a4; omega)
  | succ n ih =>
    intro a0 q0 a1 q1 a3 a4 μ hI_μ hc
    have hF_μ : Fr [(2, 1, 2)] true μ μ := Fr.rf
    have hr_μ : μ.2.2 = μ.2.2 := rfl
    rw [p_X2_addParts_b3_s]
    have lo_a3 := ti_lo a3
    have hi_a3 := ti_hi a3
    have lo_a4 := ti_lo a4
    have hi_a4 := ti_hi a4
    refine ok_ite ?_ ?_
    · intro c1
      rw [ti_le] at c1
      exact ok_some ⟨hI_μ, hF_μ⟩
    · intro c1
      rw [ti_le] at c1
      have g2 := rgp q1 hI_μ
      refine ok_ite ?_ ?_
      · intro c3
        rw [ti_le] at c3
        exact ok_some ⟨hI_μ, hF_μ⟩
      · intro c3
        rw [ti_le] at c3
        refine ok_gd (inb_iff.mpr (by omega)) ?_
        have l4 := pl_eq q1
        refine ok_gd (inb_iff.mpr (by omega)) ?_
        refine ok_bw (k_X2_add a0 q0 (μ.2.1 (a1 + 1) a4.toNatClampNeg) (μ.2.1 (a1 + 2) a4.toNatClampNeg) μ hI_μ) ?_
        rintro μ5 ⟨hI_μ5, hC_μ5⟩
        have hF_μ5 : Fr [(2, 1, 2)] true μ μ5 := hF_μ.trans (hC_μ5.mono (by decide +kernel) (by decide))
        have hr_μ5 : μ5.2.2 = μ.2.2 := (hC_μ5.2 rfl : μ5.2.2 = μ.2.2).trans hr_μ
        refine ok_bv (fun v7 ev7 => ?_)
        first | have tv7 : v7.toInt = (a4.toInt + 1) := (congrArg Int32.toInt ev7).trans (TI.e (n := (a4.toInt + 1)) (TI.add TI.rf (TI.lit (by decide)) (by omega) (by omega))) | have tv7 : v7.toInt ≤ a4.toInt + 1 := by rw [ev7]; exact ti_inc _ | skip
        exact ok_mono (ih a0 q0 a1 q1 a3 v7 μ5 hI_μ5 (by (try rw [hr_μ5]); omega)) (fun q h => ⟨h.1, hF_μ5.trans h.2⟩)
set_option maxHeartbeats 4000000 in
set_option maxRecDepth 100000 in
theorem k_X2_addParts (a0 : Nat) (q0 : sh 0 a0 = (0, 1)) (a1 : Nat) (q1 : sh 0 a1 = (0, 1)) (a2 : Int32) (a3 : Int32) (μ : Mem) (hI_μ : IX μ) (hc : 0 ≤ (a2).toInt) : ok (p_X2_addParts a0 a1 a2 a3 μ) (fun q => IX q ∧ Fr [(2, 1, 2)] true μ q) := by
  have li0 : (0 : Int32).toInt = 0 := by decide
  have li1 : (1 : Int32).toInt = 1 := by decide
  have hF_μ : Fr [(2, 1, 2)] true μ μ := Fr.rf
  have hr_μ : μ.2.2 = μ.2.2 := rfl
  rw [p_X2_addParts_eq]
  have lo_a2 := ti_lo a2
  have hi_a2 := ti_hi a2
  have lo_a3 := ti_lo a3
  have hi_a3 := ti_hi a3
  obtain ⟨fu, hfu0, hfu⟩ := fuel_ex
  rw [hfu0]
  exact ok_mono (k_X2_addParts_b3  fu a0 q0 a1 q1 a3 a2 μ hI_μ (by omega)) (fun q h => ⟨h.1, hF_μ.trans h.2⟩)

set_option maxHeartbeats 4000000 in
set_option maxRecDepth 100000 in
theorem k_X2_copyFrom (a0 : Nat) (q0 : sh 0 a0 = (0, 1)) (a1 : Nat) (q1 : sh 0 a1 = (0, 1)) (μ : Mem) (hI_μ : IX μ) : ok (p_X2_copyFrom a0 a1 μ) (fun q => IX q ∧ Fr [(2, 1, 2), (2, 1, 3)] true μ q) := by
  have li0 : (0 : Int32).toInt = 0 := by decide
  have li1 : (1 : Int32).toInt = 1 := by decide
  have hF_μ : Fr [(2, 1, 2), (2, 1, 3)] true μ μ := Fr.rf
  have hr_μ : μ.2.2 = μ.2.2 := rfl
  rw [p_X2_copyFrom_eq]
  have g1 := ti_lo (μ.1 a1 3)
  have g1h := ti_hi (μ.1 a1 3)
  refine ok_bw (k_X2_begin a0 q0 (μ.1 a1 3) μ hI_μ) ?_
  rintro μ2 ⟨hI_μ2, hC_μ2⟩
  have hF_μ2 : Fr [(2, 1, 2), (2, 1, 3)] true μ μ2 := hF_μ.trans (hC_μ2.mono (by decide +kernel) (by decide))
  have hr_μ2 : μ2.2.2 = μ.2.2 := (hC_μ2.2 rfl : μ2.2.2 = μ.2.2).trans hr_μ
  have g4 := rgp q1 hI_μ2
  refine ok_bw (k_X2_addParts a0 q0 a1 q1 (0 : Int32) (μ2.1 a1 2) μ2 hI_μ2 (by (try rw [hr_μ2]); omega)) ?_
  rintro μ5 ⟨hI_μ5, hC_μ5⟩
  have hF_μ5 : Fr [(2, 1, 2), (2, 1, 3)] true μ μ5 := hF_μ2.trans (hC_μ5.mono (by decide +kernel) (by decide))
  have hr_μ5 : μ5.2.2 = μ.2.2 := (hC_μ5.2 rfl : μ5.2.2 = μ2.2.2).trans hr_μ2
  exact ok_some ⟨hI_μ5, hF_μ5⟩

set_option maxHeartbeats 4000000 in
set_option maxRecDepth 100000 in
theorem k_X5_setVariant (a1 : Int32) (a2 : Int32) (a3 : Int32) (μ : Mem) (hI_μ : IX μ) (hc : 0 ≤ (a2).toInt ∧ (a2).toInt ≤ 3) : ok (p_X5_setVariant a1 a2 a3 μ) (fun q => IX q ∧ Fr [(1, 45, 0)] true μ q) := by
  have li0 : (0 : Int32).toInt = 0 := by decide
  have li1 : (1 : Int32).toInt = 1 := by decide
  have li4 : (4 : Int32).toInt = 4 := by decide
  have hF_μ : Fr [(1, 45, 0)] true μ μ := Fr.rf
  have hr_μ : μ.2.2 = μ.2.2 := rfl
  rw [p_X5_setVariant_eq]
  have lo_a1 := ti_lo a1
  have hi_a1 := ti_hi a1
  have lo_a2 := ti_lo a2
  have hi_a2 := ti_hi a2
  have lo_a3 := ti_lo a3
  have hi_a3 := ti_hi a3
  refine ok_ite ?_ ?_
  · intro c1
    rw [ti_lt] at c1
    exact ok_some ⟨hI_μ, hF_μ⟩
  · intro c1
    rw [ti_lt] at c1
    have g2 := rg_39_2 hI_μ
    refine ok_ite ?_ ?_
    · intro c3
      rw [ti_le] at c3
      exact ok_some ⟨hI_μ, hF_μ⟩
    · intro c3
      rw [ti_le] at c3
      refine ok_gd (inb_iff.mpr (by (try rw [TI.e (e := ((a1 * (4 : Int32)) + a2)) (n := ((a1.toInt * 4) + a2.toInt)) (TI.add (TI.mul TI.rf (TI.lit (by decide)) (by omega) (by omega)) TI.rf (by omega) (by omega))]); omega)) ?_
      refine ok_bv (fun μ4 e_μ4 => ?_)
      have hI_μ4 : IX μ4 := by rw [e_μ4]; exact IX_F hI_μ (rta_45 _ _)
      have hF_μ4 : Fr [(1, 45, 0)] true μ μ4 := by rw [e_μ4]; exact Fr.puta hF_μ (by decide +kernel)
      have hr_μ4 : μ4.2.2 = μ.2.2 := (by rw [e_μ4]; rfl : μ4.2.2 = μ.2.2).trans hr_μ
      exact ok_some ⟨hI_μ4, hF_μ4⟩
