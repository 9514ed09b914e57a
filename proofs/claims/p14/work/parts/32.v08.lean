set_option maxHeartbeats 4000000 in
set_option maxRecDepth 100000 in
theorem k_X10_turn_b49 (a2 : Int64) (k0 : Int32) (μ : Mem) (hI_μ : IX μ) : ok (p_X10_turn_b49 a2 k0 μ) (fun q => IX q ∧ Fr [(0, 30, 7), (0, 39, 1), (0, 137, 6), (1, 40, 0), (1, 42, 0), (1, 43, 0), (1, 45, 0)] true μ q) := by
  have li0 : (0 : Int32).toInt = 0 := by decide
  have li1 : (1 : Int32).toInt = 1 := by decide
  have hF_μ : Fr [(0, 30, 7), (0, 39, 1), (0, 137, 6), (1, 40, 0), (1, 42, 0), (1, 43, 0), (1, 45, 0)] true μ μ := Fr.rf
  have hr_μ : μ.2.2 = μ.2.2 := rfl
  rw [p_X10_turn_b49_eq]
  have lo_k0 := ti_lo k0
  have hi_k0 := ti_hi k0
  refine ok_bd (k_X10_leave k0 (0 : Int32) a2 (0 : Int64) μ hI_μ) ?_
  rintro r6 μ5 ⟨hI_μ5, hC_μ5⟩
  have hI_μ5 : IX μ5 := hI_μ5
  have hC_μ5 : Fr [(0, 39, 1), (0, 137, 6), (1, 40, 0), (1, 42, 0), (1, 43, 0), (1, 45, 0)] true μ μ5 := hC_μ5
  have hF_μ5 : Fr [(0, 30, 7), (0, 39, 1), (0, 137, 6), (1, 40, 0), (1, 42, 0), (1, 43, 0), (1, 45, 0)] true μ μ5 := hF_μ.trans (hC_μ5.mono (by decide +kernel) (by decide))
  have hr_μ5 : μ5.2.2 = μ.2.2 := (hC_μ5.2 rfl : μ5.2.2 = μ.2.2).trans hr_μ
  try rw [hr_μ5]
  refine ok_bw (k_X8_push r6 μ5 hI_μ5) ?_
  rintro μ7 ⟨hI_μ7, hC_μ7⟩
  have hF_μ7 : Fr [(0, 30, 7), (0, 39, 1), (0, 137, 6), (1, 40, 0), (1, 42, 0), (1, 43, 0), (1, 45, 0)] true μ μ7 := hF_μ5.trans (hC_μ7.mono (by decide +kernel) (by decide))
  have hr_μ7 : μ7.2.2 = μ.2.2 := (hC_μ7.2 rfl : μ7.2.2 = μ5.2.2).trans hr_μ5
  try rw [hr_μ7]
  exact ok_some ⟨hI_μ7, hF_μ7⟩
set_option maxHeartbeats 4000000 in
set_option maxRecDepth 100000 in
theorem k_X10_turn (a1 : Int32) (μ : Mem) (hI_μ : IX μ) : ok (p_X10_turn a1 μ) (fun q => IX q ∧ Fr [(0, 30, 7), (0, 39, 1), (0, 137, 6), (1, 40, 0), (1, 42, 0), (1, 43, 0), (1, 45, 0)] true μ q) := by
  have li0 : (0 : Int32).toInt = 0 := by decide
  have li1 : (1 : Int32).toInt = 1 := by decide
  have li2 : (2 : Int32).toInt = 2 := by decide
  have li3 : (3 : Int32).toInt = 3 := by decide
  have li36 : (36 : Int32).toInt = 36 := by decide
  have li94 : (94 : Int32).toInt = 94 := by decide
  have hF_μ : Fr [(0, 30, 7), (0, 39, 1), (0, 137, 6), (1, 40, 0), (1, 42, 0), (1, 43, 0), (1, 45, 0)] true μ μ := Fr.rf
  have hr_μ : μ.2.2 = μ.2.2 := rfl
  rw [p_X10_turn_eq]
  have lo_a1 := ti_lo a1
  have hi_a1 := ti_hi a1
  refine ok_bd (k_X8_popNum  μ hI_μ) ?_
  rintro r2 μ1 ⟨hI_μ1, hC_μ1⟩
  have hI_μ1 : IX μ1 := hI_μ1
  have hC_μ1 : Fr [(0, 30, 7)] true μ μ1 := hC_μ1
  have hF_μ1 : Fr [(0, 30, 7), (0, 39, 1), (0, 137, 6), (1, 40, 0), (1, 42, 0), (1, 43, 0), (1, 45, 0)] true μ μ1 := hF_μ.trans (hC_μ1.mono (by decide +kernel) (by decide))
  have hr_μ1 : μ1.2.2 = μ.2.2 := (hC_μ1.2 rfl : μ1.2.2 = μ.2.2).trans hr_μ
  try rw [hr_μ1]
  refine ok_ite ?_ ?_
  · intro c3
    rw [ti_eq] at c3
    refine ok_ite ?_ ?_
    · intro c4
      rw [ti_eq] at c4
      exact ok_mono (k_X10_turn_b49  r2 (1 : Int32) μ1 hI_μ1) (fun q h => ⟨h.1, hF_μ1.trans h.2⟩)
    · intro c4
      rw [ti_eq] at c4
      refine ok_ite ?_ ?_
      · intro c9
        rw [ti_eq] at c9
        exact ok_mono (k_X10_turn_b49  r2 (2 : Int32) μ1 hI_μ1) (fun q h => ⟨h.1, hF_μ1.trans h.2⟩)
      · intro c9
        rw [ti_eq] at c9
        exact ok_mono (k_X10_turn_b49  r2 (3 : Int32) μ1 hI_μ1) (fun q h => ⟨h.1, hF_μ1.trans h.2⟩)
  · intro c3
    rw [ti_eq] at c3
    refine ok_bw (k_X8_push (s_X0_turn a1 r2) μ1 hI_μ1) ?_
    rintro μ10 ⟨hI_μ10, hC_μ10⟩
    have hF_μ10 : Fr [(0, 30, 7), (0, 39, 1), (0, 137, 6), (1, 40, 0), (1, 42, 0), (1, 43, 0), (1, 45, 0)] true μ μ10 := hF_μ1.trans (hC_μ10.mono (by decide +kernel) (by decide))
    have hr_μ10 : μ10.2.2 = μ.2.2 := (hC_μ10.2 rfl : μ10.2.2 = μ1.2.2).trans hr_μ1
    try rw [hr_μ10]
    exact ok_some ⟨hI_μ10, hF_μ10⟩

set_option maxHeartbeats 4000000 in
set_option maxRecDepth 100000 in
theorem k_X8_secondOf (a1 : Int64) (μ : Mem) (hI_μ : IX μ) : ok (p_X8_secondOf a1 μ) (fun q => μ = q.2) := by
  have li0 : (0 : Int32).toInt = 0 := by decide
  have li1 : (1 : Int32).toInt = 1 := by decide
  have hF_μ : Fr [] true μ μ := Fr.rf
  have hr_μ : μ.2.2 = μ.2.2 := rfl
  rw [p_X8_secondOf_eq]
  have g3 := rg_30_5 hI_μ
  refine ok_bd (k_X8_isPair a1 μ hI_μ) ?_
  rintro r2 μ1 ⟨hq9, p_r2⟩
  obtain rfl : μ = μ1 := hq9
  dsimp only at p_r2
  have lo_r2 := ti_lo r2
  have hi_r2 := ti_hi r2
  refine ok_ite ?_ ?_
  · intro c4
    rw [ti_eq] at c4
    exact ok_some rfl
  · intro c4
    rw [ti_eq] at c4
    refine ok_gd (inb_iff.mpr (by (try rw [TI.e (e := (s_X0_bits a1)) (n := (a1.toInt32).toInt) (TI.bits a1)]); omega)) ?_
    exact ok_some rfl

set_option maxHeartbeats 4000000 in
set_option maxRecDepth 100000 in
theorem k_X10_takePart_b19 (a2 : Int64) (k0 : Int32) (μ : Mem) (hI_μ : IX μ) : ok (p_X10_takePart_b19 a2 k0 μ) (fun q => IX q ∧ Fr [(0, 30, 7), (0, 39, 1), (0, 137, 6), (1, 40, 0), (1, 42, 0), (1, 43, 0), (1, 45, 0)] true μ q) := by
  have li0 : (0 : Int32).toInt = 0 := by decide
  have li1 : (1 : Int32).toInt = 1 := by decide
  have li3 : (3 : Int32).toInt = 3 := by decide
  have li4 : (4 : Int32).toInt = 4 := by decide
  have li5 : (5 : Int32).toInt = 5 := by decide
  have hF_μ : Fr [(0, 30, 7), (0, 39, 1), (0, 137, 6), (1, 40, 0), (1, 42, 0), (1, 43, 0), (1, 45, 0)] true μ μ := Fr.rf
  have hr_μ : μ.2.2 = μ.2.2 := rfl
  rw [p_X10_takePart_b19_eq]
  have lo_k0 := ti_lo k0
  have hi_k0 := ti_hi k0
  refine ok_ite ?_ ?_
  · intro c4
    rw [ti_eq] at c4
    refine ok_ite ?_ ?_
    · intro c5
      rw [ti_eq] at c5
      refine ok_bd (k_X10_leave (5 : Int32) (0 : Int32) a2 (0 : Int64) μ hI_μ) ?_
      rintro r7 μ6 ⟨hI_μ6, hC_μ6⟩
      have hI_μ6 : IX μ6 := hI_μ6
      have hC_μ6 : Fr [(0, 39, 1), (0, 137, 6), (1, 40, 0), (1, 42, 0), (1, 43, 0), (1, 45, 0)] true μ μ6 := hC_μ6
      have hF_μ6 : Fr [(0, 30, 7), (0, 39, 1), (0, 137, 6), (1, 40, 0), (1, 42, 0), (1, 43, 0), (1, 45, 0)] true μ μ6 := hF_μ.trans (hC_μ6.mono (by decide +kernel) (by decide))
      have hr_μ6 : μ6.2.2 = μ.2.2 := (hC_μ6.2 rfl : μ6.2.2 = μ.2.2).trans hr_μ
      try rw [hr_μ6]
      refine ok_bw (k_X8_push r7 μ6 hI_μ6) ?_
      rintro μ8 ⟨hI_μ8, hC_μ8⟩
      have hF_μ8 : Fr [(0, 30, 7), (0, 39, 1), (0, 137, 6), (1, 40, 0), (1, 42, 0), (1, 43, 0), (1, 45, 0)] true μ μ8 := hF_μ6.trans (hC_μ8.mono (by decide +kernel) (by decide))
      have hr_μ8 : μ8.2.2 = μ.2.2 := (hC_μ8.2 rfl : μ8.2.2 = μ6.2.2).trans hr_μ6
      try rw [hr_μ8]
      exact ok_some ⟨hI_μ8, hF_μ8⟩
    · intro c5
      rw [ti_eq] at c5
      refine ok_bd (k_X10_leave (4 : Int32) (0 : Int32) a2 (0 : Int64) μ hI_μ) ?_
      rintro r11 μ10 ⟨hI_μ10, hC_μ10⟩
      have hI_μ10 : IX μ10 := hI_μ10
      have hC_μ10 : Fr [(0, 39, 1), (0, 137, 6), (1, 40, 0), (1, 42, 0), (1, 43, 0), (1, 45, 0)] true μ μ10 := hC_μ10
      have hF_μ10 : Fr [(0, 30, 7), (0, 39, 1), (0, 137, 6), (1, 40, 0), (1, 42, 0), (1, 43, 0), (1, 45, 0)] true μ μ10 := hF_μ.trans (hC_μ10.mono (by decide +kernel) (by decide))
      have hr_μ10 : μ10.2.2 = μ.2.2 := (hC_μ10.2 rfl : μ10.2.2 = μ.2.2).trans hr_μ
      try rw [hr_μ10]
      refine ok_bw (k_X8_push r11 μ10 hI_μ10) ?_
      rintro μ12 ⟨hI_μ12, hC_μ12⟩
      have hF_μ12 : Fr [(0, 30, 7), (0, 39, 1), (0, 137, 6), (1, 40, 0), (1, 42, 0), (1, 43, 0), (1, 45, 0)] true μ μ12 := hF_μ10.trans (hC_μ12.mono (by decide +kernel) (by decide))
      have hr_μ12 : μ12.2.2 = μ.2.2 := (hC_μ12.2 rfl : μ12.2.2 = μ10.2.2).trans hr_μ10
      try rw [hr_μ12]
      exact ok_some ⟨hI_μ12, hF_μ12⟩
  · intro c4
    rw [ti_eq] at c4
    refine ok_ite ?_ ?_
    · intro c14
      rw [ti_eq] at c14
      refine ok_bd (k_X8_secondOf a2 μ hI_μ) ?_
      rintro r16 μ15 hq9
      obtain rfl : μ = μ15 := hq9
      refine ok_bw (k_X8_push r16 μ hI_μ) ?_
      rintro μ17 ⟨hI_μ17, hC_μ17⟩
      have hF_μ17 : Fr [(0, 30, 7), (0, 39, 1), (0, 137, 6), (1, 40, 0), (1, 42, 0), (1, 43, 0), (1, 45, 0)] true μ μ17 := hF_μ.trans (hC_μ17.mono (by decide +kernel) (by decide))
      have hr_μ17 : μ17.2.2 = μ.2.2 := (hC_μ17.2 rfl : μ17.2.2 = μ.2.2).trans hr_μ
      try rw [hr_μ17]
      exact ok_some ⟨hI_μ17, hF_μ17⟩
    · intro c14
      rw [ti_eq] at c14
      refine ok_bd (k_X8_firstOf a2 μ hI_μ) ?_
      rintro r20 μ19 hq9
      obtain rfl : μ = μ19 := hq9
      refine ok_bw (k_X8_push r20 μ hI_μ) ?_
      rintro μ21 ⟨hI_μ21, hC_μ21⟩
      have hF_μ21 : Fr [(0, 30, 7), (0, 39, 1), (0, 137, 6), (1, 40, 0), (1, 42, 0), (1, 43, 0), (1, 45, 0)] true μ μ21 := hF_μ.trans (hC_μ21.mono (by decide +kernel) (by decide))
      have hr_μ21 : μ21.2.2 = μ.2.2 := (hC_μ21.2 rfl : μ21.2.2 = μ.2.2).trans hr_μ
      try rw [hr_μ21]
      exact ok_some ⟨hI_μ21, hF_μ21⟩
set_option maxHeartbeats 4000000 in
set_option maxRecDepth 100000 in
theorem k_X10_takePart (a1 : Int32) (μ : Mem) (hI_μ : IX μ) : ok (p_X10_takePart a1 μ) (fun q => IX q ∧ Fr [(0, 30, 7), (0, 39, 1), (0, 137, 6), (1, 40, 0), (1, 42, 0), (1, 43, 0), (1, 45, 0)] true μ q) := by
  have li0 : (0 : Int32).toInt = 0 := by decide
  have li1 : (1 : Int32).toInt = 1 := by decide
  have li64 : (64 : Int32).toInt = 64 := by decide
  have hF_μ : Fr [(0, 30, 7), (0, 39, 1), (0, 137, 6), (1, 40, 0), (1, 42, 0), (1, 43, 0), (1, 45, 0)] true μ μ := Fr.rf
  have hr_μ : μ.2.2 = μ.2.2 := rfl
  rw [p_X10_takePart_eq]
  have lo_a1 := ti_lo a1
  have hi_a1 := ti_hi a1
  refine ok_bd (k_X8_pop  μ hI_μ) ?_
  rintro r2 μ1 ⟨hI_μ1, hC_μ1⟩
  have hI_μ1 : IX μ1 := hI_μ1
  have hC_μ1 : Fr [(0, 30, 7)] true μ μ1 := hC_μ1
  have hF_μ1 : Fr [(0, 30, 7), (0, 39, 1), (0, 137, 6), (1, 40, 0), (1, 42, 0), (1, 43, 0), (1, 45, 0)] true μ μ1 := hF_μ.trans (hC_μ1.mono (by decide +kernel) (by decide))
  have hr_μ1 : μ1.2.2 = μ.2.2 := (hC_μ1.2 rfl : μ1.2.2 = μ.2.2).trans hr_μ
  try rw [hr_μ1]
  refine ok_ite ?_ ?_
  · intro c3
    rw [ti_eq] at c3
    exact ok_mono (k_X10_takePart_b19  r2 (1 : Int32) μ1 hI_μ1) (fun q h => ⟨h.1, hF_μ1.trans h.2⟩)
  · intro c3
    rw [ti_eq] at c3
    exact ok_mono (k_X10_takePart_b19  r2 (0 : Int32) μ1 hI_μ1) (fun q h => ⟨h.1, hF_μ1.trans h.2⟩)

set_option maxHeartbeats 4000000 in
set_option maxRecDepth 100000 in
theorem k_X8_isTooHeavy (a1 : Int64) (a3 : Int64) (μ : Mem) (hI_μ : IX μ) : ok (p_X8_isTooHeavy a1 a3 μ) (fun q => μ = q.2 ∧ ((q.1).toInt = 0 ∨ (q.1).toInt = 1)) := by
  have li0 : (0 : Int32).toInt = 0 := by decide
  have li1 : (1 : Int32).toInt = 1 := by decide
  have li40 : (40 : Int32).toInt = 40 := by decide
  have hF_μ : Fr [] true μ μ := Fr.rf
  have hr_μ : μ.2.2 = μ.2.2 := rfl
  rw [p_X8_isTooHeavy_eq]
  refine ok_bd (k_X8_weightOf a1 μ hI_μ) ?_
  rintro r2 μ1 hq9
  obtain rfl : μ = μ1 := hq9
  have lo_r2 := ti_lo r2
  have hi_r2 := ti_hi r2
  refine ok_bd (k_X8_weightOf a3 μ hI_μ) ?_
  rintro r4 μ3 hq9
  obtain rfl : μ = μ3 := hq9
  have lo_r4 := ti_lo r4
  have hi_r4 := ti_hi r4
  refine ok_ite ?_ ?_
  · intro c5
    rw [ti_le] at c5
    try rw [TI.e (e := (((1 : Int32) + r2) + r4)) (n := ((1 + r2.toInt) + r4.toInt)) (TI.add (TI.add (TI.lit (by decide)) TI.rf (by omega) (by omega)) TI.rf (by omega) (by omega))] at c5
    exact ok_some ⟨rfl, by (try dsimp only); omega⟩
  · intro c5
    rw [ti_le] at c5
    try rw [TI.e (e := (((1 : Int32) + r2) + r4)) (n := ((1 + r2.toInt) + r4.toInt)) (TI.add (TI.add (TI.lit (by decide)) TI.rf (by omega) (by omega)) TI.rf (by omega) (by omega))] at c5
    exact ok_some ⟨rfl, by (try dsimp only); omega⟩

set_option maxHeartbeats 4000000 in
set_option maxRecDepth 100000 in
theorem k_X10_makePair  (μ : Mem) (hI_μ : IX μ) : ok (p_X10_makePair  μ) (fun q => IX q ∧ Fr [(0, 30, 5), (0, 30, 7), (0, 137, 6), (1, 33, 0), (1, 34, 0)] true μ q) := by
  have lim5 : (-5 : Int32).toInt = -5 := by decide
  have li0 : (0 : Int32).toInt = 0 := by decide
  have li1 : (1 : Int32).toInt = 1 := by decide
  have hF_μ : Fr [(0, 30, 5), (0, 30, 7), (0, 137, 6), (1, 33, 0), (1, 34, 0)] true μ μ := Fr.rf
  have hr_μ : μ.2.2 = μ.2.2 := rfl
  rw [p_X10_makePair_eq]
  refine ok_bd (k_X8_pop  μ hI_μ) ?_
  rintro r2 μ1 ⟨hI_μ1, hC_μ1⟩
  have hI_μ1 : IX μ1 := hI_μ1
  have hC_μ1 : Fr [(0, 30, 7)] true μ μ1 := hC_μ1
  have hF_μ1 : Fr [(0, 30, 5), (0, 30, 7), (0, 137, 6), (1, 33, 0), (1, 34, 0)] true μ μ1 := hF_μ.trans (hC_μ1.mono (by decide +kernel) (by decide))
  have hr_μ1 : μ1.2.2 = μ.2.2 := (hC_μ1.2 rfl : μ1.2.2 = μ.2.2).trans hr_μ
  try rw [hr_μ1]
  refine ok_bd (k_X8_pop  μ1 hI_μ1) ?_
  rintro r4 μ3 ⟨hI_μ3, hC_μ3⟩
  have hI_μ3 : IX μ3 := hI_μ3
  have hC_μ3 : Fr [(0, 30, 7)] true μ1 μ3 := hC_μ3
  have hF_μ3 : Fr [(0, 30, 5), (0, 30, 7), (0, 137, 6), (1, 33, 0), (1, 34, 0)] true μ μ3 := hF_μ1.trans (hC_μ3.mono (by decide +kernel) (by decide))
  have hr_μ3 : μ3.2.2 = μ.2.2 := (hC_μ3.2 rfl : μ3.2.2 = μ1.2.2).trans hr_μ1
  try rw [hr_μ3]
  refine ok_bd (k_X8_isTooHeavy r4 r2 μ3 hI_μ3) ?_
  rintro r6 μ5 ⟨hq9, p_r6⟩
  obtain rfl : μ3 = μ5 := hq9
  dsimp only at p_r6
  have lo_r6 := ti_lo r6
  have hi_r6 := ti_hi r6
  try rw [hr_μ3]
  refine ok_ite ?_ ?_
  · intro c7
    rw [ti_eq] at c7
    refine ok_bd (k_X8_pair r4 r2 μ3 hI_μ3) ?_
    rintro r9 μ8 ⟨hI_μ8, hC_μ8⟩
    have hI_μ8 : IX μ8 := hI_μ8
    have hC_μ8 : Fr [(0, 30, 5), (1, 33, 0), (1, 34, 0)] true μ3 μ8 := hC_μ8
    have hF_μ8 : Fr [(0, 30, 5), (0, 30, 7), (0, 137, 6), (1, 33, 0), (1, 34, 0)] true μ μ8 := hF_μ3.trans (hC_μ8.mono (by decide +kernel) (by decide))
    have hr_μ8 : μ8.2.2 = μ.2.2 := (hC_μ8.2 rfl : μ8.2.2 = μ3.2.2).trans hr_μ3
    try rw [hr_μ8]
    refine ok_bw (k_X8_push r9 μ8 hI_μ8) ?_
    rintro μ10 ⟨hI_μ10, hC_μ10⟩
    have hF_μ10 : Fr [(0, 30, 5), (0, 30, 7), (0, 137, 6), (1, 33, 0), (1, 34, 0)] true μ μ10 := hF_μ8.trans (hC_μ10.mono (by decide +kernel) (by decide))
    have hr_μ10 : μ10.2.2 = μ.2.2 := (hC_μ10.2 rfl : μ10.2.2 = μ8.2.2).trans hr_μ8
    try rw [hr_μ10]
    exact ok_some ⟨hI_μ10, hF_μ10⟩
  · intro c7
    rw [ti_eq] at c7
    refine ok_bw (k_X10_breakOff (-5 : Int32) μ3 hI_μ3) ?_
    rintro μ12 ⟨hI_μ12, hC_μ12⟩
    have hF_μ12 : Fr [(0, 30, 5), (0, 30, 7), (0, 137, 6), (1, 33, 0), (1, 34, 0)] true μ μ12 := hF_μ3.trans (hC_μ12.mono (by decide +kernel) (by decide))
    have hr_μ12 : μ12.2.2 = μ.2.2 := (hC_μ12.2 rfl : μ12.2.2 = μ3.2.2).trans hr_μ3
    try rw [hr_μ12]
    exact ok_some ⟨hI_μ12, hF_μ12⟩

set_option maxHeartbeats 4000000 in
set_option maxRecDepth 100000 in
theorem k_X10_setBranch (a1 : Int32) (a2 : Int32) (μ : Mem) (hI_μ : IX μ) (hc : 0 ≤ (a1).toInt ∧ (a1).toInt ≤ 2) : ok (p_X10_setBranch a1 a2 μ) (fun q => IX q ∧ Fr [(1, 138, 0)] true μ q) := by
  have li0 : (0 : Int32).toInt = 0 := by decide
  have li1 : (1 : Int32).toInt = 1 := by decide
  have li3 : (3 : Int32).toInt = 3 := by decide
  have hF_μ : Fr [(1, 138, 0)] true μ μ := Fr.rf
  have hr_μ : μ.2.2 = μ.2.2 := rfl
  rw [p_X10_setBranch_eq]
  have lo_a1 := ti_lo a1
  have hi_a1 := ti_hi a1
  have lo_a2 := ti_lo a2
  have hi_a2 := ti_hi a2
  have g1 := rg_137_12 hI_μ
  refine ok_ite ?_ ?_
  · intro c2
    rw [ti_lt] at c2
    exact ok_some ⟨hI_μ, hF_μ⟩
  · intro c2
    rw [ti_lt] at c2
    refine ok_gd (inb_iff.mpr (by (try rw [TI.e (e := ((((μ.1 137 12) - (1 : Int32)) * (3 : Int32)) + a1)) (n := ((((μ.1 137 12).toInt - 1) * 3) + a1.toInt)) (TI.add (TI.mul (TI.sub TI.rf (TI.lit (by decide)) (by omega) (by omega)) (TI.lit (by decide)) (by omega) (by omega)) TI.rf (by omega) (by omega))]); omega)) ?_
    refine ok_bv (fun μ3 e_μ3 => ?_)
    have hI_μ3 : IX μ3 := by rw [e_μ3]; exact IX_F hI_μ (rta_138 _ _)
    have hF_μ3 : Fr [(1, 138, 0)] true μ μ3 := by rw [e_μ3]; exact Fr.puta hF_μ (by decide +kernel)
    have hr_μ3 : μ3.2.2 = μ.2.2 := (by rw [e_μ3]; rfl : μ3.2.2 = μ.2.2).trans hr_μ
    try rw [hr_μ3]
    exact ok_some ⟨hI_μ3, hF_μ3⟩

set_option maxHeartbeats 4000000 in
set_option maxRecDepth 100000 in
theorem k_X10_openBranch (a1 : Int64) (a3 : Int32) (μ : Mem) (hI_μ : IX μ) : ok (p_X10_openBranch a1 a3 μ) (fun q => IX q ∧ Fr [(0, 137, 12), (1, 138, 0)] true μ q) := by
  have lim1 : (-1 : Int32).toInt = -1 := by decide
  have li0 : (0 : Int32).toInt = 0 := by decide
  have li1 : (1 : Int32).toInt = 1 := by decide
  have li2 : (2 : Int32).toInt = 2 := by decide
  have li260 : (260 : Int32).toInt = 260 := by decide
  have hF_μ : Fr [(0, 137, 12), (1, 138, 0)] true μ μ := Fr.rf
  have hr_μ : μ.2.2 = μ.2.2 := rfl
  rw [p_X10_openBranch_eq]
  have lo_a3 := ti_lo a3
  have hi_a3 := ti_hi a3
  have g1 := rg_137_12 hI_μ
  refine ok_ite ?_ ?_
  · intro c2
    rw [ti_le] at c2
    exact ok_some ⟨hI_μ, hF_μ⟩
  · intro c2
    rw [ti_le] at c2
    refine ok_gd (inb_iff.mpr (by omega)) ?_
    refine ok_bv (fun μ3 e_μ3 => ?_)
    have hI_μ3 : IX μ3 := by rw [e_μ3]; exact IX_L hI_μ
    have hF_μ3 : Fr [(0, 137, 12), (1, 138, 0)] true μ μ3 := by rw [e_μ3]; exact hF_μ
    have hr_μ3 : μ3.2.2 = μ.2.2 := (by rw [e_μ3]; rfl : μ3.2.2 = μ.2.2).trans hr_μ
    try rw [hr_μ3]
    have g4 := rg_137_12 hI_μ3
    have f5 : (μ3.1 137 12).toInt = (μ.1 137 12).toInt := congrArg Int32.toInt ((by rw [e_μ3]; rfl : μ3.1 137 12 = μ.1 137 12))
    refine ok_bv (fun μ6 e_μ6 => ?_)
    have hI_μ6 : IX μ6 := by rw [e_μ6]; exact IX_F hI_μ3 (rp_137_12 (by (try rw [TI.e (e := ((μ3.1 137 12) + (1 : Int32))) (n := ((μ3.1 137 12).toInt + 1)) (TI.add TI.rf (TI.lit (by decide)) (by omega) (by omega))]); omega))
    have hF_μ6 : Fr [(0, 137, 12), (1, 138, 0)] true μ μ6 := by rw [e_μ6]; exact Fr.put hF_μ3 (by decide +kernel)
    have v_μ6 : (μ6.1 137 12).toInt = ((μ3.1 137 12).toInt + 1) := by rw [e_μ6, sF_v]; exact TI.e (n := ((μ3.1 137 12).toInt + 1)) (TI.add TI.rf (TI.lit (by decide)) (by omega) (by omega))
    have hr_μ6 : μ6.2.2 = μ.2.2 := (by rw [e_μ6]; rfl : μ6.2.2 = μ3.2.2).trans hr_μ3
    try rw [hr_μ6]
    have g7 := ti_lo (μ6.1 137 8)
    have g7h := ti_hi (μ6.1 137 8)
    refine ok_bw (k_X10_setBranch (0 : Int32) (μ6.1 137 8) μ6 hI_μ6 (by (try rw [hr_μ6]); omega)) ?_
    rintro μ8 ⟨hI_μ8, hC_μ8⟩
    have hF_μ8 : Fr [(0, 137, 12), (1, 138, 0)] true μ μ8 := hF_μ6.trans (hC_μ8.mono (by decide +kernel) (by decide))
    have hr_μ8 : μ8.2.2 = μ.2.2 := (hC_μ8.2 rfl : μ8.2.2 = μ6.2.2).trans hr_μ6
    try rw [hr_μ8]
    refine ok_bw (k_X10_setBranch (1 : Int32) a3 μ8 hI_μ8 (by (try rw [hr_μ8]); omega)) ?_
    rintro μ10 ⟨hI_μ10, hC_μ10⟩
    have hF_μ10 : Fr [(0, 137, 12), (1, 138, 0)] true μ μ10 := hF_μ8.trans (hC_μ10.mono (by decide +kernel) (by decide))
    have hr_μ10 : μ10.2.2 = μ.2.2 := (hC_μ10.2 rfl : μ10.2.2 = μ8.2.2).trans hr_μ8
    try rw [hr_μ10]
    refine ok_bw (k_X10_setBranch (2 : Int32) (-1 : Int32) μ10 hI_μ10 (by (try rw [hr_μ10]); omega)) ?_
    rintro μ12 ⟨hI_μ12, hC_μ12⟩
    have hF_μ12 : Fr [(0, 137, 12), (1, 138, 0)] true μ μ12 := hF_μ10.trans (hC_μ12.mono (by decide +kernel) (by decide))
    have hr_μ12 : μ12.2.2 = μ.2.2 := (hC_μ12.2 rfl : μ12.2.2 = μ10.2.2).trans hr_μ10
    try rw [hr_μ12]
    exact ok_some ⟨hI_μ12, hF_μ12⟩

set_option maxHeartbeats 4000000 in
set_option maxRecDepth 100000 in
theorem k_X10_test (a1 : Int32) (μ : Mem) (hI_μ : IX μ) : ok (p_X10_test a1 μ) (fun q => IX q ∧ Fr [(0, 30, 7), (0, 39, 6), (0, 137, 8), (0, 137, 9), (0, 137, 12), (0, 137, 13), (1, 42, 0), (1, 43, 0), (1, 138, 0)] true μ q) := by
  have lim1 : (-1 : Int32).toInt = -1 := by decide
  have li0 : (0 : Int32).toInt = 0 := by decide
  have li1 : (1 : Int32).toInt = 1 := by decide
  have hF_μ : Fr [(0, 30, 7), (0, 39, 6), (0, 137, 8), (0, 137, 9), (0, 137, 12), (0, 137, 13), (1, 42, 0), (1, 43, 0), (1, 138, 0)] true μ μ := Fr.rf
  have hr_μ : μ.2.2 = μ.2.2 := rfl
  rw [p_X10_test_eq]
  have lo_a1 := ti_lo a1
  have hi_a1 := ti_hi a1
  refine ok_bd (k_X8_popNum  μ hI_μ) ?_
  rintro r2 μ1 ⟨hI_μ1, hC_μ1⟩
  have hI_μ1 : IX μ1 := hI_μ1
  have hC_μ1 : Fr [(0, 30, 7)] true μ μ1 := hC_μ1
  have hF_μ1 : Fr [(0, 30, 7), (0, 39, 6), (0, 137, 8), (0, 137, 9), (0, 137, 12), (0, 137, 13), (1, 42, 0), (1, 43, 0), (1, 138, 0)] true μ μ1 := hF_μ.trans (hC_μ1.mono (by decide +kernel) (by decide))
  have hr_μ1 : μ1.2.2 = μ.2.2 := (hC_μ1.2 rfl : μ1.2.2 = μ.2.2).trans hr_μ
  try rw [hr_μ1]
  refine ok_ite ?_ ?_
  · intro c3
    rw [ti_eq] at c3
    refine ok_bd (k_X5_addBlock  μ1 hI_μ1) ?_
    rintro r5 μ4 ⟨hI_μ4, hC_μ4⟩
    have hI_μ4 : IX μ4 := hI_μ4
    have hC_μ4 : Fr [(0, 39, 6), (1, 42, 0), (1, 43, 0)] true μ1 μ4 := hC_μ4
    have lo_r5 := ti_lo r5
    have hi_r5 := ti_hi r5
    have hF_μ4 : Fr [(0, 30, 7), (0, 39, 6), (0, 137, 8), (0, 137, 9), (0, 137, 12), (0, 137, 13), (1, 42, 0), (1, 43, 0), (1, 138, 0)] true μ μ4 := hF_μ1.trans (hC_μ4.mono (by decide +kernel) (by decide))
    have hr_μ4 : μ4.2.2 = μ.2.2 := (hC_μ4.2 rfl : μ4.2.2 = μ1.2.2).trans hr_μ1
    try rw [hr_μ4]
    refine ok_bw (k_X10_openBranch r2 r5 μ4 hI_μ4) ?_
    rintro μ6 ⟨hI_μ6, hC_μ6⟩
    have hF_μ6 : Fr [(0, 30, 7), (0, 39, 6), (0, 137, 8), (0, 137, 9), (0, 137, 12), (0, 137, 13), (1, 42, 0), (1, 43, 0), (1, 138, 0)] true μ μ6 := hF_μ4.trans (hC_μ6.mono (by decide +kernel) (by decide))
    have hr_μ6 : μ6.2.2 = μ.2.2 := (hC_μ6.2 rfl : μ6.2.2 = μ4.2.2).trans hr_μ4
    try rw [hr_μ6]
    have g8 := ti_lo (μ6.1 137 13)
    have g8h := ti_hi (μ6.1 137 13)
    refine ok_bv (fun μ9 e_μ9 => ?_)
    have hI_μ9 : IX μ9 := by rw [e_μ9]; exact IX_F hI_μ6 (rt_137_13 _)
    have hF_μ9 : Fr [(0, 30, 7), (0, 39, 6), (0, 137, 8), (0, 137, 9), (0, 137, 12), (0, 137, 13), (1, 42, 0), (1, 43, 0), (1, 138, 0)] true μ μ9 := by rw [e_μ9]; exact Fr.put hF_μ6 (by decide +kernel)
    have hr_μ9 : μ9.2.2 = μ.2.2 := (by rw [e_μ9]; rfl : μ9.2.2 = μ6.2.2).trans hr_μ6
    try rw [hr_μ9]
    refine ok_bv (fun μ10 e_μ10 => ?_)
    have hI_μ10 : IX μ10 := by rw [e_μ10]; exact IX_F hI_μ9 (rt_137_8 _)
    have hF_μ10 : Fr [(0, 30, 7), (0, 39, 6), (0, 137, 8), (0, 137, 9), (0, 137, 12), (0, 137, 13), (1, 42, 0), (1, 43, 0), (1, 138, 0)] true μ μ10 := by rw [e_μ10]; exact Fr.put hF_μ9 (by decide +kernel)
    have v_μ10 : (μ10.1 137 8).toInt = r5.toInt := by rw [e_μ10, sF_v]
    have hr_μ10 : μ10.2.2 = μ.2.2 := (by rw [e_μ10]; rfl : μ10.2.2 = μ9.2.2).trans hr_μ9
    try rw [hr_μ10]
    exact ok_some ⟨hI_μ10, hF_μ10⟩
  · intro c3
    rw [ti_eq] at c3
    refine ok_bw (k_X10_openBranch r2 (-1 : Int32) μ1 hI_μ1) ?_
    rintro μ11 ⟨hI_μ11, hC_μ11⟩
    have hF_μ11 : Fr [(0, 30, 7), (0, 39, 6), (0, 137, 8), (0, 137, 9), (0, 137, 12), (0, 137, 13), (1, 42, 0), (1, 43, 0), (1, 138, 0)] true μ μ11 := hF_μ1.trans (hC_μ11.mono (by decide +kernel) (by decide))
    have hr_μ11 : μ11.2.2 = μ.2.2 := (hC_μ11.2 rfl : μ11.2.2 = μ1.2.2).trans hr_μ1
    try rw [hr_μ11]
    refine ok_ite ?_ ?_
    · intro c13
      rw [ti_eq] at c13
      refine ok_bv (fun μ14 e_μ14 => ?_)
      have hI_μ14 : IX μ14 := by rw [e_μ14]; exact IX_F hI_μ11 (rt_137_9 _)
      have hF_μ14 : Fr [(0, 30, 7), (0, 39, 6), (0, 137, 8), (0, 137, 9), (0, 137, 12), (0, 137, 13), (1, 42, 0), (1, 43, 0), (1, 138, 0)] true μ μ14 := by rw [e_μ14]; exact Fr.put hF_μ11 (by decide +kernel)
      have v_μ14 : (μ14.1 137 9).toInt = a1.toInt := by rw [e_μ14, sF_v]
      have hr_μ14 : μ14.2.2 = μ.2.2 := (by rw [e_μ14]; rfl : μ14.2.2 = μ11.2.2).trans hr_μ11
      try rw [hr_μ14]
      exact ok_some ⟨hI_μ14, hF_μ14⟩
    · intro c13
      rw [ti_eq] at c13
      have g15 := ti_lo (μ11.1 137 9)
      have g15h := ti_hi (μ11.1 137 9)
      refine ok_bv (fun μ16 e_μ16 => ?_)
      have hI_μ16 : IX μ16 := by rw [e_μ16]; exact IX_F hI_μ11 (rt_137_9 _)
      have hF_μ16 : Fr [(0, 30, 7), (0, 39, 6), (0, 137, 8), (0, 137, 9), (0, 137, 12), (0, 137, 13), (1, 42, 0), (1, 43, 0), (1, 138, 0)] true μ μ16 := by rw [e_μ16]; exact Fr.put hF_μ11 (by decide +kernel)
      have v_μ16 : (μ16.1 137 9).toInt = (μ11.1 137 9).toInt := by rw [e_μ16, sF_v]
      have hr_μ16 : μ16.2.2 = μ.2.2 := (by rw [e_μ16]; rfl : μ16.2.2 = μ11.2.2).trans hr_μ11
      try rw [hr_μ16]
      exact ok_some ⟨hI_μ16, hF_μ16⟩

set_option maxHeartbeats 4000000 in
set_option maxRecDepth 100000 in
theorem k_X10_branch (a1 : Int32) (μ : Mem) (hI_μ : IX μ) (hc : 0 ≤ (a1).toInt ∧ (a1).toInt ≤ 2) : ok (p_X10_branch a1 μ) (fun q => μ = q.2) := by
  have lim1 : (-1 : Int32).toInt = -1 := by decide
  have li0 : (0 : Int32).toInt = 0 := by decide
  have li1 : (1 : Int32).toInt = 1 := by decide
  have li3 : (3 : Int32).toInt = 3 := by decide
  have hF_μ : Fr [] true μ μ := Fr.rf
  have hr_μ : μ.2.2 = μ.2.2 := rfl
  rw [p_X10_branch_eq]
  have lo_a1 := ti_lo a1
  have hi_a1 := ti_hi a1
  have g1 := rg_137_12 hI_μ
  refine ok_ite ?_ ?_
  · intro c2
    rw [ti_le] at c2
    refine ok_gd (inb_iff.mpr (by (try rw [TI.e (e := ((((μ.1 137 12) - (1 : Int32)) * (3 : Int32)) + a1)) (n := ((((μ.1 137 12).toInt - 1) * 3) + a1.toInt)) (TI.add (TI.mul (TI.sub TI.rf (TI.lit (by decide)) (by omega) (by omega)) (TI.lit (by decide)) (by omega) (by omega)) TI.rf (by omega) (by omega))]); omega)) ?_
    exact ok_some rfl
  · intro c2
    rw [ti_le] at c2
    exact ok_some rfl

set_option maxHeartbeats 4000000 in
set_option maxRecDepth 100000 in
theorem k_X10_closeBranch  (μ : Mem) (hI_μ : IX μ) : ok (p_X10_closeBranch  μ) (fun q => IX q ∧ Fr [(0, 137, 12)] true μ q) := by
  have li0 : (0 : Int32).toInt = 0 := by decide
  have li1 : (1 : Int32).toInt = 1 := by decide
  have hF_μ : Fr [(0, 137, 12)] true μ μ := Fr.rf
  have hr_μ : μ.2.2 = μ.2.2 := rfl
  rw [p_X10_closeBranch_eq]
  have g1 := rg_137_12 hI_μ
  refine ok_bv (fun μ2 e_μ2 => ?_)
  have hI_μ2 : IX μ2 := by rw [e_μ2]; exact IX_F hI_μ (rp_137_12 (by (try rw [TI.e (e := (imax (0 : Int32) ((μ.1 137 12) - (1 : Int32)))) (n := (max 0 ((μ.1 137 12).toInt - 1))) (TI.max (TI.lit (by decide)) (TI.sub TI.rf (TI.lit (by decide)) (by omega) (by omega)))]); omega))
  have hF_μ2 : Fr [(0, 137, 12)] true μ μ2 := by rw [e_μ2]; exact Fr.put hF_μ (by decide +kernel)
  have v_μ2 : (μ2.1 137 12).toInt = (max 0 ((μ.1 137 12).toInt - 1)) := by rw [e_μ2, sF_v]; exact TI.e (n := (max 0 ((μ.1 137 12).toInt - 1))) (TI.max (TI.lit (by decide)) (TI.sub TI.rf (TI.lit (by decide)) (by omega) (by omega)))
  have hr_μ2 : μ2.2.2 = μ.2.2 := (by rw [e_μ2]; rfl : μ2.2.2 = μ.2.2).trans hr_μ
  try rw [hr_μ2]
  exact ok_some ⟨hI_μ2, hF_μ2⟩

set_option maxHeartbeats 4000000 in
set_option maxRecDepth 100000 in
theorem k_X10_lift {nE : Nat} (RE : Int64 → Int32 → Mem → Option (Int64 × Mem)) (hRE : ∀ (z1 : Int64) (z3 : Int32) (μ1 : Mem), IX μ1 → (0 ≤ (z3).toInt ∧ (z3).toInt ≤ 41 ∧ 41 - (z3).toInt < nE) → ok (RE z1 z3 μ1) (fun q => IX q.2 ∧ Fr [(0, 39, 1), (0, 137, 6), (1, 40, 0), (1, 42, 0), (1, 43, 0), (1, 45, 0)] true μ1 q.2)) (a1 : Int64) (a3 : Int32) (μ : Mem) (hI_μ : IX μ) (hc : 0 ≤ (a3).toInt ∧ (a3).toInt ≤ 41 ∧ 41 - (a3).toInt < nE + 1) : ok (p_X10_lift RE a1 a3 μ) (fun q => IX q.2 ∧ Fr [(0, 39, 1), (0, 137, 6), (1, 40, 0), (1, 42, 0), (1, 43, 0), (1, 45, 0)] true μ q.2) := by
  have li0 : (0 : Int32).toInt = 0 := by decide
  have li1 : (1 : Int32).toInt = 1 := by decide
  have li10 : (10 : Int32).toInt = 10 := by decide
  have li40 : (40 : Int32).toInt = 40 := by decide
  have hF_μ : Fr [(0, 39, 1), (0, 137, 6), (1, 40, 0), (1, 42, 0), (1, 43, 0), (1, 45, 0)] true μ μ := Fr.rf
  have hr_μ : μ.2.2 = μ.2.2 := rfl
  rw [p_X10_lift_eq]
  have lo_a3 := ti_lo a3
  have hi_a3 := ti_hi a3
  have g3 := rg_30_5 hI_μ
  refine ok_bd (k_X8_isPair a1 μ hI_μ) ?_
  rintro r2 μ1 ⟨hq9, p_r2⟩
  obtain rfl : μ = μ1 := hq9
  dsimp only at p_r2
  have lo_r2 := ti_lo r2
  have hi_r2 := ti_hi r2
  refine ok_ite ?_ ?_
  · intro c4
    rw [ti_eq] at c4
    exact ok_some ⟨hI_μ, hF_μ⟩
  · intro c4
    rw [ti_eq] at c4
    refine ok_ite ?_ ?_
    · intro c5
      rw [ti_lt] at c5
      exact ok_some ⟨hI_μ, hF_μ⟩
    · intro c5
      rw [ti_lt] at c5
      have g6 := ti_lo (μ.1 137 6)
      have g6h := ti_hi (μ.1 137 6)
      refine ok_ite ?_ ?_
      · intro c7
        rw [ti_eq] at c7
        refine ok_bd (k_X8_firstOf a1 μ hI_μ) ?_
        rintro r9 μ8 hq9
        obtain rfl : μ = μ8 := hq9
        refine ok_bd (hRE r9 (a3 + (1 : Int32)) μ hI_μ (by (try rw [TI.e (e := (a3 + (1 : Int32))) (n := (a3.toInt + 1)) (TI.add TI.rf (TI.lit (by decide)) (by omega) (by omega))]); omega)) ?_
        rintro r11 μ10 ⟨hI_μ10, hC_μ10⟩
        have hI_μ10 : IX μ10 := hI_μ10
        have hC_μ10 : Fr [(0, 39, 1), (0, 137, 6), (1, 40, 0), (1, 42, 0), (1, 43, 0), (1, 45, 0)] true μ μ10 := hC_μ10
        have hF_μ10 : Fr [(0, 39, 1), (0, 137, 6), (1, 40, 0), (1, 42, 0), (1, 43, 0), (1, 45, 0)] true μ μ10 := hF_μ.trans (hC_μ10.mono (by decide +kernel) (by decide))
        have hr_μ10 : μ10.2.2 = μ.2.2 := (hC_μ10.2 rfl : μ10.2.2 = μ.2.2).trans hr_μ
        try rw [hr_μ10]
        refine ok_bd (k_X8_secondOf a1 μ10 hI_μ10) ?_
        rintro r13 μ12 hq9
        obtain rfl : μ10 = μ12 := hq9
        try rw [hr_μ10]
        refine ok_bd (hRE r13 (a3 + (1 : Int32)) μ10 hI_μ10 (by (try rw [hr_μ10]); (try rw [TI.e (e := (a3 + (1 : Int32))) (n := (a3.toInt + 1)) (TI.add TI.rf (TI.lit (by decide)) (by omega) (by omega))]); omega)) ?_
        rintro r15 μ14 ⟨hI_μ14, hC_μ14⟩
        have hI_μ14 : IX μ14 := hI_μ14
        have hC_μ14 : Fr [(0, 39, 1), (0, 137, 6), (1, 40, 0), (1, 42, 0), (1, 43, 0), (1, 45, 0)] true μ10 μ14 := hC_μ14
        have hF_μ14 : Fr [(0, 39, 1), (0, 137, 6), (1, 40, 0), (1, 42, 0), (1, 43, 0), (1, 45, 0)] true μ μ14 := hF_μ10.trans (hC_μ14.mono (by decide +kernel) (by decide))
        have hr_μ14 : μ14.2.2 = μ.2.2 := (hC_μ14.2 rfl : μ14.2.2 = μ10.2.2).trans hr_μ10
        try rw [hr_μ14]
        refine ok_bd (k_X10_leave (10 : Int32) (0 : Int32) r11 r15 μ14 hI_μ14) ?_
        rintro r17 μ16 ⟨hI_μ16, hC_μ16⟩
        have hI_μ16 : IX μ16 := hI_μ16
        have hC_μ16 : Fr [(0, 39, 1), (0, 137, 6), (1, 40, 0), (1, 42, 0), (1, 43, 0), (1, 45, 0)] true μ14 μ16 := hC_μ16
        have hF_μ16 : Fr [(0, 39, 1), (0, 137, 6), (1, 40, 0), (1, 42, 0), (1, 43, 0), (1, 45, 0)] true μ μ16 := hF_μ14.trans (hC_μ16.mono (by decide +kernel) (by decide))
        have hr_μ16 : μ16.2.2 = μ.2.2 := (hC_μ16.2 rfl : μ16.2.2 = μ14.2.2).trans hr_μ14
        try rw [hr_μ16]
        exact ok_some ⟨hI_μ16, hF_μ16⟩
      · intro c7
        rw [ti_eq] at c7
        exact ok_some ⟨hI_μ, hF_μ⟩
theorem kr_X10_lift : ∀ (n : Nat) (a1 : Int64) (a3 : Int32) (μ : Mem), IX μ → (0 ≤ (a3).toInt ∧ (a3).toInt ≤ 41 ∧ 41 - (a3).toInt < n) → ok (pr_X10_lift n a1 a3 μ) (fun q => IX q.2 ∧ Fr [(0, 39, 1), (0, 137, 6), (1, 40, 0), (1, 42, 0), (1, 43, 0), (1, 45, 0)] true μ q.2) := by
  intro n
  induction n with
  | zero => intro a1 a3 μ hI hc; exact absurd hc (by omega)
  | succ n ih =>
    intro a1 a3 μ hI hc
    rw [pr_X10_lift_s]
    exact k_X10_lift (nE := n) (pr_X10_lift n) ih a1 a3 μ hI (by omega)

set_option maxHeartbeats 4000000 in
set_option maxRecDepth 100000 in
theorem k_X5_isBlock (a1 : Int32) (μ : Mem) (hI_μ : IX μ) : ok (p_X5_isBlock a1 μ) (fun q => μ = q.2 ∧ (((q.1).toInt = 0 ∨ (q.1).toInt = 1) ∧ ((q.1).toInt = 0 ∨ (0 ≤ (a1).toInt ∧ (a1).toInt < 672)))) := by
  have li0 : (0 : Int32).toInt = 0 := by decide
  have li1 : (1 : Int32).toInt = 1 := by decide
  have hF_μ : Fr [] true μ μ := Fr.rf
  have hr_μ : μ.2.2 = μ.2.2 := rfl
  rw [p_X5_isBlock_eq]
  have lo_a1 := ti_lo a1
  have hi_a1 := ti_hi a1
  refine ok_ite ?_ ?_
  · intro c1
    rw [ti_lt] at c1
    exact ok_some ⟨rfl, by (try dsimp only); omega⟩
  · intro c1
    rw [ti_lt] at c1
    have g2 := rg_39_6 hI_μ
    refine ok_ite ?_ ?_
    · intro c3
      rw [ti_le] at c3
      exact ok_some ⟨rfl, by (try dsimp only); omega⟩
    · intro c3
      rw [ti_le] at c3
      exact ok_some ⟨rfl, by (try dsimp only); omega⟩

set_option maxHeartbeats 4000000 in
set_option maxRecDepth 100000 in
theorem k_X5_endBlock (a1 : Int32) (a2 : Int64) (μ : Mem) (hI_μ : IX μ) : ok (p_X5_endBlock a1 a2 μ) (fun q => IX q ∧ Fr [] true μ q) := by
  have li0 : (0 : Int32).toInt = 0 := by decide
  have li1 : (1 : Int32).toInt = 1 := by decide
  have hF_μ : Fr [] true μ μ := Fr.rf
  have hr_μ : μ.2.2 = μ.2.2 := rfl
  rw [p_X5_endBlock_eq]
  have lo_a1 := ti_lo a1
  have hi_a1 := ti_hi a1
  refine ok_bd (k_X5_isBlock a1 μ hI_μ) ?_
  rintro r2 μ1 ⟨hq9, p_r2⟩
  obtain rfl : μ = μ1 := hq9
  dsimp only at p_r2
  have lo_r2 := ti_lo r2
  have hi_r2 := ti_hi r2
  refine ok_ite ?_ ?_
  · intro c3
    rw [ti_eq] at c3
    exact ok_some ⟨hI_μ, hF_μ⟩
  · intro c3
    rw [ti_eq] at c3
    refine ok_gd (inb_iff.mpr (by omega)) ?_
    refine ok_bv (fun μ4 e_μ4 => ?_)
    have hI_μ4 : IX μ4 := by rw [e_μ4]; exact IX_L hI_μ
    have hF_μ4 : Fr [] true μ μ4 := by rw [e_μ4]; exact hF_μ
    have hr_μ4 : μ4.2.2 = μ.2.2 := (by rw [e_μ4]; rfl : μ4.2.2 = μ.2.2).trans hr_μ
    exact ok_some ⟨hI_μ4, hF_μ4⟩

set_option maxHeartbeats 4000000 in
set_option maxRecDepth 100000 in
theorem k_X10_endThen (a1 : Int32) (μ : Mem) (hI_μ : IX μ) : ok (p_X10_endThen a1 μ) (fun q => IX q ∧ Fr [(0, 30, 7), (0, 39, 1), (0, 39, 6), (0, 137, 6), (0, 137, 8), (0, 137, 9), (0, 137, 12), (1, 40, 0), (1, 42, 0), (1, 43, 0), (1, 45, 0), (1, 138, 0)] true μ q) := by
  have lim1 : (-1 : Int32).toInt = -1 := by decide
  have li0 : (0 : Int32).toInt = 0 := by decide
  have li1 : (1 : Int32).toInt = 1 := by decide
  have li2 : (2 : Int32).toInt = 2 := by decide
  have hF_μ : Fr [(0, 30, 7), (0, 39, 1), (0, 39, 6), (0, 137, 6), (0, 137, 8), (0, 137, 9), (0, 137, 12), (1, 40, 0), (1, 42, 0), (1, 43, 0), (1, 45, 0), (1, 138, 0)] true μ μ := Fr.rf
  have hr_μ : μ.2.2 = μ.2.2 := rfl
  rw [p_X10_endThen_eq]
  have lo_a1 := ti_lo a1
  have hi_a1 := ti_hi a1
  refine ok_bd (k_X10_branch (1 : Int32) μ hI_μ (by omega)) ?_
  rintro r2 μ1 hq9
  obtain rfl : μ = μ1 := hq9
  have lo_r2 := ti_lo r2
  have hi_r2 := ti_hi r2
  refine ok_ite ?_ ?_
  · intro c3
    rw [ti_eq] at c3
    refine ok_bw (k_X10_closeBranch  μ hI_μ) ?_
    rintro μ4 ⟨hI_μ4, hC_μ4⟩
    have hF_μ4 : Fr [(0, 30, 7), (0, 39, 1), (0, 39, 6), (0, 137, 6), (0, 137, 8), (0, 137, 9), (0, 137, 12), (1, 40, 0), (1, 42, 0), (1, 43, 0), (1, 45, 0), (1, 138, 0)] true μ μ4 := hF_μ.trans (hC_μ4.mono (by decide +kernel) (by decide))
    have hr_μ4 : μ4.2.2 = μ.2.2 := (hC_μ4.2 rfl : μ4.2.2 = μ.2.2).trans hr_μ
    try rw [hr_μ4]
    refine ok_bv (fun μ6 e_μ6 => ?_)
    have hI_μ6 : IX μ6 := by rw [e_μ6]; exact IX_F hI_μ4 (rt_137_9 _)
    have hF_μ6 : Fr [(0, 30, 7), (0, 39, 1), (0, 39, 6), (0, 137, 6), (0, 137, 8), (0, 137, 9), (0, 137, 12), (1, 40, 0), (1, 42, 0), (1, 43, 0), (1, 45, 0), (1, 138, 0)] true μ μ6 := by rw [e_μ6]; exact Fr.put hF_μ4 (by decide +kernel)
    have v_μ6 : (μ6.1 137 9).toInt = a1.toInt := by rw [e_μ6, sF_v]
    have hr_μ6 : μ6.2.2 = μ.2.2 := (by rw [e_μ6]; rfl : μ6.2.2 = μ4.2.2).trans hr_μ4
    try rw [hr_μ6]
    exact ok_some ⟨hI_μ6, hF_μ6⟩
  · intro c3
    rw [ti_eq] at c3
    have g7 := ti_lo (μ.1 137 8)
    have g7h := ti_hi (μ.1 137 8)
    refine ok_bd (k_X8_pop  μ hI_μ) ?_
    rintro r9 μ8 ⟨hI_μ8, hC_μ8⟩
    have hI_μ8 : IX μ8 := hI_μ8
    have hC_μ8 : Fr [(0, 30, 7)] true μ μ8 := hC_μ8
    have hF_μ8 : Fr [(0, 30, 7), (0, 39, 1), (0, 39, 6), (0, 137, 6), (0, 137, 8), (0, 137, 9), (0, 137, 12), (1, 40, 0), (1, 42, 0), (1, 43, 0), (1, 45, 0), (1, 138, 0)] true μ μ8 := hF_μ.trans (hC_μ8.mono (by decide +kernel) (by decide))
    have hr_μ8 : μ8.2.2 = μ.2.2 := (hC_μ8.2 rfl : μ8.2.2 = μ.2.2).trans hr_μ
    try rw [hr_μ8]
    refine ok_bd (kr_X10_lift 50 r9 (0 : Int32) μ8 hI_μ8 (by (try rw [hr_μ8]); omega)) ?_
    rintro r11 μ10 ⟨hI_μ10, hC_μ10⟩
    have hI_μ10 : IX μ10 := hI_μ10
    have hC_μ10 : Fr [(0, 39, 1), (0, 137, 6), (1, 40, 0), (1, 42, 0), (1, 43, 0), (1, 45, 0)] true μ8 μ10 := hC_μ10
    have hF_μ10 : Fr [(0, 30, 7), (0, 39, 1), (0, 39, 6), (0, 137, 6), (0, 137, 8), (0, 137, 9), (0, 137, 12), (1, 40, 0), (1, 42, 0), (1, 43, 0), (1, 45, 0), (1, 138, 0)] true μ μ10 := hF_μ8.trans (hC_μ10.mono (by decide +kernel) (by decide))
    have hr_μ10 : μ10.2.2 = μ.2.2 := (hC_μ10.2 rfl : μ10.2.2 = μ8.2.2).trans hr_μ8
    try rw [hr_μ10]
    refine ok_bw (k_X5_endBlock (μ.1 137 8) r11 μ10 hI_μ10) ?_
    rintro μ12 ⟨hI_μ12, hC_μ12⟩
    have hF_μ12 : Fr [(0, 30, 7), (0, 39, 1), (0, 39, 6), (0, 137, 6), (0, 137, 8), (0, 137, 9), (0, 137, 12), (1, 40, 0), (1, 42, 0), (1, 43, 0), (1, 45, 0), (1, 138, 0)] true μ μ12 := hF_μ10.trans (hC_μ12.mono (by decide +kernel) (by decide))
    have hr_μ12 : μ12.2.2 = μ.2.2 := (hC_μ12.2 rfl : μ12.2.2 = μ10.2.2).trans hr_μ10
    try rw [hr_μ12]
    refine ok_bd (k_X5_addBlock  μ12 hI_μ12) ?_
    rintro r15 μ14 ⟨hI_μ14, hC_μ14⟩
    have hI_μ14 : IX μ14 := hI_μ14
    have hC_μ14 : Fr [(0, 39, 6), (1, 42, 0), (1, 43, 0)] true μ12 μ14 := hC_μ14
    have lo_r15 := ti_lo r15
    have hi_r15 := ti_hi r15
    have hF_μ14 : Fr [(0, 30, 7), (0, 39, 1), (0, 39, 6), (0, 137, 6), (0, 137, 8), (0, 137, 9), (0, 137, 12), (1, 40, 0), (1, 42, 0), (1, 43, 0), (1, 45, 0), (1, 138, 0)] true μ μ14 := hF_μ12.trans (hC_μ14.mono (by decide +kernel) (by decide))
    have hr_μ14 : μ14.2.2 = μ.2.2 := (hC_μ14.2 rfl : μ14.2.2 = μ12.2.2).trans hr_μ12
    try rw [hr_μ14]
    refine ok_bv (fun μ16 e_μ16 => ?_)
    have hI_μ16 : IX μ16 := by rw [e_μ16]; exact IX_F hI_μ14 (rt_137_8 _)
    have hF_μ16 : Fr [(0, 30, 7), (0, 39, 1), (0, 39, 6), (0, 137, 6), (0, 137, 8), (0, 137, 9), (0, 137, 12), (1, 40, 0), (1, 42, 0), (1, 43, 0), (1, 45, 0), (1, 138, 0)] true μ μ16 := by rw [e_μ16]; exact Fr.put hF_μ14 (by decide +kernel)
    have v_μ16 : (μ16.1 137 8).toInt = r15.toInt := by rw [e_μ16, sF_v]
    have hr_μ16 : μ16.2.2 = μ.2.2 := (by rw [e_μ16]; rfl : μ16.2.2 = μ14.2.2).trans hr_μ14
    try rw [hr_μ16]
    have g17 := ti_lo (μ16.1 137 8)
    have g17h := ti_hi (μ16.1 137 8)
    refine ok_bw (k_X10_setBranch (2 : Int32) (μ16.1 137 8) μ16 hI_μ16 (by (try rw [hr_μ16]); omega)) ?_
    rintro μ18 ⟨hI_μ18, hC_μ18⟩
    have hF_μ18 : Fr [(0, 30, 7), (0, 39, 1), (0, 39, 6), (0, 137, 6), (0, 137, 8), (0, 137, 9), (0, 137, 12), (1, 40, 0), (1, 42, 0), (1, 43, 0), (1, 45, 0), (1, 138, 0)] true μ μ18 := hF_μ16.trans (hC_μ18.mono (by decide +kernel) (by decide))
    have hr_μ18 : μ18.2.2 = μ.2.2 := (hC_μ18.2 rfl : μ18.2.2 = μ16.2.2).trans hr_μ16
    try rw [hr_μ18]
    exact ok_some ⟨hI_μ18, hF_μ18⟩

set_option maxHeartbeats 4000000 in
set_option maxRecDepth 100000 in
theorem k_X5_setCell (a1 : Int32) (a2 : Int32) (a3 : Int32) (μ : Mem) (hI_μ : IX μ) (hc : 0 ≤ (a2).toInt) : ok (p_X5_setCell a1 a2 a3 μ) (fun q => IX q ∧ Fr [(1, 40, 0)] true μ q) := by
  have li0 : (0 : Int32).toInt = 0 := by decide
  have li1 : (1 : Int32).toInt = 1 := by decide
  have li8 : (8 : Int32).toInt = 8 := by decide
  have hF_μ : Fr [(1, 40, 0)] true μ μ := Fr.rf
  have hr_μ : μ.2.2 = μ.2.2 := rfl
  rw [p_X5_setCell_eq]
  have lo_a1 := ti_lo a1
  have hi_a1 := ti_hi a1
  have lo_a2 := ti_lo a2
  have hi_a2 := ti_hi a2
  have lo_a3 := ti_lo a3
  have hi_a3 := ti_hi a3
  refine ok_ite ?_ ?_
  · intro c1
    rw [ti_lt] at c1
    exact ok_some ⟨hI_μ, hF_μ⟩
  · intro c1
    rw [ti_lt] at c1
    have g2 := rg_39_1 hI_μ
    refine ok_ite ?_ ?_
    · intro c3
      rw [ti_le] at c3
      exact ok_some ⟨hI_μ, hF_μ⟩
    · intro c3
      rw [ti_le] at c3
      refine ok_ite ?_ ?_
      · intro c4
        rw [ti_le] at c4
        exact ok_some ⟨hI_μ, hF_μ⟩
      · intro c4
        rw [ti_le] at c4
        refine ok_gd (inb_iff.mpr (by (try rw [TI.e (e := ((a1 * (8 : Int32)) + a2)) (n := ((a1.toInt * 8) + a2.toInt)) (TI.add (TI.mul TI.rf (TI.lit (by decide)) (by omega) (by omega)) TI.rf (by omega) (by omega))]); omega)) ?_
        refine ok_bv (fun μ5 e_μ5 => ?_)
        have hI_μ5 : IX μ5 := by rw [e_μ5]; exact IX_F hI_μ (rta_40 _ _)
        have hF_μ5 : Fr [(1, 40, 0)] true μ μ5 := by rw [e_μ5]; exact Fr.puta hF_μ (by decide +kernel)
        have hr_μ5 : μ5.2.2 = μ.2.2 := (by rw [e_μ5]; rfl : μ5.2.2 = μ.2.2).trans hr_μ
        exact ok_some ⟨hI_μ5, hF_μ5⟩

set_option maxHeartbeats 4000000 in
set_option maxRecDepth 100000 in
theorem k_X5_endOf (a1 : Int32) (μ : Mem) (hI_μ : IX μ) : ok (p_X5_endOf a1 μ) (fun q => μ = q.2) := by
  have li0 : (0 : Int32).toInt = 0 := by decide
  have li1 : (1 : Int32).toInt = 1 := by decide
  have hF_μ : Fr [] true μ μ := Fr.rf
  have hr_μ : μ.2.2 = μ.2.2 := rfl
  rw [p_X5_endOf_eq]
  have lo_a1 := ti_lo a1
  have hi_a1 := ti_hi a1
  refine ok_bd (k_X5_isBlock a1 μ hI_μ) ?_
  rintro r2 μ1 ⟨hq9, p_r2⟩
  obtain rfl : μ = μ1 := hq9
  dsimp only at p_r2
  have lo_r2 := ti_lo r2
  have hi_r2 := ti_hi r2
  refine ok_ite ?_ ?_
  · intro c3
    rw [ti_eq] at c3
    exact ok_some rfl
  · intro c3
    rw [ti_eq] at c3
    refine ok_gd (inb_iff.mpr (by omega)) ?_
    exact ok_some rfl
