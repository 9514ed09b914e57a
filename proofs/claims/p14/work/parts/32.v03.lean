set_option maxHeartbeats 4000000 in
set_option maxRecDepth 100000 in
theorem k_X4_readChoice {nE : Nat} (RE : Int32 → Mem → Option Mem) (hRE : ∀ (z1 : Int32) (μ1 : Mem), IX μ1 → (0 ≤ (z1).toInt ∧ (z1).toInt ≤ 20 ∧ 20 - (z1).toInt < nE) → ok (RE z1 μ1) (fun q => IX q ∧ Fr [(0, 16, 2), (0, 16, 3), (0, 16, 6), (1, 17, 0), (2, 2, 1), (2, 2, 2), (3, 2, 1), (3, 2, 4), (3, 2, 5), (3, 2, 6)] true μ1 q)) (a1 : Int32) (μ : Mem) (hI_μ : IX μ) (hc : 0 ≤ (a1).toInt ∧ (a1).toInt < 20 ∧ 19 - (a1).toInt < nE) : ok (p_X4_readChoice RE a1 μ) (fun q => IX q ∧ Fr [(0, 16, 2), (0, 16, 3), (0, 16, 6), (1, 17, 0), (2, 2, 1), (2, 2, 2), (3, 2, 1), (3, 2, 4), (3, 2, 5), (3, 2, 6)] true μ q) := by
  have li0 : (0 : Int32).toInt = 0 := by decide
  have li1 : (1 : Int32).toInt = 1 := by decide
  have li6 : (6 : Int32).toInt = 6 := by decide
  have li7 : (7 : Int32).toInt = 7 := by decide
  have li8 : (8 : Int32).toInt = 8 := by decide
  have li40 : (40 : Int32).toInt = 40 := by decide
  have li41 : (41 : Int32).toInt = 41 := by decide
  have li44 : (44 : Int32).toInt = 44 := by decide
  have hF_μ : Fr [(0, 16, 2), (0, 16, 3), (0, 16, 6), (1, 17, 0), (2, 2, 1), (2, 2, 2), (3, 2, 1), (3, 2, 4), (3, 2, 5), (3, 2, 6)] true μ μ := Fr.rf
  have hr_μ : μ.2.2 = μ.2.2 := rfl
  rw [p_X4_readChoice_eq]
  have lo_a1 := ti_lo a1
  have hi_a1 := ti_hi a1
  refine ok_bd (k_X4_take (40 : Int32) μ hI_μ) ?_
  rintro r2 μ1 ⟨hI_μ1, hC_μ1, p_μ1⟩
  have hI_μ1 : IX μ1 := hI_μ1
  have hC_μ1 : Fr [(0, 16, 2), (0, 16, 3)] true μ μ1 := hC_μ1
  dsimp only at p_μ1
  have lo_r2 := ti_lo r2
  have hi_r2 := ti_hi r2
  have hF_μ1 : Fr [(0, 16, 2), (0, 16, 3), (0, 16, 6), (1, 17, 0), (2, 2, 1), (2, 2, 2), (3, 2, 1), (3, 2, 4), (3, 2, 5), (3, 2, 6)] true μ μ1 := hF_μ.trans (hC_μ1.mono (by decide +kernel) (by decide))
  have hr_μ1 : μ1.2.2 = μ.2.2 := (hC_μ1.2 rfl : μ1.2.2 = μ.2.2).trans hr_μ
  try rw [hr_μ1]
  refine ok_bw (hRE (a1 + (1 : Int32)) μ1 hI_μ1 (by (try rw [hr_μ1]); (try rw [TI.e (e := (a1 + (1 : Int32))) (n := (a1.toInt + 1)) (TI.add TI.rf (TI.lit (by decide)) (by omega) (by omega))]); omega)) ?_
  rintro μ3 ⟨hI_μ3, hC_μ3⟩
  have hF_μ3 : Fr [(0, 16, 2), (0, 16, 3), (0, 16, 6), (1, 17, 0), (2, 2, 1), (2, 2, 2), (3, 2, 1), (3, 2, 4), (3, 2, 5), (3, 2, 6)] true μ μ3 := hF_μ1.trans (hC_μ3.mono (by decide +kernel) (by decide))
  have hr_μ3 : μ3.2.2 = μ.2.2 := (hC_μ3.2 rfl : μ3.2.2 = μ1.2.2).trans hr_μ1
  try rw [hr_μ3]
  refine ok_bd (k_X4_take (44 : Int32) μ3 hI_μ3) ?_
  rintro r6 μ5 ⟨hI_μ5, hC_μ5, p_μ5⟩
  have hI_μ5 : IX μ5 := hI_μ5
  have hC_μ5 : Fr [(0, 16, 2), (0, 16, 3)] true μ3 μ5 := hC_μ5
  dsimp only at p_μ5
  have lo_r6 := ti_lo r6
  have hi_r6 := ti_hi r6
  have hF_μ5 : Fr [(0, 16, 2), (0, 16, 3), (0, 16, 6), (1, 17, 0), (2, 2, 1), (2, 2, 2), (3, 2, 1), (3, 2, 4), (3, 2, 5), (3, 2, 6)] true μ μ5 := hF_μ3.trans (hC_μ5.mono (by decide +kernel) (by decide))
  have hr_μ5 : μ5.2.2 = μ.2.2 := (hC_μ5.2 rfl : μ5.2.2 = μ3.2.2).trans hr_μ3
  try rw [hr_μ5]
  refine ok_bd (k_X3_add (sel 2 (μ.2.2 16 4)) (sel_2 _) (6 : Int32) (0 : Int32) (0 : Int32) μ5 hI_μ5 (by (try rw [hr_μ5]); omega)) ?_
  rintro r8 μ7 ⟨hI_μ7, hC_μ7⟩
  have hI_μ7 : IX μ7 := hI_μ7
  have hC_μ7 : Fr [(2, 2, 2), (3, 2, 4), (3, 2, 5), (3, 2, 6)] true μ5 μ7 := hC_μ7
  have lo_r8 := ti_lo r8
  have hi_r8 := ti_hi r8
  have hF_μ7 : Fr [(0, 16, 2), (0, 16, 3), (0, 16, 6), (1, 17, 0), (2, 2, 1), (2, 2, 2), (3, 2, 1), (3, 2, 4), (3, 2, 5), (3, 2, 6)] true μ μ7 := hF_μ5.trans (hC_μ7.mono (by decide +kernel) (by decide))
  have hr_μ7 : μ7.2.2 = μ.2.2 := (hC_μ7.2 rfl : μ7.2.2 = μ5.2.2).trans hr_μ5
  try rw [hr_μ7]
  refine ok_bw (hRE (a1 + (1 : Int32)) μ7 hI_μ7 (by (try rw [hr_μ7]); (try rw [TI.e (e := (a1 + (1 : Int32))) (n := (a1.toInt + 1)) (TI.add TI.rf (TI.lit (by decide)) (by omega) (by omega))]); omega)) ?_
  rintro μ9 ⟨hI_μ9, hC_μ9⟩
  have hF_μ9 : Fr [(0, 16, 2), (0, 16, 3), (0, 16, 6), (1, 17, 0), (2, 2, 1), (2, 2, 2), (3, 2, 1), (3, 2, 4), (3, 2, 5), (3, 2, 6)] true μ μ9 := hF_μ7.trans (hC_μ9.mono (by decide +kernel) (by decide))
  have hr_μ9 : μ9.2.2 = μ.2.2 := (hC_μ9.2 rfl : μ9.2.2 = μ7.2.2).trans hr_μ7
  try rw [hr_μ9]
  refine ok_bd (k_X4_take (44 : Int32) μ9 hI_μ9) ?_
  rintro r12 μ11 ⟨hI_μ11, hC_μ11, p_μ11⟩
  have hI_μ11 : IX μ11 := hI_μ11
  have hC_μ11 : Fr [(0, 16, 2), (0, 16, 3)] true μ9 μ11 := hC_μ11
  dsimp only at p_μ11
  have lo_r12 := ti_lo r12
  have hi_r12 := ti_hi r12
  have hF_μ11 : Fr [(0, 16, 2), (0, 16, 3), (0, 16, 6), (1, 17, 0), (2, 2, 1), (2, 2, 2), (3, 2, 1), (3, 2, 4), (3, 2, 5), (3, 2, 6)] true μ μ11 := hF_μ9.trans (hC_μ11.mono (by decide +kernel) (by decide))
  have hr_μ11 : μ11.2.2 = μ.2.2 := (hC_μ11.2 rfl : μ11.2.2 = μ9.2.2).trans hr_μ9
  try rw [hr_μ11]
  refine ok_bd (k_X3_add (sel 2 (μ.2.2 16 4)) (sel_2 _) (7 : Int32) (0 : Int32) (0 : Int32) μ11 hI_μ11 (by (try rw [hr_μ11]); omega)) ?_
  rintro r14 μ13 ⟨hI_μ13, hC_μ13⟩
  have hI_μ13 : IX μ13 := hI_μ13
  have hC_μ13 : Fr [(2, 2, 2), (3, 2, 4), (3, 2, 5), (3, 2, 6)] true μ11 μ13 := hC_μ13
  have lo_r14 := ti_lo r14
  have hi_r14 := ti_hi r14
  have hF_μ13 : Fr [(0, 16, 2), (0, 16, 3), (0, 16, 6), (1, 17, 0), (2, 2, 1), (2, 2, 2), (3, 2, 1), (3, 2, 4), (3, 2, 5), (3, 2, 6)] true μ μ13 := hF_μ11.trans (hC_μ13.mono (by decide +kernel) (by decide))
  have hr_μ13 : μ13.2.2 = μ.2.2 := (hC_μ13.2 rfl : μ13.2.2 = μ11.2.2).trans hr_μ11
  try rw [hr_μ13]
  refine ok_bw (k_X3_leadHere (sel 2 (μ.2.2 16 4)) (sel_2 _) r8 μ13 hI_μ13) ?_
  rintro μ15 ⟨hI_μ15, hC_μ15⟩
  have hF_μ15 : Fr [(0, 16, 2), (0, 16, 3), (0, 16, 6), (1, 17, 0), (2, 2, 1), (2, 2, 2), (3, 2, 1), (3, 2, 4), (3, 2, 5), (3, 2, 6)] true μ μ15 := hF_μ13.trans (hC_μ15.mono (by decide +kernel) (by decide))
  have hr_μ15 : μ15.2.2 = μ.2.2 := (hC_μ15.2 rfl : μ15.2.2 = μ13.2.2).trans hr_μ13
  try rw [hr_μ15]
  refine ok_bw (hRE (a1 + (1 : Int32)) μ15 hI_μ15 (by (try rw [hr_μ15]); (try rw [TI.e (e := (a1 + (1 : Int32))) (n := (a1.toInt + 1)) (TI.add TI.rf (TI.lit (by decide)) (by omega) (by omega))]); omega)) ?_
  rintro μ17 ⟨hI_μ17, hC_μ17⟩
  have hF_μ17 : Fr [(0, 16, 2), (0, 16, 3), (0, 16, 6), (1, 17, 0), (2, 2, 1), (2, 2, 2), (3, 2, 1), (3, 2, 4), (3, 2, 5), (3, 2, 6)] true μ μ17 := hF_μ15.trans (hC_μ17.mono (by decide +kernel) (by decide))
  have hr_μ17 : μ17.2.2 = μ.2.2 := (hC_μ17.2 rfl : μ17.2.2 = μ15.2.2).trans hr_μ15
  try rw [hr_μ17]
  refine ok_bd (k_X4_take (41 : Int32) μ17 hI_μ17) ?_
  rintro r20 μ19 ⟨hI_μ19, hC_μ19, p_μ19⟩
  have hI_μ19 : IX μ19 := hI_μ19
  have hC_μ19 : Fr [(0, 16, 2), (0, 16, 3)] true μ17 μ19 := hC_μ19
  dsimp only at p_μ19
  have lo_r20 := ti_lo r20
  have hi_r20 := ti_hi r20
  have hF_μ19 : Fr [(0, 16, 2), (0, 16, 3), (0, 16, 6), (1, 17, 0), (2, 2, 1), (2, 2, 2), (3, 2, 1), (3, 2, 4), (3, 2, 5), (3, 2, 6)] true μ μ19 := hF_μ17.trans (hC_μ19.mono (by decide +kernel) (by decide))
  have hr_μ19 : μ19.2.2 = μ.2.2 := (hC_μ19.2 rfl : μ19.2.2 = μ17.2.2).trans hr_μ17
  try rw [hr_μ19]
  refine ok_bd (k_X3_add (sel 2 (μ.2.2 16 4)) (sel_2 _) (8 : Int32) (0 : Int32) (0 : Int32) μ19 hI_μ19 (by (try rw [hr_μ19]); omega)) ?_
  rintro r22 μ21 ⟨hI_μ21, hC_μ21⟩
  have hI_μ21 : IX μ21 := hI_μ21
  have hC_μ21 : Fr [(2, 2, 2), (3, 2, 4), (3, 2, 5), (3, 2, 6)] true μ19 μ21 := hC_μ21
  have lo_r22 := ti_lo r22
  have hi_r22 := ti_hi r22
  have hF_μ21 : Fr [(0, 16, 2), (0, 16, 3), (0, 16, 6), (1, 17, 0), (2, 2, 1), (2, 2, 2), (3, 2, 1), (3, 2, 4), (3, 2, 5), (3, 2, 6)] true μ μ21 := hF_μ19.trans (hC_μ21.mono (by decide +kernel) (by decide))
  have hr_μ21 : μ21.2.2 = μ.2.2 := (hC_μ21.2 rfl : μ21.2.2 = μ19.2.2).trans hr_μ19
  try rw [hr_μ21]
  refine ok_bw (k_X3_leadHere (sel 2 (μ.2.2 16 4)) (sel_2 _) r14 μ21 hI_μ21) ?_
  rintro μ23 ⟨hI_μ23, hC_μ23⟩
  have hF_μ23 : Fr [(0, 16, 2), (0, 16, 3), (0, 16, 6), (1, 17, 0), (2, 2, 1), (2, 2, 2), (3, 2, 1), (3, 2, 4), (3, 2, 5), (3, 2, 6)] true μ μ23 := hF_μ21.trans (hC_μ23.mono (by decide +kernel) (by decide))
  have hr_μ23 : μ23.2.2 = μ.2.2 := (hC_μ23.2 rfl : μ23.2.2 = μ21.2.2).trans hr_μ21
  try rw [hr_μ23]
  exact ok_some ⟨hI_μ23, hF_μ23⟩

set_option maxHeartbeats 4000000 in
set_option maxRecDepth 100000 in
theorem k_X4_readPlace {nE : Nat} (RE : Int32 → Mem → Option Mem) (hRE : ∀ (z1 : Int32) (μ1 : Mem), IX μ1 → (0 ≤ (z1).toInt ∧ (z1).toInt ≤ 20 ∧ 20 - (z1).toInt < nE) → ok (RE z1 μ1) (fun q => IX q ∧ Fr [(0, 16, 2), (0, 16, 3), (0, 16, 6), (1, 17, 0), (2, 2, 1), (2, 2, 2), (3, 2, 1), (3, 2, 4), (3, 2, 5), (3, 2, 6)] true μ1 q)) (a1 : Int32) (a2 : Int32) (μ : Mem) (hI_μ : IX μ) (hc : 0 ≤ (a2).toInt ∧ (a2).toInt < 20 ∧ 19 - (a2).toInt < nE) : ok (p_X4_readPlace RE a1 a2 μ) (fun q => IX q ∧ Fr [(0, 16, 2), (0, 16, 3), (0, 16, 6), (1, 17, 0), (2, 2, 1), (2, 2, 2), (3, 2, 1), (3, 2, 4), (3, 2, 5), (3, 2, 6)] true μ q) := by
  have li0 : (0 : Int32).toInt = 0 := by decide
  have li1 : (1 : Int32).toInt = 1 := by decide
  have li5 : (5 : Int32).toInt = 5 := by decide
  have li8 : (8 : Int32).toInt = 8 := by decide
  have li10 : (10 : Int32).toInt = 10 := by decide
  have li11 : (11 : Int32).toInt = 11 := by decide
  have li48 : (48 : Int32).toInt = 48 := by decide
  have li95 : (95 : Int32).toInt = 95 := by decide
  have hF_μ : Fr [(0, 16, 2), (0, 16, 3), (0, 16, 6), (1, 17, 0), (2, 2, 1), (2, 2, 2), (3, 2, 1), (3, 2, 4), (3, 2, 5), (3, 2, 6)] true μ μ := Fr.rf
  have hr_μ : μ.2.2 = μ.2.2 := rfl
  rw [p_X4_readPlace_eq]
  have lo_a1 := ti_lo a1
  have hi_a1 := ti_hi a1
  have lo_a2 := ti_lo a2
  have hi_a2 := ti_hi a2
  refine ok_bd (k_X4_here  μ hI_μ) ?_
  rintro r2 μ1 hq9
  obtain rfl : μ = μ1 := hq9
  have lo_r2 := ti_lo r2
  have hi_r2 := ti_hi r2
  refine ok_bv (fun v3 ev3 => ?_)
  first | have tv3 : v3.toInt = (r2.toInt - 48) := (congrArg Int32.toInt ev3).trans (TI.e (n := (r2.toInt - 48)) (TI.sub TI.rf (TI.lit (by decide)) (by omega) (by omega))) | skip
  refine ok_ite ?_ ?_
  · intro c4
    rw [ti_lt] at c4
    have g5 := ti_lo (μ.1 16 2)
    have g5h := ti_hi (μ.1 16 2)
    refine ok_bw (k_X4_fail (μ.1 16 2) μ hI_μ) ?_
    rintro μ6 ⟨hI_μ6, hC_μ6⟩
    have hF_μ6 : Fr [(0, 16, 2), (0, 16, 3), (0, 16, 6), (1, 17, 0), (2, 2, 1), (2, 2, 2), (3, 2, 1), (3, 2, 4), (3, 2, 5), (3, 2, 6)] true μ μ6 := hF_μ.trans (hC_μ6.mono (by decide +kernel) (by decide))
    have hr_μ6 : μ6.2.2 = μ.2.2 := (hC_μ6.2 rfl : μ6.2.2 = μ.2.2).trans hr_μ
    try rw [hr_μ6]
    exact ok_some ⟨hI_μ6, hF_μ6⟩
  · intro c4
    rw [ti_lt] at c4
    refine ok_ite ?_ ?_
    · intro c8
      rw [ti_lt] at c8
      have g9 := ti_lo (μ.1 16 2)
      have g9h := ti_hi (μ.1 16 2)
      refine ok_bv (fun μ10 e_μ10 => ?_)
      have hI_μ10 : IX μ10 := by rw [e_μ10]; exact IX_F hI_μ (rt_16_2 _)
      have hF_μ10 : Fr [(0, 16, 2), (0, 16, 3), (0, 16, 6), (1, 17, 0), (2, 2, 1), (2, 2, 2), (3, 2, 1), (3, 2, 4), (3, 2, 5), (3, 2, 6)] true μ μ10 := by rw [e_μ10]; exact Fr.put hF_μ (by decide +kernel)
      have hr_μ10 : μ10.2.2 = μ.2.2 := (by rw [e_μ10]; rfl : μ10.2.2 = μ.2.2).trans hr_μ
      try rw [hr_μ10]
      refine ok_bd (k_X3_count (sel 2 (μ.2.2 16 4)) (sel_2 _) (5 : Int32) μ10 hI_μ10) ?_
      rintro r12 μ11 ⟨hI_μ11, hC_μ11⟩
      have hI_μ11 : IX μ11 := hI_μ11
      have hC_μ11 : Fr [(2, 2, 1), (3, 2, 1)] true μ10 μ11 := hC_μ11
      have lo_r12 := ti_lo r12
      have hi_r12 := ti_hi r12
      have hF_μ11 : Fr [(0, 16, 2), (0, 16, 3), (0, 16, 6), (1, 17, 0), (2, 2, 1), (2, 2, 2), (3, 2, 1), (3, 2, 4), (3, 2, 5), (3, 2, 6)] true μ μ11 := hF_μ10.trans (hC_μ11.mono (by decide +kernel) (by decide))
      have hr_μ11 : μ11.2.2 = μ.2.2 := (hC_μ11.2 rfl : μ11.2.2 = μ10.2.2).trans hr_μ10
      try rw [hr_μ11]
      refine ok_ite ?_ ?_
      · intro c13
        rw [ti_eq] at c13
        refine ok_bd (k_X3_add (sel 2 (μ.2.2 16 4)) (sel_2 _) (11 : Int32) v3 (0 : Int32) μ11 hI_μ11 (by (try rw [hr_μ11]); omega)) ?_
        rintro r15 μ14 ⟨hI_μ14, hC_μ14⟩
        have hI_μ14 : IX μ14 := hI_μ14
        have hC_μ14 : Fr [(2, 2, 2), (3, 2, 4), (3, 2, 5), (3, 2, 6)] true μ11 μ14 := hC_μ14
        have lo_r15 := ti_lo r15
        have hi_r15 := ti_hi r15
        have hF_μ14 : Fr [(0, 16, 2), (0, 16, 3), (0, 16, 6), (1, 17, 0), (2, 2, 1), (2, 2, 2), (3, 2, 1), (3, 2, 4), (3, 2, 5), (3, 2, 6)] true μ μ14 := hF_μ11.trans (hC_μ14.mono (by decide +kernel) (by decide))
        have hr_μ14 : μ14.2.2 = μ.2.2 := (hC_μ14.2 rfl : μ14.2.2 = μ11.2.2).trans hr_μ11
        try rw [hr_μ14]
        exact ok_some ⟨hI_μ14, hF_μ14⟩
      · intro c13
        rw [ti_eq] at c13
        refine ok_bw (hRE (a2 + (1 : Int32)) μ11 hI_μ11 (by (try rw [hr_μ11]); (try rw [TI.e (e := (a2 + (1 : Int32))) (n := (a2.toInt + 1)) (TI.add TI.rf (TI.lit (by decide)) (by omega) (by omega))]); omega)) ?_
        rintro μ16 ⟨hI_μ16, hC_μ16⟩
        have hF_μ16 : Fr [(0, 16, 2), (0, 16, 3), (0, 16, 6), (1, 17, 0), (2, 2, 1), (2, 2, 2), (3, 2, 1), (3, 2, 4), (3, 2, 5), (3, 2, 6)] true μ μ16 := hF_μ11.trans (hC_μ16.mono (by decide +kernel) (by decide))
        have hr_μ16 : μ16.2.2 = μ.2.2 := (hC_μ16.2 rfl : μ16.2.2 = μ11.2.2).trans hr_μ11
        try rw [hr_μ16]
        refine ok_bd (k_X3_add (sel 2 (μ.2.2 16 4)) (sel_2 _) (10 : Int32) v3 (0 : Int32) μ16 hI_μ16 (by (try rw [hr_μ16]); omega)) ?_
        rintro r19 μ18 ⟨hI_μ18, hC_μ18⟩
        have hI_μ18 : IX μ18 := hI_μ18
        have hC_μ18 : Fr [(2, 2, 2), (3, 2, 4), (3, 2, 5), (3, 2, 6)] true μ16 μ18 := hC_μ18
        have lo_r19 := ti_lo r19
        have hi_r19 := ti_hi r19
        have hF_μ18 : Fr [(0, 16, 2), (0, 16, 3), (0, 16, 6), (1, 17, 0), (2, 2, 1), (2, 2, 2), (3, 2, 1), (3, 2, 4), (3, 2, 5), (3, 2, 6)] true μ μ18 := hF_μ16.trans (hC_μ18.mono (by decide +kernel) (by decide))
        have hr_μ18 : μ18.2.2 = μ.2.2 := (hC_μ18.2 rfl : μ18.2.2 = μ16.2.2).trans hr_μ16
        try rw [hr_μ18]
        exact ok_some ⟨hI_μ18, hF_μ18⟩
    · intro c8
      rw [ti_lt] at c8
      have g20 := ti_lo (μ.1 16 2)
      have g20h := ti_hi (μ.1 16 2)
      refine ok_bw (k_X4_fail (μ.1 16 2) μ hI_μ) ?_
      rintro μ21 ⟨hI_μ21, hC_μ21⟩
      have hF_μ21 : Fr [(0, 16, 2), (0, 16, 3), (0, 16, 6), (1, 17, 0), (2, 2, 1), (2, 2, 2), (3, 2, 1), (3, 2, 4), (3, 2, 5), (3, 2, 6)] true μ μ21 := hF_μ.trans (hC_μ21.mono (by decide +kernel) (by decide))
      have hr_μ21 : μ21.2.2 = μ.2.2 := (hC_μ21.2 rfl : μ21.2.2 = μ.2.2).trans hr_μ
      try rw [hr_μ21]
      exact ok_some ⟨hI_μ21, hF_μ21⟩

set_option maxHeartbeats 4000000 in
set_option maxRecDepth 100000 in
theorem k_X4_readNaming {nE : Nat} (RE : Int32 → Mem → Option Mem) (hRE : ∀ (z1 : Int32) (μ1 : Mem), IX μ1 → (0 ≤ (z1).toInt ∧ (z1).toInt ≤ 20 ∧ 20 - (z1).toInt < nE) → ok (RE z1 μ1) (fun q => IX q ∧ Fr [(0, 16, 2), (0, 16, 3), (0, 16, 6), (1, 17, 0), (2, 2, 1), (2, 2, 2), (3, 2, 1), (3, 2, 4), (3, 2, 5), (3, 2, 6)] true μ1 q)) (a1 : Int32) (μ : Mem) (hI_μ : IX μ) (hc : 0 ≤ (a1).toInt ∧ (a1).toInt < 20 ∧ 19 - (a1).toInt < nE) : ok (p_X4_readNaming RE a1 μ) (fun q => IX q ∧ Fr [(0, 16, 2), (0, 16, 3), (0, 16, 6), (1, 17, 0), (2, 2, 1), (2, 2, 2), (3, 2, 1), (3, 2, 4), (3, 2, 5), (3, 2, 6)] true μ q) := by
  have li0 : (0 : Int32).toInt = 0 := by decide
  have li1 : (1 : Int32).toInt = 1 := by decide
  have li12 : (12 : Int32).toInt = 12 := by decide
  have li44 : (44 : Int32).toInt = 44 := by decide
  have li61 : (61 : Int32).toInt = 61 := by decide
  have hF_μ : Fr [(0, 16, 2), (0, 16, 3), (0, 16, 6), (1, 17, 0), (2, 2, 1), (2, 2, 2), (3, 2, 1), (3, 2, 4), (3, 2, 5), (3, 2, 6)] true μ μ := Fr.rf
  have hr_μ : μ.2.2 = μ.2.2 := rfl
  rw [p_X4_readNaming_eq]
  have lo_a1 := ti_lo a1
  have hi_a1 := ti_hi a1
  refine ok_bd (k_X4_here  μ hI_μ) ?_
  rintro r2 μ1 hq9
  obtain rfl : μ = μ1 := hq9
  have lo_r2 := ti_lo r2
  have hi_r2 := ti_hi r2
  refine ok_ite ?_ ?_
  · intro c3
    rw [ti_eq] at c3
    have g4 := ti_lo (μ.1 16 2)
    have g4h := ti_hi (μ.1 16 2)
    refine ok_bw (k_X4_fail (μ.1 16 2) μ hI_μ) ?_
    rintro μ5 ⟨hI_μ5, hC_μ5⟩
    have hF_μ5 : Fr [(0, 16, 2), (0, 16, 3), (0, 16, 6), (1, 17, 0), (2, 2, 1), (2, 2, 2), (3, 2, 1), (3, 2, 4), (3, 2, 5), (3, 2, 6)] true μ μ5 := hF_μ.trans (hC_μ5.mono (by decide +kernel) (by decide))
    have hr_μ5 : μ5.2.2 = μ.2.2 := (hC_μ5.2 rfl : μ5.2.2 = μ.2.2).trans hr_μ
    try rw [hr_μ5]
    exact ok_some ⟨hI_μ5, hF_μ5⟩
  · intro c3
    rw [ti_eq] at c3
    have g7 := ti_lo (μ.1 16 2)
    have g7h := ti_hi (μ.1 16 2)
    refine ok_bv (fun μ8 e_μ8 => ?_)
    have hI_μ8 : IX μ8 := by rw [e_μ8]; exact IX_F hI_μ (rt_16_2 _)
    have hF_μ8 : Fr [(0, 16, 2), (0, 16, 3), (0, 16, 6), (1, 17, 0), (2, 2, 1), (2, 2, 2), (3, 2, 1), (3, 2, 4), (3, 2, 5), (3, 2, 6)] true μ μ8 := by rw [e_μ8]; exact Fr.put hF_μ (by decide +kernel)
    have hr_μ8 : μ8.2.2 = μ.2.2 := (by rw [e_μ8]; rfl : μ8.2.2 = μ.2.2).trans hr_μ
    try rw [hr_μ8]
    refine ok_bd (k_X4_take (61 : Int32) μ8 hI_μ8) ?_
    rintro r10 μ9 ⟨hI_μ9, hC_μ9, p_μ9⟩
    have hI_μ9 : IX μ9 := hI_μ9
    have hC_μ9 : Fr [(0, 16, 2), (0, 16, 3)] true μ8 μ9 := hC_μ9
    dsimp only at p_μ9
    have lo_r10 := ti_lo r10
    have hi_r10 := ti_hi r10
    have hF_μ9 : Fr [(0, 16, 2), (0, 16, 3), (0, 16, 6), (1, 17, 0), (2, 2, 1), (2, 2, 2), (3, 2, 1), (3, 2, 4), (3, 2, 5), (3, 2, 6)] true μ μ9 := hF_μ8.trans (hC_μ9.mono (by decide +kernel) (by decide))
    have hr_μ9 : μ9.2.2 = μ.2.2 := (hC_μ9.2 rfl : μ9.2.2 = μ8.2.2).trans hr_μ8
    try rw [hr_μ9]
    refine ok_bw (hRE (a1 + (1 : Int32)) μ9 hI_μ9 (by (try rw [hr_μ9]); (try rw [TI.e (e := (a1 + (1 : Int32))) (n := (a1.toInt + 1)) (TI.add TI.rf (TI.lit (by decide)) (by omega) (by omega))]); omega)) ?_
    rintro μ11 ⟨hI_μ11, hC_μ11⟩
    have hF_μ11 : Fr [(0, 16, 2), (0, 16, 3), (0, 16, 6), (1, 17, 0), (2, 2, 1), (2, 2, 2), (3, 2, 1), (3, 2, 4), (3, 2, 5), (3, 2, 6)] true μ μ11 := hF_μ9.trans (hC_μ11.mono (by decide +kernel) (by decide))
    have hr_μ11 : μ11.2.2 = μ.2.2 := (hC_μ11.2 rfl : μ11.2.2 = μ9.2.2).trans hr_μ9
    try rw [hr_μ11]
    refine ok_bd (k_X4_take (44 : Int32) μ11 hI_μ11) ?_
    rintro r14 μ13 ⟨hI_μ13, hC_μ13, p_μ13⟩
    have hI_μ13 : IX μ13 := hI_μ13
    have hC_μ13 : Fr [(0, 16, 2), (0, 16, 3)] true μ11 μ13 := hC_μ13
    dsimp only at p_μ13
    have lo_r14 := ti_lo r14
    have hi_r14 := ti_hi r14
    have hF_μ13 : Fr [(0, 16, 2), (0, 16, 3), (0, 16, 6), (1, 17, 0), (2, 2, 1), (2, 2, 2), (3, 2, 1), (3, 2, 4), (3, 2, 5), (3, 2, 6)] true μ μ13 := hF_μ11.trans (hC_μ13.mono (by decide +kernel) (by decide))
    have hr_μ13 : μ13.2.2 = μ.2.2 := (hC_μ13.2 rfl : μ13.2.2 = μ11.2.2).trans hr_μ11
    try rw [hr_μ13]
    have g15 := rg_16_6 hI_μ13
    refine ok_bd (k_X3_add (sel 2 (μ.2.2 16 4)) (sel_2 _) (12 : Int32) (μ13.1 16 6) (0 : Int32) μ13 hI_μ13 (by (try rw [hr_μ13]); omega)) ?_
    rintro r17 μ16 ⟨hI_μ16, hC_μ16⟩
    have hI_μ16 : IX μ16 := hI_μ16
    have hC_μ16 : Fr [(2, 2, 2), (3, 2, 4), (3, 2, 5), (3, 2, 6)] true μ13 μ16 := hC_μ16
    have lo_r17 := ti_lo r17
    have hi_r17 := ti_hi r17
    have hF_μ16 : Fr [(0, 16, 2), (0, 16, 3), (0, 16, 6), (1, 17, 0), (2, 2, 1), (2, 2, 2), (3, 2, 1), (3, 2, 4), (3, 2, 5), (3, 2, 6)] true μ μ16 := hF_μ13.trans (hC_μ16.mono (by decide +kernel) (by decide))
    have hr_μ16 : μ16.2.2 = μ.2.2 := (hC_μ16.2 rfl : μ16.2.2 = μ13.2.2).trans hr_μ13
    try rw [hr_μ16]
    have g18 := rg_16_6 hI_μ16
    have f19 : (μ16.1 16 6).toInt = (μ13.1 16 6).toInt := congrArg Int32.toInt (hC_μ16.1 16 6 (by decide +kernel))
    refine ok_bv (fun v20 ev20 => ?_)
    have tv20 : v20.toInt = (μ16.1 16 6).toInt := congrArg Int32.toInt ev20
    refine ok_bw (k_X4_nameOne r2 μ16 hI_μ16) ?_
    rintro μ21 ⟨hI_μ21, hC_μ21⟩
    have hF_μ21 : Fr [(0, 16, 2), (0, 16, 3), (0, 16, 6), (1, 17, 0), (2, 2, 1), (2, 2, 2), (3, 2, 1), (3, 2, 4), (3, 2, 5), (3, 2, 6)] true μ μ21 := hF_μ16.trans (hC_μ21.mono (by decide +kernel) (by decide))
    have hr_μ21 : μ21.2.2 = μ.2.2 := (hC_μ21.2 rfl : μ21.2.2 = μ16.2.2).trans hr_μ16
    try rw [hr_μ21]
    refine ok_bw (hRE (a1 + (1 : Int32)) μ21 hI_μ21 (by (try rw [hr_μ21]); (try rw [TI.e (e := (a1 + (1 : Int32))) (n := (a1.toInt + 1)) (TI.add TI.rf (TI.lit (by decide)) (by omega) (by omega))]); omega)) ?_
    rintro μ23 ⟨hI_μ23, hC_μ23⟩
    have hF_μ23 : Fr [(0, 16, 2), (0, 16, 3), (0, 16, 6), (1, 17, 0), (2, 2, 1), (2, 2, 2), (3, 2, 1), (3, 2, 4), (3, 2, 5), (3, 2, 6)] true μ μ23 := hF_μ21.trans (hC_μ23.mono (by decide +kernel) (by decide))
    have hr_μ23 : μ23.2.2 = μ.2.2 := (hC_μ23.2 rfl : μ23.2.2 = μ21.2.2).trans hr_μ21
    try rw [hr_μ23]
    refine ok_bv (fun μ25 e_μ25 => ?_)
    have hI_μ25 : IX μ25 := by rw [e_μ25]; exact IX_F hI_μ23 (rp_16_6 (by omega))
    have hF_μ25 : Fr [(0, 16, 2), (0, 16, 3), (0, 16, 6), (1, 17, 0), (2, 2, 1), (2, 2, 2), (3, 2, 1), (3, 2, 4), (3, 2, 5), (3, 2, 6)] true μ μ25 := by rw [e_μ25]; exact Fr.put hF_μ23 (by decide +kernel)
    have v_μ25 : (μ25.1 16 6).toInt = v20.toInt := by rw [e_μ25, sF_v]
    have hr_μ25 : μ25.2.2 = μ.2.2 := (by rw [e_μ25]; rfl : μ25.2.2 = μ23.2.2).trans hr_μ23
    try rw [hr_μ25]
    exact ok_some ⟨hI_μ25, hF_μ25⟩

set_option maxHeartbeats 4000000 in
set_option maxRecDepth 100000 in
theorem k_X4_readSigned {nE : Nat} (RE : Int32 → Mem → Option Mem) (hRE : ∀ (z1 : Int32) (μ1 : Mem), IX μ1 → (0 ≤ (z1).toInt ∧ (z1).toInt ≤ 20 ∧ 20 - (z1).toInt < nE) → ok (RE z1 μ1) (fun q => IX q ∧ Fr [(0, 16, 2), (0, 16, 3), (0, 16, 6), (1, 17, 0), (2, 2, 1), (2, 2, 2), (3, 2, 1), (3, 2, 4), (3, 2, 5), (3, 2, 6)] true μ1 q)) (a1 : Int32) (a2 : Int32) (μ : Mem) (hI_μ : IX μ) (hc : 0 ≤ (a2).toInt ∧ (a2).toInt < 20 ∧ 19 - (a2).toInt < nE) : ok (p_X4_readSigned RE a1 a2 μ) (fun q => IX q ∧ Fr [(0, 16, 2), (0, 16, 3), (0, 16, 6), (1, 17, 0), (2, 2, 1), (2, 2, 2), (3, 2, 1), (3, 2, 4), (3, 2, 5), (3, 2, 6)] true μ q) := by
  have li0 : (0 : Int32).toInt = 0 := by decide
  have li1 : (1 : Int32).toInt = 1 := by decide
  have li3 : (3 : Int32).toInt = 3 := by decide
  have li4 : (4 : Int32).toInt = 4 := by decide
  have li5 : (5 : Int32).toInt = 5 := by decide
  have li9 : (9 : Int32).toInt = 9 := by decide
  have li33 : (33 : Int32).toInt = 33 := by decide
  have li35 : (35 : Int32).toInt = 35 := by decide
  have li36 : (36 : Int32).toInt = 36 := by decide
  have li38 : (38 : Int32).toInt = 38 := by decide
  have li40 : (40 : Int32).toInt = 40 := by decide
  have li58 : (58 : Int32).toInt = 58 := by decide
  have li63 : (63 : Int32).toInt = 63 := by decide
  have li64 : (64 : Int32).toInt = 64 := by decide
  have li91 : (91 : Int32).toInt = 91 := by decide
  have li93 : (93 : Int32).toInt = 93 := by decide
  have li94 : (94 : Int32).toInt = 94 := by decide
  have li95 : (95 : Int32).toInt = 95 := by decide
  have li126 : (126 : Int32).toInt = 126 := by decide
  have hF_μ : Fr [(0, 16, 2), (0, 16, 3), (0, 16, 6), (1, 17, 0), (2, 2, 1), (2, 2, 2), (3, 2, 1), (3, 2, 4), (3, 2, 5), (3, 2, 6)] true μ μ := Fr.rf
  have hr_μ : μ.2.2 = μ.2.2 := rfl
  rw [p_X4_readSigned_eq]
  have lo_a1 := ti_lo a1
  have hi_a1 := ti_hi a1
  have lo_a2 := ti_lo a2
  have hi_a2 := ti_hi a2
  have g1 := ti_lo (μ.1 16 2)
  have g1h := ti_hi (μ.1 16 2)
  refine ok_bv (fun v2 ev2 => ?_)
  have tv2 : v2.toInt = (μ.1 16 2).toInt := congrArg Int32.toInt ev2
  refine ok_bv (fun μ3 e_μ3 => ?_)
  have hI_μ3 : IX μ3 := by rw [e_μ3]; exact IX_F hI_μ (rt_16_2 _)
  have hF_μ3 : Fr [(0, 16, 2), (0, 16, 3), (0, 16, 6), (1, 17, 0), (2, 2, 1), (2, 2, 2), (3, 2, 1), (3, 2, 4), (3, 2, 5), (3, 2, 6)] true μ μ3 := by rw [e_μ3]; exact Fr.put hF_μ (by decide +kernel)
  have hr_μ3 : μ3.2.2 = μ.2.2 := (by rw [e_μ3]; rfl : μ3.2.2 = μ.2.2).trans hr_μ
  try rw [hr_μ3]
  refine ok_ite ?_ ?_
  · intro c5
    rw [ti_eq] at c5
    refine ok_bd (k_X3_count (sel 2 (μ.2.2 16 4)) (sel_2 _) (4 : Int32) μ3 hI_μ3) ?_
    rintro r7 μ6 ⟨hI_μ6, hC_μ6⟩
    have hI_μ6 : IX μ6 := hI_μ6
    have hC_μ6 : Fr [(2, 2, 1), (3, 2, 1)] true μ3 μ6 := hC_μ6
    have lo_r7 := ti_lo r7
    have hi_r7 := ti_hi r7
    have hF_μ6 : Fr [(0, 16, 2), (0, 16, 3), (0, 16, 6), (1, 17, 0), (2, 2, 1), (2, 2, 2), (3, 2, 1), (3, 2, 4), (3, 2, 5), (3, 2, 6)] true μ μ6 := hF_μ3.trans (hC_μ6.mono (by decide +kernel) (by decide))
    have hr_μ6 : μ6.2.2 = μ.2.2 := (hC_μ6.2 rfl : μ6.2.2 = μ3.2.2).trans hr_μ3
    try rw [hr_μ6]
    refine ok_bw (hRE (a2 + (1 : Int32)) μ6 hI_μ6 (by (try rw [hr_μ6]); (try rw [TI.e (e := (a2 + (1 : Int32))) (n := (a2.toInt + 1)) (TI.add TI.rf (TI.lit (by decide)) (by omega) (by omega))]); omega)) ?_
    rintro μ8 ⟨hI_μ8, hC_μ8⟩
    have hF_μ8 : Fr [(0, 16, 2), (0, 16, 3), (0, 16, 6), (1, 17, 0), (2, 2, 1), (2, 2, 2), (3, 2, 1), (3, 2, 4), (3, 2, 5), (3, 2, 6)] true μ μ8 := hF_μ6.trans (hC_μ8.mono (by decide +kernel) (by decide))
    have hr_μ8 : μ8.2.2 = μ.2.2 := (hC_μ8.2 rfl : μ8.2.2 = μ6.2.2).trans hr_μ6
    try rw [hr_μ8]
    refine ok_bd (k_X3_add (sel 2 (μ.2.2 16 4)) (sel_2 _) (9 : Int32) (0 : Int32) (0 : Int32) μ8 hI_μ8 (by (try rw [hr_μ8]); omega)) ?_
    rintro r11 μ10 ⟨hI_μ10, hC_μ10⟩
    have hI_μ10 : IX μ10 := hI_μ10
    have hC_μ10 : Fr [(2, 2, 2), (3, 2, 4), (3, 2, 5), (3, 2, 6)] true μ8 μ10 := hC_μ10
    have lo_r11 := ti_lo r11
    have hi_r11 := ti_hi r11
    have hF_μ10 : Fr [(0, 16, 2), (0, 16, 3), (0, 16, 6), (1, 17, 0), (2, 2, 1), (2, 2, 2), (3, 2, 1), (3, 2, 4), (3, 2, 5), (3, 2, 6)] true μ μ10 := hF_μ8.trans (hC_μ10.mono (by decide +kernel) (by decide))
    have hr_μ10 : μ10.2.2 = μ.2.2 := (hC_μ10.2 rfl : μ10.2.2 = μ8.2.2).trans hr_μ8
    try rw [hr_μ10]
    exact ok_some ⟨hI_μ10, hF_μ10⟩
  intro c5
  rw [ti_eq] at c5
  refine ok_ite ?_ ?_
  · intro c12
    rw [ti_eq] at c12
    refine ok_bw (hRE (a2 + (1 : Int32)) μ3 hI_μ3 (by (try rw [hr_μ3]); (try rw [TI.e (e := (a2 + (1 : Int32))) (n := (a2.toInt + 1)) (TI.add TI.rf (TI.lit (by decide)) (by omega) (by omega))]); omega)) ?_
    rintro μ13 ⟨hI_μ13, hC_μ13⟩
    have hF_μ13 : Fr [(0, 16, 2), (0, 16, 3), (0, 16, 6), (1, 17, 0), (2, 2, 1), (2, 2, 2), (3, 2, 1), (3, 2, 4), (3, 2, 5), (3, 2, 6)] true μ μ13 := hF_μ3.trans (hC_μ13.mono (by decide +kernel) (by decide))
    have hr_μ13 : μ13.2.2 = μ.2.2 := (hC_μ13.2 rfl : μ13.2.2 = μ3.2.2).trans hr_μ3
    try rw [hr_μ13]
    refine ok_bd (k_X3_add (sel 2 (μ.2.2 16 4)) (sel_2 _) (3 : Int32) a1 (0 : Int32) μ13 hI_μ13 (by (try rw [hr_μ13]); omega)) ?_
    rintro r16 μ15 ⟨hI_μ15, hC_μ15⟩
    have hI_μ15 : IX μ15 := hI_μ15
    have hC_μ15 : Fr [(2, 2, 2), (3, 2, 4), (3, 2, 5), (3, 2, 6)] true μ13 μ15 := hC_μ15
    have lo_r16 := ti_lo r16
    have hi_r16 := ti_hi r16
    have hF_μ15 : Fr [(0, 16, 2), (0, 16, 3), (0, 16, 6), (1, 17, 0), (2, 2, 1), (2, 2, 2), (3, 2, 1), (3, 2, 4), (3, 2, 5), (3, 2, 6)] true μ μ15 := hF_μ13.trans (hC_μ15.mono (by decide +kernel) (by decide))
    have hr_μ15 : μ15.2.2 = μ.2.2 := (hC_μ15.2 rfl : μ15.2.2 = μ13.2.2).trans hr_μ13
    try rw [hr_μ15]
    exact ok_some ⟨hI_μ15, hF_μ15⟩
  intro c12
  rw [ti_eq] at c12
  refine ok_ite ?_ ?_
  · intro c17
    rw [ti_eq] at c17
    refine ok_bw (hRE (a2 + (1 : Int32)) μ3 hI_μ3 (by (try rw [hr_μ3]); (try rw [TI.e (e := (a2 + (1 : Int32))) (n := (a2.toInt + 1)) (TI.add TI.rf (TI.lit (by decide)) (by omega) (by omega))]); omega)) ?_
    rintro μ18 ⟨hI_μ18, hC_μ18⟩
    have hF_μ18 : Fr [(0, 16, 2), (0, 16, 3), (0, 16, 6), (1, 17, 0), (2, 2, 1), (2, 2, 2), (3, 2, 1), (3, 2, 4), (3, 2, 5), (3, 2, 6)] true μ μ18 := hF_μ3.trans (hC_μ18.mono (by decide +kernel) (by decide))
    have hr_μ18 : μ18.2.2 = μ.2.2 := (hC_μ18.2 rfl : μ18.2.2 = μ3.2.2).trans hr_μ3
    try rw [hr_μ18]
    refine ok_bd (k_X3_add (sel 2 (μ.2.2 16 4)) (sel_2 _) (3 : Int32) a1 (0 : Int32) μ18 hI_μ18 (by (try rw [hr_μ18]); omega)) ?_
    rintro r21 μ20 ⟨hI_μ20, hC_μ20⟩
    have hI_μ20 : IX μ20 := hI_μ20
    have hC_μ20 : Fr [(2, 2, 2), (3, 2, 4), (3, 2, 5), (3, 2, 6)] true μ18 μ20 := hC_μ20
    have lo_r21 := ti_lo r21
    have hi_r21 := ti_hi r21
    have hF_μ20 : Fr [(0, 16, 2), (0, 16, 3), (0, 16, 6), (1, 17, 0), (2, 2, 1), (2, 2, 2), (3, 2, 1), (3, 2, 4), (3, 2, 5), (3, 2, 6)] true μ μ20 := hF_μ18.trans (hC_μ20.mono (by decide +kernel) (by decide))
    have hr_μ20 : μ20.2.2 = μ.2.2 := (hC_μ20.2 rfl : μ20.2.2 = μ18.2.2).trans hr_μ18
    try rw [hr_μ20]
    exact ok_some ⟨hI_μ20, hF_μ20⟩
  intro c17
  rw [ti_eq] at c17
  refine ok_ite ?_ ?_
  · intro c22
    rw [ti_eq] at c22
    refine ok_bw (k_X4_readPlace RE hRE a1 a2 μ3 hI_μ3 (by (try rw [hr_μ3]); omega)) ?_
    rintro μ23 ⟨hI_μ23, hC_μ23⟩
    have hF_μ23 : Fr [(0, 16, 2), (0, 16, 3), (0, 16, 6), (1, 17, 0), (2, 2, 1), (2, 2, 2), (3, 2, 1), (3, 2, 4), (3, 2, 5), (3, 2, 6)] true μ μ23 := hF_μ3.trans (hC_μ23.mono (by decide +kernel) (by decide))
    have hr_μ23 : μ23.2.2 = μ.2.2 := (hC_μ23.2 rfl : μ23.2.2 = μ3.2.2).trans hr_μ3
    try rw [hr_μ23]
    exact ok_some ⟨hI_μ23, hF_μ23⟩
  intro c22
  rw [ti_eq] at c22
  refine ok_ite ?_ ?_
  · intro c25
    rw [ti_eq] at c25
    refine ok_bw (k_X4_readReckoned RE hRE a2 μ3 hI_μ3 (by (try rw [hr_μ3]); omega)) ?_
    rintro μ26 ⟨hI_μ26, hC_μ26⟩
    have hF_μ26 : Fr [(0, 16, 2), (0, 16, 3), (0, 16, 6), (1, 17, 0), (2, 2, 1), (2, 2, 2), (3, 2, 1), (3, 2, 4), (3, 2, 5), (3, 2, 6)] true μ μ26 := hF_μ3.trans (hC_μ26.mono (by decide +kernel) (by decide))
    have hr_μ26 : μ26.2.2 = μ.2.2 := (hC_μ26.2 rfl : μ26.2.2 = μ3.2.2).trans hr_μ3
    try rw [hr_μ26]
    exact ok_some ⟨hI_μ26, hF_μ26⟩
  intro c25
  rw [ti_eq] at c25
  refine ok_ite ?_ ?_
  · intro c28
    rw [ti_eq] at c28
    refine ok_bw (k_X4_readNaming RE hRE a2 μ3 hI_μ3 (by (try rw [hr_μ3]); omega)) ?_
    rintro μ29 ⟨hI_μ29, hC_μ29⟩
    have hF_μ29 : Fr [(0, 16, 2), (0, 16, 3), (0, 16, 6), (1, 17, 0), (2, 2, 1), (2, 2, 2), (3, 2, 1), (3, 2, 4), (3, 2, 5), (3, 2, 6)] true μ μ29 := hF_μ3.trans (hC_μ29.mono (by decide +kernel) (by decide))
    have hr_μ29 : μ29.2.2 = μ.2.2 := (hC_μ29.2 rfl : μ29.2.2 = μ3.2.2).trans hr_μ3
    try rw [hr_μ29]
    exact ok_some ⟨hI_μ29, hF_μ29⟩
  intro c28
  rw [ti_eq] at c28
  refine ok_ite ?_ ?_
  · intro c31
    rw [ti_eq] at c31
    refine ok_bw (k_X4_readChoice RE hRE a2 μ3 hI_μ3 (by (try rw [hr_μ3]); omega)) ?_
    rintro μ32 ⟨hI_μ32, hC_μ32⟩
    have hF_μ32 : Fr [(0, 16, 2), (0, 16, 3), (0, 16, 6), (1, 17, 0), (2, 2, 1), (2, 2, 2), (3, 2, 1), (3, 2, 4), (3, 2, 5), (3, 2, 6)] true μ μ32 := hF_μ3.trans (hC_μ32.mono (by decide +kernel) (by decide))
    have hr_μ32 : μ32.2.2 = μ.2.2 := (hC_μ32.2 rfl : μ32.2.2 = μ3.2.2).trans hr_μ3
    try rw [hr_μ32]
    exact ok_some ⟨hI_μ32, hF_μ32⟩
  intro c31
  rw [ti_eq] at c31
  refine ok_ite ?_ ?_
  · intro c34
    rw [ti_eq] at c34
    refine ok_bw (hRE (a2 + (1 : Int32)) μ3 hI_μ3 (by (try rw [hr_μ3]); (try rw [TI.e (e := (a2 + (1 : Int32))) (n := (a2.toInt + 1)) (TI.add TI.rf (TI.lit (by decide)) (by omega) (by omega))]); omega)) ?_
    rintro μ35 ⟨hI_μ35, hC_μ35⟩
    have hF_μ35 : Fr [(0, 16, 2), (0, 16, 3), (0, 16, 6), (1, 17, 0), (2, 2, 1), (2, 2, 2), (3, 2, 1), (3, 2, 4), (3, 2, 5), (3, 2, 6)] true μ μ35 := hF_μ3.trans (hC_μ35.mono (by decide +kernel) (by decide))
    have hr_μ35 : μ35.2.2 = μ.2.2 := (hC_μ35.2 rfl : μ35.2.2 = μ3.2.2).trans hr_μ3
    try rw [hr_μ35]
    refine ok_bd (k_X3_add (sel 2 (μ.2.2 16 4)) (sel_2 _) (4 : Int32) a1 (0 : Int32) μ35 hI_μ35 (by (try rw [hr_μ35]); omega)) ?_
    rintro r38 μ37 ⟨hI_μ37, hC_μ37⟩
    have hI_μ37 : IX μ37 := hI_μ37
    have hC_μ37 : Fr [(2, 2, 2), (3, 2, 4), (3, 2, 5), (3, 2, 6)] true μ35 μ37 := hC_μ37
    have lo_r38 := ti_lo r38
    have hi_r38 := ti_hi r38
    have hF_μ37 : Fr [(0, 16, 2), (0, 16, 3), (0, 16, 6), (1, 17, 0), (2, 2, 1), (2, 2, 2), (3, 2, 1), (3, 2, 4), (3, 2, 5), (3, 2, 6)] true μ μ37 := hF_μ35.trans (hC_μ37.mono (by decide +kernel) (by decide))
    have hr_μ37 : μ37.2.2 = μ.2.2 := (hC_μ37.2 rfl : μ37.2.2 = μ35.2.2).trans hr_μ35
    try rw [hr_μ37]
    exact ok_some ⟨hI_μ37, hF_μ37⟩
  intro c34
  rw [ti_eq] at c34
  refine ok_ite ?_ ?_
  · intro c39
    rw [ti_eq] at c39
    refine ok_bw (k_X4_readTwo RE hRE a2 (93 : Int32) μ3 hI_μ3 (by (try rw [hr_μ3]); omega)) ?_
    rintro μ40 ⟨hI_μ40, hC_μ40⟩
    have hF_μ40 : Fr [(0, 16, 2), (0, 16, 3), (0, 16, 6), (1, 17, 0), (2, 2, 1), (2, 2, 2), (3, 2, 1), (3, 2, 4), (3, 2, 5), (3, 2, 6)] true μ μ40 := hF_μ3.trans (hC_μ40.mono (by decide +kernel) (by decide))
    have hr_μ40 : μ40.2.2 = μ.2.2 := (hC_μ40.2 rfl : μ40.2.2 = μ3.2.2).trans hr_μ3
    try rw [hr_μ40]
    refine ok_bd (k_X3_add (sel 2 (μ.2.2 16 4)) (sel_2 _) (5 : Int32) (0 : Int32) (0 : Int32) μ40 hI_μ40 (by (try rw [hr_μ40]); omega)) ?_
    rintro r43 μ42 ⟨hI_μ42, hC_μ42⟩
    have hI_μ42 : IX μ42 := hI_μ42
    have hC_μ42 : Fr [(2, 2, 2), (3, 2, 4), (3, 2, 5), (3, 2, 6)] true μ40 μ42 := hC_μ42
    have lo_r43 := ti_lo r43
    have hi_r43 := ti_hi r43
    have hF_μ42 : Fr [(0, 16, 2), (0, 16, 3), (0, 16, 6), (1, 17, 0), (2, 2, 1), (2, 2, 2), (3, 2, 1), (3, 2, 4), (3, 2, 5), (3, 2, 6)] true μ μ42 := hF_μ40.trans (hC_μ42.mono (by decide +kernel) (by decide))
    have hr_μ42 : μ42.2.2 = μ.2.2 := (hC_μ42.2 rfl : μ42.2.2 = μ40.2.2).trans hr_μ40
    try rw [hr_μ42]
    exact ok_some ⟨hI_μ42, hF_μ42⟩
  intro c39
  rw [ti_eq] at c39
  refine ok_ite ?_ ?_
  · intro c44
    rw [ti_eq] at c44
    refine ok_bw (hRE (a2 + (1 : Int32)) μ3 hI_μ3 (by (try rw [hr_μ3]); (try rw [TI.e (e := (a2 + (1 : Int32))) (n := (a2.toInt + 1)) (TI.add TI.rf (TI.lit (by decide)) (by omega) (by omega))]); omega)) ?_
    rintro μ45 ⟨hI_μ45, hC_μ45⟩
    have hF_μ45 : Fr [(0, 16, 2), (0, 16, 3), (0, 16, 6), (1, 17, 0), (2, 2, 1), (2, 2, 2), (3, 2, 1), (3, 2, 4), (3, 2, 5), (3, 2, 6)] true μ μ45 := hF_μ3.trans (hC_μ45.mono (by decide +kernel) (by decide))
    have hr_μ45 : μ45.2.2 = μ.2.2 := (hC_μ45.2 rfl : μ45.2.2 = μ3.2.2).trans hr_μ3
    try rw [hr_μ45]
    refine ok_bd (k_X3_add (sel 2 (μ.2.2 16 4)) (sel_2 _) (3 : Int32) a1 (0 : Int32) μ45 hI_μ45 (by (try rw [hr_μ45]); omega)) ?_
    rintro r48 μ47 ⟨hI_μ47, hC_μ47⟩
    have hI_μ47 : IX μ47 := hI_μ47
    have hC_μ47 : Fr [(2, 2, 2), (3, 2, 4), (3, 2, 5), (3, 2, 6)] true μ45 μ47 := hC_μ47
    have lo_r48 := ti_lo r48
    have hi_r48 := ti_hi r48
    have hF_μ47 : Fr [(0, 16, 2), (0, 16, 3), (0, 16, 6), (1, 17, 0), (2, 2, 1), (2, 2, 2), (3, 2, 1), (3, 2, 4), (3, 2, 5), (3, 2, 6)] true μ μ47 := hF_μ45.trans (hC_μ47.mono (by decide +kernel) (by decide))
    have hr_μ47 : μ47.2.2 = μ.2.2 := (hC_μ47.2 rfl : μ47.2.2 = μ45.2.2).trans hr_μ45
    try rw [hr_μ47]
    exact ok_some ⟨hI_μ47, hF_μ47⟩
  intro c44
  rw [ti_eq] at c44
  refine ok_ite ?_ ?_
  · intro c49
    rw [ti_eq] at c49
    refine ok_bw (k_X4_readPlace RE hRE a1 a2 μ3 hI_μ3 (by (try rw [hr_μ3]); omega)) ?_
    rintro μ50 ⟨hI_μ50, hC_μ50⟩
    have hF_μ50 : Fr [(0, 16, 2), (0, 16, 3), (0, 16, 6), (1, 17, 0), (2, 2, 1), (2, 2, 2), (3, 2, 1), (3, 2, 4), (3, 2, 5), (3, 2, 6)] true μ μ50 := hF_μ3.trans (hC_μ50.mono (by decide +kernel) (by decide))
    have hr_μ50 : μ50.2.2 = μ.2.2 := (hC_μ50.2 rfl : μ50.2.2 = μ3.2.2).trans hr_μ3
    try rw [hr_μ50]
    exact ok_some ⟨hI_μ50, hF_μ50⟩
  intro c49
  rw [ti_eq] at c49
  refine ok_ite ?_ ?_
  · intro c52
    rw [ti_eq] at c52
    refine ok_bw (hRE (a2 + (1 : Int32)) μ3 hI_μ3 (by (try rw [hr_μ3]); (try rw [TI.e (e := (a2 + (1 : Int32))) (n := (a2.toInt + 1)) (TI.add TI.rf (TI.lit (by decide)) (by omega) (by omega))]); omega)) ?_
    rintro μ53 ⟨hI_μ53, hC_μ53⟩
    have hF_μ53 : Fr [(0, 16, 2), (0, 16, 3), (0, 16, 6), (1, 17, 0), (2, 2, 1), (2, 2, 2), (3, 2, 1), (3, 2, 4), (3, 2, 5), (3, 2, 6)] true μ μ53 := hF_μ3.trans (hC_μ53.mono (by decide +kernel) (by decide))
    have hr_μ53 : μ53.2.2 = μ.2.2 := (hC_μ53.2 rfl : μ53.2.2 = μ3.2.2).trans hr_μ3
    try rw [hr_μ53]
    refine ok_bd (k_X3_add (sel 2 (μ.2.2 16 4)) (sel_2 _) (4 : Int32) a1 (0 : Int32) μ53 hI_μ53 (by (try rw [hr_μ53]); omega)) ?_
    rintro r56 μ55 ⟨hI_μ55, hC_μ55⟩
    have hI_μ55 : IX μ55 := hI_μ55
    have hC_μ55 : Fr [(2, 2, 2), (3, 2, 4), (3, 2, 5), (3, 2, 6)] true μ53 μ55 := hC_μ55
    have lo_r56 := ti_lo r56
    have hi_r56 := ti_hi r56
    have hF_μ55 : Fr [(0, 16, 2), (0, 16, 3), (0, 16, 6), (1, 17, 0), (2, 2, 1), (2, 2, 2), (3, 2, 1), (3, 2, 4), (3, 2, 5), (3, 2, 6)] true μ μ55 := hF_μ53.trans (hC_μ55.mono (by decide +kernel) (by decide))
    have hr_μ55 : μ55.2.2 = μ.2.2 := (hC_μ55.2 rfl : μ55.2.2 = μ53.2.2).trans hr_μ53
    try rw [hr_μ55]
    exact ok_some ⟨hI_μ55, hF_μ55⟩
  intro c52
  rw [ti_eq] at c52
  refine ok_bw (k_X4_fail v2 μ3 hI_μ3) ?_
  rintro μ57 ⟨hI_μ57, hC_μ57⟩
  have hF_μ57 : Fr [(0, 16, 2), (0, 16, 3), (0, 16, 6), (1, 17, 0), (2, 2, 1), (2, 2, 2), (3, 2, 1), (3, 2, 4), (3, 2, 5), (3, 2, 6)] true μ μ57 := hF_μ3.trans (hC_μ57.mono (by decide +kernel) (by decide))
  have hr_μ57 : μ57.2.2 = μ.2.2 := (hC_μ57.2 rfl : μ57.2.2 = μ3.2.2).trans hr_μ3
  try rw [hr_μ57]
  exact ok_some ⟨hI_μ57, hF_μ57⟩

set_option maxHeartbeats 4000000 in
set_option maxRecDepth 100000 in
theorem k_X4_readExpression {nE : Nat} (RE : Int32 → Mem → Option Mem) (hRE : ∀ (z1 : Int32) (μ1 : Mem), IX μ1 → (0 ≤ (z1).toInt ∧ (z1).toInt ≤ 20 ∧ 20 - (z1).toInt < nE) → ok (RE z1 μ1) (fun q => IX q ∧ Fr [(0, 16, 2), (0, 16, 3), (0, 16, 6), (1, 17, 0), (2, 2, 1), (2, 2, 2), (3, 2, 1), (3, 2, 4), (3, 2, 5), (3, 2, 6)] true μ1 q)) (a1 : Int32) (μ : Mem) (hI_μ : IX μ) (hc : 0 ≤ (a1).toInt ∧ (a1).toInt ≤ 20 ∧ 20 - (a1).toInt < nE + 1) : ok (p_X4_readExpression RE a1 μ) (fun q => IX q ∧ Fr [(0, 16, 2), (0, 16, 3), (0, 16, 6), (1, 17, 0), (2, 2, 1), (2, 2, 2), (3, 2, 1), (3, 2, 4), (3, 2, 5), (3, 2, 6)] true μ q) := by
  have li0 : (0 : Int32).toInt = 0 := by decide
  have li1 : (1 : Int32).toInt = 1 := by decide
  have li2 : (2 : Int32).toInt = 2 := by decide
  have li20 : (20 : Int32).toInt = 20 := by decide
  have li80 : (80 : Int32).toInt = 80 := by decide
  have hF_μ : Fr [(0, 16, 2), (0, 16, 3), (0, 16, 6), (1, 17, 0), (2, 2, 1), (2, 2, 2), (3, 2, 1), (3, 2, 4), (3, 2, 5), (3, 2, 6)] true μ μ := Fr.rf
  have hr_μ : μ.2.2 = μ.2.2 := rfl
  rw [p_X4_readExpression_eq]
  have lo_a1 := ti_lo a1
  have hi_a1 := ti_hi a1
  refine ok_bd (k_X4_isWell  μ hI_μ) ?_
  rintro r2 μ1 ⟨hq9, p_r2⟩
  obtain rfl : μ = μ1 := hq9
  dsimp only at p_r2
  have lo_r2 := ti_lo r2
  have hi_r2 := ti_hi r2
  refine ok_ite ?_ ?_
  · intro c3
    rw [ti_eq] at c3
    exact ok_some ⟨hI_μ, hF_μ⟩
  · intro c3
    rw [ti_eq] at c3
    refine ok_bd (k_X4_here  μ hI_μ) ?_
    rintro r5 μ4 hq9
    obtain rfl : μ = μ4 := hq9
    have lo_r5 := ti_lo r5
    have hi_r5 := ti_hi r5
    refine ok_ite ?_ ?_
    · intro c6
      rw [ti_le] at c6
      have g7 := ti_lo (μ.1 16 2)
      have g7h := ti_hi (μ.1 16 2)
      refine ok_bw (k_X4_fail (μ.1 16 2) μ hI_μ) ?_
      rintro μ8 ⟨hI_μ8, hC_μ8⟩
      have hF_μ8 : Fr [(0, 16, 2), (0, 16, 3), (0, 16, 6), (1, 17, 0), (2, 2, 1), (2, 2, 2), (3, 2, 1), (3, 2, 4), (3, 2, 5), (3, 2, 6)] true μ μ8 := hF_μ.trans (hC_μ8.mono (by decide +kernel) (by decide))
      have hr_μ8 : μ8.2.2 = μ.2.2 := (hC_μ8.2 rfl : μ8.2.2 = μ.2.2).trans hr_μ
      try rw [hr_μ8]
      exact ok_some ⟨hI_μ8, hF_μ8⟩
    · intro c6
      rw [ti_le] at c6
      refine ok_bd (k_X3_count (sel 2 (μ.2.2 16 4)) (sel_2 _) (2 : Int32) μ hI_μ) ?_
      rintro r11 μ10 ⟨hI_μ10, hC_μ10⟩
      have hI_μ10 : IX μ10 := hI_μ10
      have hC_μ10 : Fr [(2, 2, 1), (3, 2, 1)] true μ μ10 := hC_μ10
      have lo_r11 := ti_lo r11
      have hi_r11 := ti_hi r11
      have hF_μ10 : Fr [(0, 16, 2), (0, 16, 3), (0, 16, 6), (1, 17, 0), (2, 2, 1), (2, 2, 2), (3, 2, 1), (3, 2, 4), (3, 2, 5), (3, 2, 6)] true μ μ10 := hF_μ.trans (hC_μ10.mono (by decide +kernel) (by decide))
      have hr_μ10 : μ10.2.2 = μ.2.2 := (hC_μ10.2 rfl : μ10.2.2 = μ.2.2).trans hr_μ
      try rw [hr_μ10]
      refine ok_ite ?_ ?_
      · intro c12
        rw [ti_le] at c12
        refine ok_ite ?_ ?_
        · intro c13
          rw [ti_eq] at c13
          refine ok_ite ?_ ?_
          · intro c14
            rw [ti_eq] at c14
            refine ok_ite ?_ ?_
            · intro c15
              rw [ti_eq] at c15
              refine ok_bw (k_X4_readSigned RE hRE r5 a1 μ10 hI_μ10 (by (try rw [hr_μ10]); omega)) ?_
              rintro μ16 ⟨hI_μ16, hC_μ16⟩
              have hF_μ16 : Fr [(0, 16, 2), (0, 16, 3), (0, 16, 6), (1, 17, 0), (2, 2, 1), (2, 2, 2), (3, 2, 1), (3, 2, 4), (3, 2, 5), (3, 2, 6)] true μ μ16 := hF_μ10.trans (hC_μ16.mono (by decide +kernel) (by decide))
              have hr_μ16 : μ16.2.2 = μ.2.2 := (hC_μ16.2 rfl : μ16.2.2 = μ10.2.2).trans hr_μ10
              try rw [hr_μ16]
              exact ok_some ⟨hI_μ16, hF_μ16⟩
            · intro c15
              rw [ti_eq] at c15
              refine ok_bw (k_X4_readCall RE hRE r5 a1 μ10 hI_μ10 (by (try rw [hr_μ10]); omega)) ?_
              rintro μ18 ⟨hI_μ18, hC_μ18⟩
              have hF_μ18 : Fr [(0, 16, 2), (0, 16, 3), (0, 16, 6), (1, 17, 0), (2, 2, 1), (2, 2, 2), (3, 2, 1), (3, 2, 4), (3, 2, 5), (3, 2, 6)] true μ μ18 := hF_μ10.trans (hC_μ18.mono (by decide +kernel) (by decide))
              have hr_μ18 : μ18.2.2 = μ.2.2 := (hC_μ18.2 rfl : μ18.2.2 = μ10.2.2).trans hr_μ10
              try rw [hr_μ18]
              exact ok_some ⟨hI_μ18, hF_μ18⟩
          · intro c14
            rw [ti_eq] at c14
            refine ok_bw (k_X4_readVar r5 μ10 hI_μ10) ?_
            rintro μ20 ⟨hI_μ20, hC_μ20⟩
            have hF_μ20 : Fr [(0, 16, 2), (0, 16, 3), (0, 16, 6), (1, 17, 0), (2, 2, 1), (2, 2, 2), (3, 2, 1), (3, 2, 4), (3, 2, 5), (3, 2, 6)] true μ μ20 := hF_μ10.trans (hC_μ20.mono (by decide +kernel) (by decide))
            have hr_μ20 : μ20.2.2 = μ.2.2 := (hC_μ20.2 rfl : μ20.2.2 = μ10.2.2).trans hr_μ10
            try rw [hr_μ20]
            exact ok_some ⟨hI_μ20, hF_μ20⟩
        · intro c13
          rw [ti_eq] at c13
          refine ok_bd (k_X4_readNumber  μ10 hI_μ10) ?_
          rintro r23 μ22 ⟨hI_μ22, hC_μ22⟩
          have hI_μ22 : IX μ22 := hI_μ22
          have hC_μ22 : Fr [(0, 16, 2), (0, 16, 3)] true μ10 μ22 := hC_μ22
          have hF_μ22 : Fr [(0, 16, 2), (0, 16, 3), (0, 16, 6), (1, 17, 0), (2, 2, 1), (2, 2, 2), (3, 2, 1), (3, 2, 4), (3, 2, 5), (3, 2, 6)] true μ μ22 := hF_μ10.trans (hC_μ22.mono (by decide +kernel) (by decide))
          have hr_μ22 : μ22.2.2 = μ.2.2 := (hC_μ22.2 rfl : μ22.2.2 = μ10.2.2).trans hr_μ10
          try rw [hr_μ22]
          refine ok_bd (k_X3_add (sel 2 (μ.2.2 16 4)) (sel_2 _) (0 : Int32) (s_X0_kind r23) (s_X0_bits r23) μ22 hI_μ22 (by (try rw [hr_μ22]); (try rw [TI.e (e := (s_X0_bits r23)) (n := (r23.toInt32).toInt) (TI.bits r23)]); omega)) ?_
          rintro r25 μ24 ⟨hI_μ24, hC_μ24⟩
          have hI_μ24 : IX μ24 := hI_μ24
          have hC_μ24 : Fr [(2, 2, 2), (3, 2, 4), (3, 2, 5), (3, 2, 6)] true μ22 μ24 := hC_μ24
          have lo_r25 := ti_lo r25
          have hi_r25 := ti_hi r25
          have hF_μ24 : Fr [(0, 16, 2), (0, 16, 3), (0, 16, 6), (1, 17, 0), (2, 2, 1), (2, 2, 2), (3, 2, 1), (3, 2, 4), (3, 2, 5), (3, 2, 6)] true μ μ24 := hF_μ22.trans (hC_μ24.mono (by decide +kernel) (by decide))
          have hr_μ24 : μ24.2.2 = μ.2.2 := (hC_μ24.2 rfl : μ24.2.2 = μ22.2.2).trans hr_μ22
          try rw [hr_μ24]
          exact ok_some ⟨hI_μ24, hF_μ24⟩
      · intro c12
        rw [ti_le] at c12
        have g26 := ti_lo (μ10.1 16 2)
        have g26h := ti_hi (μ10.1 16 2)
        refine ok_bw (k_X4_fail (μ10.1 16 2) μ10 hI_μ10) ?_
        rintro μ27 ⟨hI_μ27, hC_μ27⟩
        have hF_μ27 : Fr [(0, 16, 2), (0, 16, 3), (0, 16, 6), (1, 17, 0), (2, 2, 1), (2, 2, 2), (3, 2, 1), (3, 2, 4), (3, 2, 5), (3, 2, 6)] true μ μ27 := hF_μ10.trans (hC_μ27.mono (by decide +kernel) (by decide))
        have hr_μ27 : μ27.2.2 = μ.2.2 := (hC_μ27.2 rfl : μ27.2.2 = μ10.2.2).trans hr_μ10
        try rw [hr_μ27]
        exact ok_some ⟨hI_μ27, hF_μ27⟩
theorem kr_X4_readExpression : ∀ (n : Nat) (a1 : Int32) (μ : Mem), IX μ → (0 ≤ (a1).toInt ∧ (a1).toInt ≤ 20 ∧ 20 - (a1).toInt < n) → ok (pr_X4_readExpression n a1 μ) (fun q => IX q ∧ Fr [(0, 16, 2), (0, 16, 3), (0, 16, 6), (1, 17, 0), (2, 2, 1), (2, 2, 2), (3, 2, 1), (3, 2, 4), (3, 2, 5), (3, 2, 6)] true μ q) := by
  intro n
  induction n with
  | zero => intro a1 μ hI hc; exact absurd hc (by omega)
  | succ n ih =>
    intro a1 μ hI hc
    rw [pr_X4_readExpression_s]
    exact k_X4_readExpression (nE := n) (pr_X4_readExpression n) ih a1 μ hI (by omega)
