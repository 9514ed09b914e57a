set_option maxHeartbeats 4000000 in
set_option maxRecDepth 100000 in
theorem k_X4_readPart {nE : Nat} (RE : Nat → Int32 → Int32 → Mem → Option Mem) (hRE : ∀ (z1 : Nat) (w1 : sh 0 z1 = (0, 1)) (z2 : Int32) (z3 : Int32) (μ1 : Mem), IX μ1 → (0 ≤ (z3).toInt ∧ (z3).toInt ≤ 31 ∧ 31 - (z3).toInt < nE) → ok (RE z1 z2 z3 μ1) (fun q => IX q ∧ Fr [(0, 16, 2), (0, 16, 3), (2, 1, 2)] true μ1 q)) (a1 : Nat) (q1 : sh 0 a1 = (0, 1)) (a2 : Int32) (a3 : Int32) (μ : Mem) (hI_μ : IX μ) (hc : 0 ≤ (a3).toInt ∧ (a3).toInt ≤ 31 ∧ 31 - (a3).toInt < nE + 1) : ok (p_X4_readPart RE a1 a2 a3 μ) (fun q => IX q ∧ Fr [(0, 16, 2), (0, 16, 3), (2, 1, 2)] true μ q) := by
  have li0 : (0 : Int32).toInt = 0 := by decide
  have li1 : (1 : Int32).toInt = 1 := by decide
  have li30 : (30 : Int32).toInt = 30 := by decide
  have li42 : (42 : Int32).toInt = 42 := by decide
  have li44 : (44 : Int32).toInt = 44 := by decide
  have li91 : (91 : Int32).toInt = 91 := by decide
  have li93 : (93 : Int32).toInt = 93 := by decide
  have hF_μ : Fr [(0, 16, 2), (0, 16, 3), (2, 1, 2)] true μ μ := Fr.rf
  have hr_μ : μ.2.2 = μ.2.2 := rfl
  rw [p_X4_readPart_eq]
  have lo_a2 := ti_lo a2
  have hi_a2 := ti_hi a2
  have lo_a3 := ti_lo a3
  have hi_a3 := ti_hi a3
  refine ok_bd (k_X4_isWell  μ hI_μ) ?_
  rintro r2 μ1 ⟨hI_μ1, hC_μ1, p_μ1⟩
  have hI_μ1 : IX μ1 := hI_μ1
  have hC_μ1 : Fr [] true μ μ1 := hC_μ1
  dsimp only at p_μ1
  have lo_r2 := ti_lo r2
  have hi_r2 := ti_hi r2
  have hF_μ1 : Fr [(0, 16, 2), (0, 16, 3), (2, 1, 2)] true μ μ1 := hF_μ.trans (hC_μ1.mono (by decide +kernel) (by decide))
  have hr_μ1 : μ1.2.2 = μ.2.2 := (hC_μ1.2 rfl : μ1.2.2 = μ.2.2).trans hr_μ
  try rw [hr_μ1]
  refine ok_ite ?_ ?_
  · intro c3
    rw [ti_eq] at c3
    exact ok_some ⟨hI_μ1, hF_μ1⟩
  · intro c3
    rw [ti_eq] at c3
    refine ok_bd (k_X4_here  μ1 hI_μ1) ?_
    rintro r5 μ4 ⟨hI_μ4, hC_μ4⟩
    have hI_μ4 : IX μ4 := hI_μ4
    have hC_μ4 : Fr [] true μ1 μ4 := hC_μ4
    have lo_r5 := ti_lo r5
    have hi_r5 := ti_hi r5
    have hF_μ4 : Fr [(0, 16, 2), (0, 16, 3), (2, 1, 2)] true μ μ4 := hF_μ1.trans (hC_μ4.mono (by decide +kernel) (by decide))
    have hr_μ4 : μ4.2.2 = μ.2.2 := (hC_μ4.2 rfl : μ4.2.2 = μ1.2.2).trans hr_μ1
    try rw [hr_μ4]
    have g6 := rgp q1 hI_μ4
    refine ok_ite ?_ ?_
    · intro c7
      rw [ti_le] at c7
      have g8 := ti_lo (μ4.1 16 2)
      have g8h := ti_hi (μ4.1 16 2)
      refine ok_bw (k_X4_fail (μ4.1 16 2) μ4 hI_μ4) ?_
      rintro μ9 ⟨hI_μ9, hC_μ9⟩
      have hF_μ9 : Fr [(0, 16, 2), (0, 16, 3), (2, 1, 2)] true μ μ9 := hF_μ4.trans (hC_μ9.mono (by decide +kernel) (by decide))
      have hr_μ9 : μ9.2.2 = μ.2.2 := (hC_μ9.2 rfl : μ9.2.2 = μ4.2.2).trans hr_μ4
      try rw [hr_μ9]
      exact ok_some ⟨hI_μ9, hF_μ9⟩
    · intro c7
      rw [ti_le] at c7
      refine ok_ite ?_ ?_
      · intro c11
        rw [ti_le] at c11
        refine ok_ite ?_ ?_
        · intro c12
          rw [ti_eq] at c12
          have g13 := ti_lo (μ4.1 16 2)
          have g13h := ti_hi (μ4.1 16 2)
          refine ok_bv (fun μ14 e_μ14 => ?_)
          have hI_μ14 : IX μ14 := by rw [e_μ14]; exact IX_F hI_μ4 (rt_16_2 _)
          have hF_μ14 : Fr [(0, 16, 2), (0, 16, 3), (2, 1, 2)] true μ μ14 := by rw [e_μ14]; exact Fr.put hF_μ4 (by decide +kernel)
          have hr_μ14 : μ14.2.2 = μ.2.2 := (by rw [e_μ14]; rfl : μ14.2.2 = μ4.2.2).trans hr_μ4
          try rw [hr_μ14]
          refine ok_bw (k_X2_add a1 q1 (8589934592 : Int64) (0 : Int64) μ14 hI_μ14) ?_
          rintro μ15 ⟨hI_μ15, hC_μ15⟩
          have hF_μ15 : Fr [(0, 16, 2), (0, 16, 3), (2, 1, 2)] true μ μ15 := hF_μ14.trans (hC_μ15.mono (by decide +kernel) (by decide))
          have hr_μ15 : μ15.2.2 = μ.2.2 := (hC_μ15.2 rfl : μ15.2.2 = μ14.2.2).trans hr_μ14
          try rw [hr_μ15]
          refine ok_bw (hRE a1 q1 a2 (a3 + (1 : Int32)) μ15 hI_μ15 (by (try simp only [hr_μ15]); (try rw [TI.e (e := (a3 + (1 : Int32))) (n := (a3.toInt + 1)) (TI.add TI.rf (TI.lit (by decide)) (by omega) (by omega))]); omega)) ?_
          rintro μ17 ⟨hI_μ17, hC_μ17⟩
          have hF_μ17 : Fr [(0, 16, 2), (0, 16, 3), (2, 1, 2)] true μ μ17 := hF_μ15.trans (hC_μ17.mono (by decide +kernel) (by decide))
          have hr_μ17 : μ17.2.2 = μ.2.2 := (hC_μ17.2 rfl : μ17.2.2 = μ15.2.2).trans hr_μ15
          try rw [hr_μ17]
          refine ok_bd (k_X4_take (44 : Int32) μ17 hI_μ17) ?_
          rintro r20 μ19 ⟨hI_μ19, hC_μ19, p_μ19⟩
          have hI_μ19 : IX μ19 := hI_μ19
          have hC_μ19 : Fr [(0, 16, 2), (0, 16, 3)] true μ17 μ19 := hC_μ19
          dsimp only at p_μ19
          have lo_r20 := ti_lo r20
          have hi_r20 := ti_hi r20
          have hF_μ19 : Fr [(0, 16, 2), (0, 16, 3), (2, 1, 2)] true μ μ19 := hF_μ17.trans (hC_μ19.mono (by decide +kernel) (by decide))
          have hr_μ19 : μ19.2.2 = μ.2.2 := (hC_μ19.2 rfl : μ19.2.2 = μ17.2.2).trans hr_μ17
          try rw [hr_μ19]
          refine ok_bw (hRE a1 q1 a2 (a3 + (1 : Int32)) μ19 hI_μ19 (by (try simp only [hr_μ19]); (try rw [TI.e (e := (a3 + (1 : Int32))) (n := (a3.toInt + 1)) (TI.add TI.rf (TI.lit (by decide)) (by omega) (by omega))]); omega)) ?_
          rintro μ21 ⟨hI_μ21, hC_μ21⟩
          have hF_μ21 : Fr [(0, 16, 2), (0, 16, 3), (2, 1, 2)] true μ μ21 := hF_μ19.trans (hC_μ21.mono (by decide +kernel) (by decide))
          have hr_μ21 : μ21.2.2 = μ.2.2 := (hC_μ21.2 rfl : μ21.2.2 = μ19.2.2).trans hr_μ19
          try rw [hr_μ21]
          refine ok_bd (k_X4_take (93 : Int32) μ21 hI_μ21) ?_
          rintro r24 μ23 ⟨hI_μ23, hC_μ23, p_μ23⟩
          have hI_μ23 : IX μ23 := hI_μ23
          have hC_μ23 : Fr [(0, 16, 2), (0, 16, 3)] true μ21 μ23 := hC_μ23
          dsimp only at p_μ23
          have lo_r24 := ti_lo r24
          have hi_r24 := ti_hi r24
          have hF_μ23 : Fr [(0, 16, 2), (0, 16, 3), (2, 1, 2)] true μ μ23 := hF_μ21.trans (hC_μ23.mono (by decide +kernel) (by decide))
          have hr_μ23 : μ23.2.2 = μ.2.2 := (hC_μ23.2 rfl : μ23.2.2 = μ21.2.2).trans hr_μ21
          try rw [hr_μ23]
          exact ok_some ⟨hI_μ23, hF_μ23⟩
        · intro c12
          rw [ti_eq] at c12
          refine ok_ite ?_ ?_
          · intro c25
            rw [ti_eq] at c25
            refine ok_ite ?_ ?_
            · intro c26
              rw [ti_eq] at c26
              refine ok_bd (k_X2_stars a1 q1 μ4 hI_μ4) ?_
              rintro r28 μ27 ⟨hI_μ27, hC_μ27⟩
              have hI_μ27 : IX μ27 := hI_μ27
              have hC_μ27 : Fr [] true μ4 μ27 := hC_μ27
              have lo_r28 := ti_lo r28
              have hi_r28 := ti_hi r28
              have hF_μ27 : Fr [(0, 16, 2), (0, 16, 3), (2, 1, 2)] true μ μ27 := hF_μ4.trans (hC_μ27.mono (by decide +kernel) (by decide))
              have hr_μ27 : μ27.2.2 = μ.2.2 := (hC_μ27.2 rfl : μ27.2.2 = μ4.2.2).trans hr_μ4
              try rw [hr_μ27]
              refine ok_ite ?_ ?_
              · intro c29
                rw [ti_le] at c29
                have g30 := ti_lo (μ27.1 16 2)
                have g30h := ti_hi (μ27.1 16 2)
                refine ok_bw (k_X4_fail (μ27.1 16 2) μ27 hI_μ27) ?_
                rintro μ31 ⟨hI_μ31, hC_μ31⟩
                have hF_μ31 : Fr [(0, 16, 2), (0, 16, 3), (2, 1, 2)] true μ μ31 := hF_μ27.trans (hC_μ31.mono (by decide +kernel) (by decide))
                have hr_μ31 : μ31.2.2 = μ.2.2 := (hC_μ31.2 rfl : μ31.2.2 = μ27.2.2).trans hr_μ27
                try rw [hr_μ31]
                exact ok_some ⟨hI_μ31, hF_μ31⟩
              · intro c29
                rw [ti_le] at c29
                have g33 := ti_lo (μ27.1 16 2)
                have g33h := ti_hi (μ27.1 16 2)
                refine ok_bv (fun μ34 e_μ34 => ?_)
                have hI_μ34 : IX μ34 := by rw [e_μ34]; exact IX_F hI_μ27 (rt_16_2 _)
                have hF_μ34 : Fr [(0, 16, 2), (0, 16, 3), (2, 1, 2)] true μ μ34 := by rw [e_μ34]; exact Fr.put hF_μ27 (by decide +kernel)
                have hr_μ34 : μ34.2.2 = μ.2.2 := (by rw [e_μ34]; rfl : μ34.2.2 = μ27.2.2).trans hr_μ27
                try rw [hr_μ34]
                refine ok_bw (k_X2_add a1 q1 (17179869184 : Int64) (0 : Int64) μ34 hI_μ34) ?_
                rintro μ35 ⟨hI_μ35, hC_μ35⟩
                have hF_μ35 : Fr [(0, 16, 2), (0, 16, 3), (2, 1, 2)] true μ μ35 := hF_μ34.trans (hC_μ35.mono (by decide +kernel) (by decide))
                have hr_μ35 : μ35.2.2 = μ.2.2 := (hC_μ35.2 rfl : μ35.2.2 = μ34.2.2).trans hr_μ34
                try rw [hr_μ35]
                exact ok_some ⟨hI_μ35, hF_μ35⟩
            · intro c26
              rw [ti_eq] at c26
              have g37 := ti_lo (μ4.1 16 2)
              have g37h := ti_hi (μ4.1 16 2)
              refine ok_bw (k_X4_fail (μ4.1 16 2) μ4 hI_μ4) ?_
              rintro μ38 ⟨hI_μ38, hC_μ38⟩
              have hF_μ38 : Fr [(0, 16, 2), (0, 16, 3), (2, 1, 2)] true μ μ38 := hF_μ4.trans (hC_μ38.mono (by decide +kernel) (by decide))
              have hr_μ38 : μ38.2.2 = μ.2.2 := (hC_μ38.2 rfl : μ38.2.2 = μ4.2.2).trans hr_μ4
              try rw [hr_μ38]
              exact ok_some ⟨hI_μ38, hF_μ38⟩
          · intro c25
            rw [ti_eq] at c25
            refine ok_bd (k_X4_readNumber  μ4 hI_μ4) ?_
            rintro r41 μ40 ⟨hI_μ40, hC_μ40⟩
            have hI_μ40 : IX μ40 := hI_μ40
            have hC_μ40 : Fr [(0, 16, 2), (0, 16, 3)] true μ4 μ40 := hC_μ40
            have hF_μ40 : Fr [(0, 16, 2), (0, 16, 3), (2, 1, 2)] true μ μ40 := hF_μ4.trans (hC_μ40.mono (by decide +kernel) (by decide))
            have hr_μ40 : μ40.2.2 = μ.2.2 := (hC_μ40.2 rfl : μ40.2.2 = μ4.2.2).trans hr_μ4
            try rw [hr_μ40]
            refine ok_bw (k_X2_add a1 q1 r41 (0 : Int64) μ40 hI_μ40) ?_
            rintro μ42 ⟨hI_μ42, hC_μ42⟩
            have hF_μ42 : Fr [(0, 16, 2), (0, 16, 3), (2, 1, 2)] true μ μ42 := hF_μ40.trans (hC_μ42.mono (by decide +kernel) (by decide))
            have hr_μ42 : μ42.2.2 = μ.2.2 := (hC_μ42.2 rfl : μ42.2.2 = μ40.2.2).trans hr_μ40
            try rw [hr_μ42]
            exact ok_some ⟨hI_μ42, hF_μ42⟩
      · intro c11
        rw [ti_le] at c11
        have g44 := ti_lo (μ4.1 16 2)
        have g44h := ti_hi (μ4.1 16 2)
        refine ok_bw (k_X4_fail (μ4.1 16 2) μ4 hI_μ4) ?_
        rintro μ45 ⟨hI_μ45, hC_μ45⟩
        have hF_μ45 : Fr [(0, 16, 2), (0, 16, 3), (2, 1, 2)] true μ μ45 := hF_μ4.trans (hC_μ45.mono (by decide +kernel) (by decide))
        have hr_μ45 : μ45.2.2 = μ.2.2 := (hC_μ45.2 rfl : μ45.2.2 = μ4.2.2).trans hr_μ4
        try rw [hr_μ45]
        exact ok_some ⟨hI_μ45, hF_μ45⟩
theorem kr_X4_readPart : ∀ (n : Nat) (a1 : Nat) (q1 : sh 0 a1 = (0, 1)) (a2 : Int32) (a3 : Int32) (μ : Mem), IX μ → (0 ≤ (a3).toInt ∧ (a3).toInt ≤ 31 ∧ 31 - (a3).toInt < n) → ok (pr_X4_readPart n a1 a2 a3 μ) (fun q => IX q ∧ Fr [(0, 16, 2), (0, 16, 3), (2, 1, 2)] true μ q) := by
  intro n
  induction n with
  | zero => intro a1 q1 a2 a3 μ hI hc; exact absurd hc (by omega)
  | succ n ih =>
    intro a1 q1 a2 a3 μ hI hc
    rw [pr_X4_readPart_s]
    exact k_X4_readPart (nE := n) (pr_X4_readPart n) ih a1 q1 a2 a3 μ hI (by omega)

set_option maxHeartbeats 4000000 in
set_option maxRecDepth 100000 in
theorem k_X4_takeEnd  (μ : Mem) (hI_μ : IX μ) : ok (p_X4_takeEnd  μ) (fun q => IX q ∧ Fr [(0, 16, 3)] true μ q) := by
  have li0 : (0 : Int32).toInt = 0 := by decide
  have li1 : (1 : Int32).toInt = 1 := by decide
  have hF_μ : Fr [(0, 16, 3)] true μ μ := Fr.rf
  have hr_μ : μ.2.2 = μ.2.2 := rfl
  rw [p_X4_takeEnd_eq]
  refine ok_bd (k_X4_isWell  μ hI_μ) ?_
  rintro r2 μ1 ⟨hI_μ1, hC_μ1, p_μ1⟩
  have hI_μ1 : IX μ1 := hI_μ1
  have hC_μ1 : Fr [] true μ μ1 := hC_μ1
  dsimp only at p_μ1
  have lo_r2 := ti_lo r2
  have hi_r2 := ti_hi r2
  have hF_μ1 : Fr [(0, 16, 3)] true μ μ1 := hF_μ.trans (hC_μ1.mono (by decide +kernel) (by decide))
  have hr_μ1 : μ1.2.2 = μ.2.2 := (hC_μ1.2 rfl : μ1.2.2 = μ.2.2).trans hr_μ
  try rw [hr_μ1]
  refine ok_ite ?_ ?_
  · intro c3
    rw [ti_eq] at c3
    exact ok_some ⟨hI_μ1, hF_μ1⟩
  · intro c3
    rw [ti_eq] at c3
    have g4 := ti_lo (μ1.1 16 2)
    have g4h := ti_hi (μ1.1 16 2)
    have g5 := rg_16_1 hI_μ1
    refine ok_ite ?_ ?_
    · intro c6
      rw [ti_le] at c6
      exact ok_some ⟨hI_μ1, hF_μ1⟩
    · intro c6
      rw [ti_le] at c6
      refine ok_bw (k_X4_fail (μ1.1 16 2) μ1 hI_μ1) ?_
      rintro μ7 ⟨hI_μ7, hC_μ7⟩
      have hF_μ7 : Fr [(0, 16, 3)] true μ μ7 := hF_μ1.trans (hC_μ7.mono (by decide +kernel) (by decide))
      have hr_μ7 : μ7.2.2 = μ.2.2 := (hC_μ7.2 rfl : μ7.2.2 = μ1.2.2).trans hr_μ1
      try rw [hr_μ7]
      exact ok_some ⟨hI_μ7, hF_μ7⟩

set_option maxHeartbeats 4000000 in
set_option maxRecDepth 100000 in
theorem k_X4_readTask_b116 (a1 : Nat) (q1 : sh 0 a1 = (0, 1)) (a2 : Int32) (a3 : Int32) (μ : Mem) (hI_μ : IX μ) : ok (p_X4_readTask_b116 a1 a2 a3 μ) (fun q => IX q ∧ Fr [(0, 16, 2), (0, 16, 3), (2, 1, 2), (2, 1, 3)] true μ q) := by
  have li0 : (0 : Int32).toInt = 0 := by decide
  have li1 : (1 : Int32).toInt = 1 := by decide
  have li6 : (6 : Int32).toInt = 6 := by decide
  have li41 : (41 : Int32).toInt = 41 := by decide
  have li97 : (97 : Int32).toInt = 97 := by decide
  have hF_μ : Fr [(0, 16, 2), (0, 16, 3), (2, 1, 2), (2, 1, 3)] true μ μ := Fr.rf
  have hr_μ : μ.2.2 = μ.2.2 := rfl
  rw [p_X4_readTask_b116_eq]
  have lo_a2 := ti_lo a2
  have hi_a2 := ti_hi a2
  have lo_a3 := ti_lo a3
  have hi_a3 := ti_hi a3
  refine ok_bd (k_X4_take (41 : Int32) μ hI_μ) ?_
  rintro r17 μ16 ⟨hI_μ16, hC_μ16, p_μ16⟩
  have hI_μ16 : IX μ16 := hI_μ16
  have hC_μ16 : Fr [(0, 16, 2), (0, 16, 3)] true μ μ16 := hC_μ16
  dsimp only at p_μ16
  have lo_r17 := ti_lo r17
  have hi_r17 := ti_hi r17
  have hF_μ16 : Fr [(0, 16, 2), (0, 16, 3), (2, 1, 2), (2, 1, 3)] true μ μ16 := hF_μ.trans (hC_μ16.mono (by decide +kernel) (by decide))
  have hr_μ16 : μ16.2.2 = μ.2.2 := (hC_μ16.2 rfl : μ16.2.2 = μ.2.2).trans hr_μ
  try rw [hr_μ16]
  refine ok_bv (fun μ18 e_μ18 => ?_)
  have hI_μ18 : IX μ18 := by rw [e_μ18]; exact IX_F hI_μ16 (rtc_1_3 q1 _)
  have hF_μ18 : Fr [(0, 16, 2), (0, 16, 3), (2, 1, 2), (2, 1, 3)] true μ μ18 := by rw [e_μ18]; exact Fr.putc (ci := 1) hF_μ16 (by decide +kernel) q1
  have hr_μ18 : μ18.2.2 = μ.2.2 := (by rw [e_μ18]; rfl : μ18.2.2 = μ16.2.2).trans hr_μ16
  try rw [hr_μ18]
  refine ok_bw (k_X4_takeEnd  μ18 hI_μ18) ?_
  rintro μ19 ⟨hI_μ19, hC_μ19⟩
  have hF_μ19 : Fr [(0, 16, 2), (0, 16, 3), (2, 1, 2), (2, 1, 3)] true μ μ19 := hF_μ18.trans (hC_μ19.mono (by decide +kernel) (by decide))
  have hr_μ19 : μ19.2.2 = μ.2.2 := (hC_μ19.2 rfl : μ19.2.2 = μ18.2.2).trans hr_μ18
  try rw [hr_μ19]
  exact ok_some ⟨hI_μ19, hF_μ19⟩
set_option maxHeartbeats 4000000 in
set_option maxRecDepth 100000 in
theorem k_X4_readTask_b71 : ∀ (n : Nat) (a1 : Nat) (q1 : sh 0 a1 = (0, 1)) (a2 : Int32) (a3 : Int32) (μ : Mem), IX μ → (0 ≤ (a3).toInt ∧ (a3).toInt ≤ 5 ∧ 5 - (a3).toInt < n) → ok (p_X4_readTask_b71 n a1 a2 a3 μ) (fun q => IX q ∧ Fr [(0, 16, 2), (0, 16, 3), (2, 1, 2), (2, 1, 3)] true μ q) := by
  have li0 : (0 : Int32).toInt = 0 := by decide
  have li1 : (1 : Int32).toInt = 1 := by decide
  have li5 : (5 : Int32).toInt = 5 := by decide
  have li8 : (8 : Int32).toInt = 8 := by decide
  have li44 : (44 : Int32).toInt = 44 := by decide
  intro n
  induction n with
  | zero => intro a1 q1 a2 a3 μ hI_μ hc; exact absurd hc (by have lo_a2 := ti_lo a2; have hi_a2 := ti_hi a2; have lo_a3 := ti_lo a3; have hi_a3 := ti_hi a3; omega)
  | succ n ih =>
    intro a1 q1 a2 a3 μ hI_μ hc
    have hF_μ : Fr [(0, 16, 2), (0, 16, 3), (2, 1, 2), (2, 1, 3)] true μ μ := Fr.rf
    have hr_μ : μ.2.2 = μ.2.2 := rfl
    rw [p_X4_readTask_b71_s]
    have lo_a2 := ti_lo a2
    have hi_a2 := ti_hi a2
    have lo_a3 := ti_lo a3
    have hi_a3 := ti_hi a3
    refine ok_bd (k_X4_isWell  μ hI_μ) ?_
    rintro r27 μ26 ⟨hI_μ26, hC_μ26, p_μ26⟩
    have hI_μ26 : IX μ26 := hI_μ26
    have hC_μ26 : Fr [] true μ μ26 := hC_μ26
    dsimp only at p_μ26
    have lo_r27 := ti_lo r27
    have hi_r27 := ti_hi r27
    have hF_μ26 : Fr [(0, 16, 2), (0, 16, 3), (2, 1, 2), (2, 1, 3)] true μ μ26 := hF_μ.trans (hC_μ26.mono (by decide +kernel) (by decide))
    have hr_μ26 : μ26.2.2 = μ.2.2 := (hC_μ26.2 rfl : μ26.2.2 = μ.2.2).trans hr_μ
    try rw [hr_μ26]
    refine ok_ite ?_ ?_
    · intro c28
      rw [ti_eq] at c28
      exact ok_mono (k_X4_readTask_b116  a1 q1 a2 a3 μ26 hI_μ26) (fun q h => ⟨h.1, hF_μ26.trans h.2⟩)
    · intro c28
      rw [ti_eq] at c28
      refine ok_bd (k_X4_here  μ26 hI_μ26) ?_
      rintro r30 μ29 ⟨hI_μ29, hC_μ29⟩
      have hI_μ29 : IX μ29 := hI_μ29
      have hC_μ29 : Fr [] true μ26 μ29 := hC_μ29
      have lo_r30 := ti_lo r30
      have hi_r30 := ti_hi r30
      have hF_μ29 : Fr [(0, 16, 2), (0, 16, 3), (2, 1, 2), (2, 1, 3)] true μ μ29 := hF_μ26.trans (hC_μ29.mono (by decide +kernel) (by decide))
      have hr_μ29 : μ29.2.2 = μ.2.2 := (hC_μ29.2 rfl : μ29.2.2 = μ26.2.2).trans hr_μ26
      try rw [hr_μ29]
      refine ok_ite ?_ ?_
      · intro c31
        rw [ti_eq] at c31
        refine ok_ite ?_ ?_
        · intro c32
          rw [ti_le] at c32
          exact ok_mono (k_X4_readTask_b116  a1 q1 a2 a3 μ29 hI_μ29) (fun q h => ⟨h.1, hF_μ29.trans h.2⟩)
        · intro c32
          rw [ti_le] at c32
          have g33 := ti_lo (μ29.1 16 2)
          have g33h := ti_hi (μ29.1 16 2)
          refine ok_bv (fun μ34 e_μ34 => ?_)
          have hI_μ34 : IX μ34 := by rw [e_μ34]; exact IX_F hI_μ29 (rt_16_2 _)
          have hF_μ34 : Fr [(0, 16, 2), (0, 16, 3), (2, 1, 2), (2, 1, 3)] true μ μ34 := by rw [e_μ34]; exact Fr.put hF_μ29 (by decide +kernel)
          have hr_μ34 : μ34.2.2 = μ.2.2 := (by rw [e_μ34]; rfl : μ34.2.2 = μ29.2.2).trans hr_μ29
          try rw [hr_μ34]
          refine ok_bw (kr_X4_readPart 50 a1 q1 (8 : Int32) (0 : Int32) μ34 hI_μ34 (by (try simp only [hr_μ34]); omega)) ?_
          rintro μ35 ⟨hI_μ35, hC_μ35⟩
          have hF_μ35 : Fr [(0, 16, 2), (0, 16, 3), (2, 1, 2), (2, 1, 3)] true μ μ35 := hF_μ34.trans (hC_μ35.mono (by decide +kernel) (by decide))
          have hr_μ35 : μ35.2.2 = μ.2.2 := (hC_μ35.2 rfl : μ35.2.2 = μ34.2.2).trans hr_μ34
          try rw [hr_μ35]
          refine ok_bv (fun v37 ev37 => ?_)
          first | have tv37 : v37.toInt = (a3.toInt + 1) := (congrArg Int32.toInt ev37).trans (TI.e (n := (a3.toInt + 1)) (TI.add TI.rf (TI.lit (by decide)) (by omega) (by omega))) | have tv37 : v37.toInt ≤ a3.toInt + 1 := by rw [ev37]; exact ti_inc _ | skip
          exact ok_mono (ih a1 q1 a2 v37 μ35 hI_μ35 (by (try simp only [hr_μ35]); omega)) (fun q h => ⟨h.1, hF_μ35.trans h.2⟩)
      · intro c31
        rw [ti_eq] at c31
        exact ok_mono (k_X4_readTask_b116  a1 q1 a2 a3 μ29 hI_μ29) (fun q h => ⟨h.1, hF_μ29.trans h.2⟩)
set_option maxHeartbeats 4000000 in
set_option maxRecDepth 100000 in
theorem k_X4_readTask (a1 : Nat) (q1 : sh 0 a1 = (0, 1)) (μ : Mem) (hI_μ : IX μ) : ok (p_X4_readTask a1 μ) (fun q => IX q ∧ Fr [(0, 16, 2), (0, 16, 3), (2, 1, 2), (2, 1, 3)] true μ q) := by
  have li0 : (0 : Int32).toInt = 0 := by decide
  have li1 : (1 : Int32).toInt = 1 := by decide
  have li8 : (8 : Int32).toInt = 8 := by decide
  have li40 : (40 : Int32).toInt = 40 := by decide
  have li41 : (41 : Int32).toInt = 41 := by decide
  have hF_μ : Fr [(0, 16, 2), (0, 16, 3), (2, 1, 2), (2, 1, 3)] true μ μ := Fr.rf
  have hr_μ : μ.2.2 = μ.2.2 := rfl
  rw [p_X4_readTask_eq]
  refine ok_bw (k_X2_begin a1 q1 (0 : Int32) μ hI_μ) ?_
  rintro μ1 ⟨hI_μ1, hC_μ1⟩
  have hF_μ1 : Fr [(0, 16, 2), (0, 16, 3), (2, 1, 2), (2, 1, 3)] true μ μ1 := hF_μ.trans (hC_μ1.mono (by decide +kernel) (by decide))
  have hr_μ1 : μ1.2.2 = μ.2.2 := (hC_μ1.2 rfl : μ1.2.2 = μ.2.2).trans hr_μ
  try rw [hr_μ1]
  refine ok_bd (k_X4_here  μ1 hI_μ1) ?_
  rintro r4 μ3 ⟨hI_μ3, hC_μ3⟩
  have hI_μ3 : IX μ3 := hI_μ3
  have hC_μ3 : Fr [] true μ1 μ3 := hC_μ3
  have lo_r4 := ti_lo r4
  have hi_r4 := ti_hi r4
  have hF_μ3 : Fr [(0, 16, 2), (0, 16, 3), (2, 1, 2), (2, 1, 3)] true μ μ3 := hF_μ1.trans (hC_μ3.mono (by decide +kernel) (by decide))
  have hr_μ3 : μ3.2.2 = μ.2.2 := (hC_μ3.2 rfl : μ3.2.2 = μ1.2.2).trans hr_μ1
  try rw [hr_μ3]
  refine ok_ite ?_ ?_
  · intro c5
    rw [ti_eq] at c5
    have g6 := ti_lo (μ3.1 16 2)
    have g6h := ti_hi (μ3.1 16 2)
    refine ok_bw (k_X4_fail (μ3.1 16 2) μ3 hI_μ3) ?_
    rintro μ7 ⟨hI_μ7, hC_μ7⟩
    have hF_μ7 : Fr [(0, 16, 2), (0, 16, 3), (2, 1, 2), (2, 1, 3)] true μ μ7 := hF_μ3.trans (hC_μ7.mono (by decide +kernel) (by decide))
    have hr_μ7 : μ7.2.2 = μ.2.2 := (hC_μ7.2 rfl : μ7.2.2 = μ3.2.2).trans hr_μ3
    try rw [hr_μ7]
    exact ok_some ⟨hI_μ7, hF_μ7⟩
  · intro c5
    rw [ti_eq] at c5
    have g9 := ti_lo (μ3.1 16 2)
    have g9h := ti_hi (μ3.1 16 2)
    refine ok_bv (fun μ10 e_μ10 => ?_)
    have hI_μ10 : IX μ10 := by rw [e_μ10]; exact IX_F hI_μ3 (rt_16_2 _)
    have hF_μ10 : Fr [(0, 16, 2), (0, 16, 3), (2, 1, 2), (2, 1, 3)] true μ μ10 := by rw [e_μ10]; exact Fr.put hF_μ3 (by decide +kernel)
    have hr_μ10 : μ10.2.2 = μ.2.2 := (by rw [e_μ10]; rfl : μ10.2.2 = μ3.2.2).trans hr_μ3
    try rw [hr_μ10]
    refine ok_bd (k_X4_take (40 : Int32) μ10 hI_μ10) ?_
    rintro r12 μ11 ⟨hI_μ11, hC_μ11, p_μ11⟩
    have hI_μ11 : IX μ11 := hI_μ11
    have hC_μ11 : Fr [(0, 16, 2), (0, 16, 3)] true μ10 μ11 := hC_μ11
    dsimp only at p_μ11
    have lo_r12 := ti_lo r12
    have hi_r12 := ti_hi r12
    have hF_μ11 : Fr [(0, 16, 2), (0, 16, 3), (2, 1, 2), (2, 1, 3)] true μ μ11 := hF_μ10.trans (hC_μ11.mono (by decide +kernel) (by decide))
    have hr_μ11 : μ11.2.2 = μ.2.2 := (hC_μ11.2 rfl : μ11.2.2 = μ10.2.2).trans hr_μ10
    try rw [hr_μ11]
    refine ok_bd (k_X4_isWell  μ11 hI_μ11) ?_
    rintro r14 μ13 ⟨hI_μ13, hC_μ13, p_μ13⟩
    have hI_μ13 : IX μ13 := hI_μ13
    have hC_μ13 : Fr [] true μ11 μ13 := hC_μ13
    dsimp only at p_μ13
    have lo_r14 := ti_lo r14
    have hi_r14 := ti_hi r14
    have hF_μ13 : Fr [(0, 16, 2), (0, 16, 3), (2, 1, 2), (2, 1, 3)] true μ μ13 := hF_μ11.trans (hC_μ13.mono (by decide +kernel) (by decide))
    have hr_μ13 : μ13.2.2 = μ.2.2 := (hC_μ13.2 rfl : μ13.2.2 = μ11.2.2).trans hr_μ11
    try rw [hr_μ13]
    refine ok_ite ?_ ?_
    · intro c15
      rw [ti_eq] at c15
      exact ok_mono (k_X4_readTask_b116  a1 q1 r4 (0 : Int32) μ13 hI_μ13) (fun q h => ⟨h.1, hF_μ13.trans h.2⟩)
    · intro c15
      rw [ti_eq] at c15
      refine ok_bd (k_X4_here  μ13 hI_μ13) ?_
      rintro r22 μ21 ⟨hI_μ21, hC_μ21⟩
      have hI_μ21 : IX μ21 := hI_μ21
      have hC_μ21 : Fr [] true μ13 μ21 := hC_μ21
      have lo_r22 := ti_lo r22
      have hi_r22 := ti_hi r22
      have hF_μ21 : Fr [(0, 16, 2), (0, 16, 3), (2, 1, 2), (2, 1, 3)] true μ μ21 := hF_μ13.trans (hC_μ21.mono (by decide +kernel) (by decide))
      have hr_μ21 : μ21.2.2 = μ.2.2 := (hC_μ21.2 rfl : μ21.2.2 = μ13.2.2).trans hr_μ13
      try rw [hr_μ21]
      refine ok_ite ?_ ?_
      · intro c23
        rw [ti_eq] at c23
        exact ok_mono (k_X4_readTask_b116  a1 q1 r4 (0 : Int32) μ21 hI_μ21) (fun q h => ⟨h.1, hF_μ21.trans h.2⟩)
      · intro c23
        rw [ti_eq] at c23
        refine ok_bw (kr_X4_readPart 50 a1 q1 (8 : Int32) (0 : Int32) μ21 hI_μ21 (by (try simp only [hr_μ21]); omega)) ?_
        rintro μ24 ⟨hI_μ24, hC_μ24⟩
        have hF_μ24 : Fr [(0, 16, 2), (0, 16, 3), (2, 1, 2), (2, 1, 3)] true μ μ24 := hF_μ21.trans (hC_μ24.mono (by decide +kernel) (by decide))
        have hr_μ24 : μ24.2.2 = μ.2.2 := (hC_μ24.2 rfl : μ24.2.2 = μ21.2.2).trans hr_μ21
        try rw [hr_μ24]
        obtain ⟨fu, hfu0, hfu⟩ := fuel_ex
        rw [hfu0]
        exact ok_mono (k_X4_readTask_b71  fu a1 q1 r4 (1 : Int32) μ24 hI_μ24 (by (try simp only [hr_μ24]); omega)) (fun q h => ⟨h.1, hF_μ24.trans h.2⟩)

set_option maxHeartbeats 4000000 in
set_option maxRecDepth 100000 in
theorem k_X11_task  (μ : Mem) (hI_μ : IX μ) : ok (p_X11_task  μ) (fun q => IX q.2 ∧ Fr [(0, 0, 1), (0, 0, 2), (0, 0, 10), (0, 16, 1), (0, 16, 2), (0, 16, 3), (0, 39, 0), (0, 39, 1), (0, 39, 2), (0, 39, 3), (0, 39, 4), (0, 39, 5), (0, 39, 6), (2, 1, 2), (2, 1, 3)] false μ q.2) := by
  have lim1 : (-1 : Int32).toInt = -1 := by decide
  have li0 : (0 : Int32).toInt = 0 := by decide
  have li1 : (1 : Int32).toInt = 1 := by decide
  have hF_μ : Fr [(0, 0, 1), (0, 0, 2), (0, 0, 10), (0, 16, 1), (0, 16, 2), (0, 16, 3), (0, 39, 0), (0, 39, 1), (0, 39, 2), (0, 39, 3), (0, 39, 4), (0, 39, 5), (0, 39, 6), (2, 1, 2), (2, 1, 3)] false μ μ := Fr.rf
  have hr_μ : μ.2.2 = μ.2.2 := rfl
  rw [p_X11_task_eq]
  refine ok_bw (k_X11_takeTape  μ hI_μ) ?_
  rintro μ1 ⟨hI_μ1, hC_μ1⟩
  have hF_μ1 : Fr [(0, 0, 1), (0, 0, 2), (0, 0, 10), (0, 16, 1), (0, 16, 2), (0, 16, 3), (0, 39, 0), (0, 39, 1), (0, 39, 2), (0, 39, 3), (0, 39, 4), (0, 39, 5), (0, 39, 6), (2, 1, 2), (2, 1, 3)] false μ μ1 := hF_μ.trans (hC_μ1.mono (by decide +kernel) (by decide))
  have hr_μ1 : μ1.2.2 = μ.2.2 := (hC_μ1.2 rfl : μ1.2.2 = μ.2.2).trans hr_μ
  try rw [hr_μ1]
  refine ok_bw (k_X4_readTask (sel 1 (μ.2.2 0 7)) (sel_1 _) μ1 hI_μ1) ?_
  rintro μ3 ⟨hI_μ3, hC_μ3⟩
  have hF_μ3 : Fr [(0, 0, 1), (0, 0, 2), (0, 0, 10), (0, 16, 1), (0, 16, 2), (0, 16, 3), (0, 39, 0), (0, 39, 1), (0, 39, 2), (0, 39, 3), (0, 39, 4), (0, 39, 5), (0, 39, 6), (2, 1, 2), (2, 1, 3)] false μ μ3 := hF_μ1.trans (hC_μ3.mono (by decide +kernel) (by decide))
  have hr_μ3 : μ3.2.2 = μ.2.2 := (hC_μ3.2 rfl : μ3.2.2 = μ1.2.2).trans hr_μ1
  try rw [hr_μ3]
  refine ok_bd (k_X4_badPlace  μ3 hI_μ3) ?_
  rintro r6 μ5 ⟨hI_μ5, hC_μ5⟩
  have hI_μ5 : IX μ5 := hI_μ5
  have hC_μ5 : Fr [] true μ3 μ5 := hC_μ5
  have lo_r6 := ti_lo r6
  have hi_r6 := ti_hi r6
  have hF_μ5 : Fr [(0, 0, 1), (0, 0, 2), (0, 0, 10), (0, 16, 1), (0, 16, 2), (0, 16, 3), (0, 39, 0), (0, 39, 1), (0, 39, 2), (0, 39, 3), (0, 39, 4), (0, 39, 5), (0, 39, 6), (2, 1, 2), (2, 1, 3)] false μ μ5 := hF_μ3.trans (hC_μ5.mono (by decide +kernel) (by decide))
  have hr_μ5 : μ5.2.2 = μ.2.2 := (hC_μ5.2 rfl : μ5.2.2 = μ3.2.2).trans hr_μ3
  try rw [hr_μ5]
  refine ok_bv (fun μ7 e_μ7 => ?_)
  have hI_μ7 : IX μ7 := by rw [e_μ7]; exact IX_F hI_μ5 (rt_0_2 _)
  have hF_μ7 : Fr [(0, 0, 1), (0, 0, 2), (0, 0, 10), (0, 16, 1), (0, 16, 2), (0, 16, 3), (0, 39, 0), (0, 39, 1), (0, 39, 2), (0, 39, 3), (0, 39, 4), (0, 39, 5), (0, 39, 6), (2, 1, 2), (2, 1, 3)] false μ μ7 := by rw [e_μ7]; exact Fr.put hF_μ5 (by decide +kernel)
  have v_μ7 : (μ7.1 0 2).toInt = r6.toInt := by rw [e_μ7, sF_v]
  have hr_μ7 : μ7.2.2 = μ.2.2 := (by rw [e_μ7]; rfl : μ7.2.2 = μ5.2.2).trans hr_μ5
  try rw [hr_μ7]
  have g8 := ti_lo (μ7.1 0 2)
  have g8h := ti_hi (μ7.1 0 2)
  refine ok_ite ?_ ?_
  · intro c9
    rw [ti_eq] at c9
    refine ok_bv (fun μ10 e_μ10 => ?_)
    have hI_μ10 : IX μ10 := by rw [e_μ10]; exact IX_R hI_μ7
    have hF_μ10 : Fr [(0, 0, 1), (0, 0, 2), (0, 0, 10), (0, 16, 1), (0, 16, 2), (0, 16, 3), (0, 39, 0), (0, 39, 1), (0, 39, 2), (0, 39, 3), (0, 39, 4), (0, 39, 5), (0, 39, 6), (2, 1, 2), (2, 1, 3)] false μ μ10 := by rw [e_μ10]; exact ⟨hF_μ7.1, fun h9 => absurd h9 (by decide)⟩
    have hr_μ10 : μ10.2.2 = μ10.2.2 := rfl
    refine ok_bv (fun μ11 e_μ11 => ?_)
    have hI_μ11 : IX μ11 := by rw [e_μ11]; exact IX_R hI_μ10
    have hF_μ11 : Fr [(0, 0, 1), (0, 0, 2), (0, 0, 10), (0, 16, 1), (0, 16, 2), (0, 16, 3), (0, 39, 0), (0, 39, 1), (0, 39, 2), (0, 39, 3), (0, 39, 4), (0, 39, 5), (0, 39, 6), (2, 1, 2), (2, 1, 3)] false μ μ11 := by rw [e_μ11]; exact ⟨hF_μ10.1, fun h9 => absurd h9 (by decide)⟩
    have hr_μ11 : μ11.2.2 = μ11.2.2 := rfl
    refine ok_bv (fun μ12 e_μ12 => ?_)
    have hI_μ12 : IX μ12 := by rw [e_μ12]; exact IX_F hI_μ11 (rt_0_10 _)
    have hF_μ12 : Fr [(0, 0, 1), (0, 0, 2), (0, 0, 10), (0, 16, 1), (0, 16, 2), (0, 16, 3), (0, 39, 0), (0, 39, 1), (0, 39, 2), (0, 39, 3), (0, 39, 4), (0, 39, 5), (0, 39, 6), (2, 1, 2), (2, 1, 3)] false μ μ12 := by rw [e_μ12]; exact Fr.put hF_μ11 (by decide +kernel)
    have v_μ12 : (μ12.1 0 10).toInt = 0 := by rw [e_μ12, sF_v]; exact TI.e (n := 0) (TI.lit (by decide))
    have hr_μ12 : μ12.2.2 = μ11.2.2 := (by rw [e_μ12]; rfl : μ12.2.2 = μ11.2.2).trans hr_μ11
    try rw [hr_μ12]
    refine ok_bw (k_X2_begin (sel 1 (μ11.2.2 0 8)) (sel_1 _) (0 : Int32) μ12 hI_μ12) ?_
    rintro μ13 ⟨hI_μ13, hC_μ13⟩
    have hF_μ13 : Fr [(0, 0, 1), (0, 0, 2), (0, 0, 10), (0, 16, 1), (0, 16, 2), (0, 16, 3), (0, 39, 0), (0, 39, 1), (0, 39, 2), (0, 39, 3), (0, 39, 4), (0, 39, 5), (0, 39, 6), (2, 1, 2), (2, 1, 3)] false μ μ13 := hF_μ12.trans (hC_μ13.mono (by decide +kernel) (by decide))
    have hr_μ13 : μ13.2.2 = μ11.2.2 := (hC_μ13.2 rfl : μ13.2.2 = μ12.2.2).trans hr_μ12
    try rw [hr_μ13]
    refine ok_bw (k_X5_clear  μ13 hI_μ13) ?_
    rintro μ15 ⟨hI_μ15, hC_μ15⟩
    have hF_μ15 : Fr [(0, 0, 1), (0, 0, 2), (0, 0, 10), (0, 16, 1), (0, 16, 2), (0, 16, 3), (0, 39, 0), (0, 39, 1), (0, 39, 2), (0, 39, 3), (0, 39, 4), (0, 39, 5), (0, 39, 6), (2, 1, 2), (2, 1, 3)] false μ μ15 := hF_μ13.trans (hC_μ15.mono (by decide +kernel) (by decide))
    have hr_μ15 : μ15.2.2 = μ11.2.2 := (hC_μ15.2 rfl : μ15.2.2 = μ13.2.2).trans hr_μ13
    try rw [hr_μ15]
    refine ok_bd (k_X2_stars (sel 1 (μ11.2.2 0 6)) (sel_1 _) μ15 hI_μ15) ?_
    rintro r18 μ17 ⟨hI_μ17, hC_μ17⟩
    have hI_μ17 : IX μ17 := hI_μ17
    have hC_μ17 : Fr [] true μ15 μ17 := hC_μ17
    have lo_r18 := ti_lo r18
    have hi_r18 := ti_hi r18
    have hF_μ17 : Fr [(0, 0, 1), (0, 0, 2), (0, 0, 10), (0, 16, 1), (0, 16, 2), (0, 16, 3), (0, 39, 0), (0, 39, 1), (0, 39, 2), (0, 39, 3), (0, 39, 4), (0, 39, 5), (0, 39, 6), (2, 1, 2), (2, 1, 3)] false μ μ17 := hF_μ15.trans (hC_μ17.mono (by decide +kernel) (by decide))
    have hr_μ17 : μ17.2.2 = μ11.2.2 := (hC_μ17.2 rfl : μ17.2.2 = μ15.2.2).trans hr_μ15
    try rw [hr_μ17]
    exact ok_some ⟨hI_μ17, hF_μ17⟩
  · intro c9
    rw [ti_eq] at c9
    exact ok_some ⟨hI_μ7, hF_μ7⟩

set_option maxHeartbeats 4000000 in
set_option maxRecDepth 100000 in
theorem k_X4_readValues_b30 {n7 : Nat} (K7 : Nat → Int32 → Int32 → Mem → Option Mem) (hK7 : ∀ (z1 : Nat) (w1 : sh 0 z1 = (0, 1)) (z2 : Int32) (z3 : Int32) (μ1 : Mem), IX μ1 → (0 ≤ (z3).toInt ∧ 2147483648 - (z3).toInt < n7) → ok (K7 z1 z2 z3 μ1) (fun q => IX q ∧ Fr [(0, 16, 2), (0, 16, 3), (2, 1, 2), (2, 1, 3)] true μ1 q)) (a1 : Nat) (q1 : sh 0 a1 = (0, 1)) (a2 : Int32) (a3 : Int32) (μ : Mem) (hI_μ : IX μ) (hc : 0 ≤ (a3).toInt ∧ (a3).toInt < 2147483647 ∧ 2147483648 - (a3).toInt < n7 + 1) : ok (p_X4_readValues_b30 K7 a1 a2 a3 μ) (fun q => IX q ∧ Fr [(0, 16, 2), (0, 16, 3), (2, 1, 2), (2, 1, 3)] true μ q) := by
  have li0 : (0 : Int32).toInt = 0 := by decide
  have li1 : (1 : Int32).toInt = 1 := by decide
  have hF_μ : Fr [(0, 16, 2), (0, 16, 3), (2, 1, 2), (2, 1, 3)] true μ μ := Fr.rf
  have hr_μ : μ.2.2 = μ.2.2 := rfl
  rw [p_X4_readValues_b30_eq]
  have lo_a2 := ti_lo a2
  have hi_a2 := ti_hi a2
  have lo_a3 := ti_lo a3
  have hi_a3 := ti_hi a3
  refine ok_bw (kr_X4_readPart 50 a1 q1 (0 : Int32) (0 : Int32) μ hI_μ (by omega)) ?_
  rintro μ12 ⟨hI_μ12, hC_μ12⟩
  have hF_μ12 : Fr [(0, 16, 2), (0, 16, 3), (2, 1, 2), (2, 1, 3)] true μ μ12 := hF_μ.trans (hC_μ12.mono (by decide +kernel) (by decide))
  have hr_μ12 : μ12.2.2 = μ.2.2 := (hC_μ12.2 rfl : μ12.2.2 = μ.2.2).trans hr_μ
  try rw [hr_μ12]
  refine ok_bv (fun v14 ev14 => ?_)
  first | have tv14 : v14.toInt = (a3.toInt + 1) := (congrArg Int32.toInt ev14).trans (TI.e (n := (a3.toInt + 1)) (TI.add TI.rf (TI.lit (by decide)) (by omega) (by omega))) | have tv14 : v14.toInt ≤ a3.toInt + 1 := by rw [ev14]; exact ti_inc _ | skip
  exact ok_mono (hK7 a1 q1 a2 v14 μ12 hI_μ12 (by (try simp only [hr_μ12]); omega)) (fun q h => ⟨h.1, hF_μ12.trans h.2⟩)
set_option maxHeartbeats 4000000 in
set_option maxRecDepth 100000 in
theorem k_X4_readValues_b7 : ∀ (n : Nat) (a1 : Nat) (q1 : sh 0 a1 = (0, 1)) (a2 : Int32) (a3 : Int32) (μ : Mem), IX μ → (0 ≤ (a3).toInt ∧ 2147483648 - (a3).toInt < n) → ok (p_X4_readValues_b7 n a1 a2 a3 μ) (fun q => IX q ∧ Fr [(0, 16, 2), (0, 16, 3), (2, 1, 2), (2, 1, 3)] true μ q) := by
  have li0 : (0 : Int32).toInt = 0 := by decide
  have li1 : (1 : Int32).toInt = 1 := by decide
  have li44 : (44 : Int32).toInt = 44 := by decide
  intro n
  induction n with
  | zero => intro a1 q1 a2 a3 μ hI_μ hc; exact absurd hc (by have lo_a2 := ti_lo a2; have hi_a2 := ti_hi a2; have lo_a3 := ti_lo a3; have hi_a3 := ti_hi a3; omega)
  | succ n ih =>
    intro a1 q1 a2 a3 μ hI_μ hc
    have hF_μ : Fr [(0, 16, 2), (0, 16, 3), (2, 1, 2), (2, 1, 3)] true μ μ := Fr.rf
    have hr_μ : μ.2.2 = μ.2.2 := rfl
    rw [p_X4_readValues_b7_s]
    have lo_a2 := ti_lo a2
    have hi_a2 := ti_hi a2
    have lo_a3 := ti_lo a3
    have hi_a3 := ti_hi a3
    refine ok_ite ?_ ?_
    · intro c3
      rw [ti_le] at c3
      refine ok_bw (k_X4_takeEnd  μ hI_μ) ?_
      rintro μ4 ⟨hI_μ4, hC_μ4⟩
      have hF_μ4 : Fr [(0, 16, 2), (0, 16, 3), (2, 1, 2), (2, 1, 3)] true μ μ4 := hF_μ.trans (hC_μ4.mono (by decide +kernel) (by decide))
      have hr_μ4 : μ4.2.2 = μ.2.2 := (hC_μ4.2 rfl : μ4.2.2 = μ.2.2).trans hr_μ
      try rw [hr_μ4]
      exact ok_some ⟨hI_μ4, hF_μ4⟩
    · intro c3
      rw [ti_le] at c3
      refine ok_bd (k_X4_isWell  μ hI_μ) ?_
      rintro r7 μ6 ⟨hI_μ6, hC_μ6, p_μ6⟩
      have hI_μ6 : IX μ6 := hI_μ6
      have hC_μ6 : Fr [] true μ μ6 := hC_μ6
      dsimp only at p_μ6
      have lo_r7 := ti_lo r7
      have hi_r7 := ti_hi r7
      have hF_μ6 : Fr [(0, 16, 2), (0, 16, 3), (2, 1, 2), (2, 1, 3)] true μ μ6 := hF_μ.trans (hC_μ6.mono (by decide +kernel) (by decide))
      have hr_μ6 : μ6.2.2 = μ.2.2 := (hC_μ6.2 rfl : μ6.2.2 = μ.2.2).trans hr_μ
      try rw [hr_μ6]
      refine ok_ite ?_ ?_
      · intro c8
        rw [ti_eq] at c8
        refine ok_bw (k_X4_takeEnd  μ6 hI_μ6) ?_
        rintro μ9 ⟨hI_μ9, hC_μ9⟩
        have hF_μ9 : Fr [(0, 16, 2), (0, 16, 3), (2, 1, 2), (2, 1, 3)] true μ μ9 := hF_μ6.trans (hC_μ9.mono (by decide +kernel) (by decide))
        have hr_μ9 : μ9.2.2 = μ.2.2 := (hC_μ9.2 rfl : μ9.2.2 = μ6.2.2).trans hr_μ6
        try rw [hr_μ9]
        exact ok_some ⟨hI_μ9, hF_μ9⟩
      · intro c8
        rw [ti_eq] at c8
        refine ok_ite ?_ ?_
        · intro c11
          rw [ti_le] at c11
          exact ok_mono (k_X4_readValues_b30 _ ih a1 q1 a2 a3 μ6 hI_μ6 (by (try simp only [hr_μ6]); omega)) (fun q h => ⟨h.1, hF_μ6.trans h.2⟩)
        · intro c11
          rw [ti_le] at c11
          refine ok_bd (k_X4_take (44 : Int32) μ6 hI_μ6) ?_
          rintro r16 μ15 ⟨hI_μ15, hC_μ15, p_μ15⟩
          have hI_μ15 : IX μ15 := hI_μ15
          have hC_μ15 : Fr [(0, 16, 2), (0, 16, 3)] true μ6 μ15 := hC_μ15
          dsimp only at p_μ15
          have lo_r16 := ti_lo r16
          have hi_r16 := ti_hi r16
          have hF_μ15 : Fr [(0, 16, 2), (0, 16, 3), (2, 1, 2), (2, 1, 3)] true μ μ15 := hF_μ6.trans (hC_μ15.mono (by decide +kernel) (by decide))
          have hr_μ15 : μ15.2.2 = μ.2.2 := (hC_μ15.2 rfl : μ15.2.2 = μ6.2.2).trans hr_μ6
          try rw [hr_μ15]
          exact ok_mono (k_X4_readValues_b30 _ ih a1 q1 a2 a3 μ15 hI_μ15 (by (try simp only [hr_μ15]); omega)) (fun q h => ⟨h.1, hF_μ15.trans h.2⟩)
set_option maxHeartbeats 4000000 in
set_option maxRecDepth 100000 in
theorem k_X4_readValues (a1 : Nat) (q1 : sh 0 a1 = (0, 1)) (a2 : Int32) (μ : Mem) (hI_μ : IX μ) : ok (p_X4_readValues a1 a2 μ) (fun q => IX q ∧ Fr [(0, 16, 2), (0, 16, 3), (2, 1, 2), (2, 1, 3)] true μ q) := by
  have li0 : (0 : Int32).toInt = 0 := by decide
  have li1 : (1 : Int32).toInt = 1 := by decide
  have hF_μ : Fr [(0, 16, 2), (0, 16, 3), (2, 1, 2), (2, 1, 3)] true μ μ := Fr.rf
  have hr_μ : μ.2.2 = μ.2.2 := rfl
  rw [p_X4_readValues_eq]
  have lo_a2 := ti_lo a2
  have hi_a2 := ti_hi a2
  refine ok_bw (k_X2_begin a1 q1 (0 : Int32) μ hI_μ) ?_
  rintro μ1 ⟨hI_μ1, hC_μ1⟩
  have hF_μ1 : Fr [(0, 16, 2), (0, 16, 3), (2, 1, 2), (2, 1, 3)] true μ μ1 := hF_μ.trans (hC_μ1.mono (by decide +kernel) (by decide))
  have hr_μ1 : μ1.2.2 = μ.2.2 := (hC_μ1.2 rfl : μ1.2.2 = μ.2.2).trans hr_μ
  try rw [hr_μ1]
  obtain ⟨fu, hfu0, hfu⟩ := fuel_ex
  rw [hfu0]
  exact ok_mono (k_X4_readValues_b7  fu a1 q1 a2 (0 : Int32) μ1 hI_μ1 (by (try simp only [hr_μ1]); omega)) (fun q h => ⟨h.1, hF_μ1.trans h.2⟩)

set_option maxHeartbeats 4000000 in
set_option maxRecDepth 100000 in
theorem k_X11_values  (μ : Mem) (hI_μ : IX μ) : ok (p_X11_values  μ) (fun q => IX q.2 ∧ Fr [(0, 0, 1), (0, 0, 2), (0, 0, 10), (0, 16, 1), (0, 16, 2), (0, 16, 3), (2, 1, 2), (2, 1, 3)] false μ q.2) := by
  have lim1 : (-1 : Int32).toInt = -1 := by decide
  have li0 : (0 : Int32).toInt = 0 := by decide
  have li1 : (1 : Int32).toInt = 1 := by decide
  have hF_μ : Fr [(0, 0, 1), (0, 0, 2), (0, 0, 10), (0, 16, 1), (0, 16, 2), (0, 16, 3), (2, 1, 2), (2, 1, 3)] false μ μ := Fr.rf
  have hr_μ : μ.2.2 = μ.2.2 := rfl
  rw [p_X11_values_eq]
  refine ok_bw (k_X11_takeTape  μ hI_μ) ?_
  rintro μ1 ⟨hI_μ1, hC_μ1⟩
  have hF_μ1 : Fr [(0, 0, 1), (0, 0, 2), (0, 0, 10), (0, 16, 1), (0, 16, 2), (0, 16, 3), (2, 1, 2), (2, 1, 3)] false μ μ1 := hF_μ.trans (hC_μ1.mono (by decide +kernel) (by decide))
  have hr_μ1 : μ1.2.2 = μ.2.2 := (hC_μ1.2 rfl : μ1.2.2 = μ.2.2).trans hr_μ
  try rw [hr_μ1]
  refine ok_bd (k_X2_stars (sel 1 (μ.2.2 0 6)) (sel_1 _) μ1 hI_μ1) ?_
  rintro r4 μ3 ⟨hI_μ3, hC_μ3⟩
  have hI_μ3 : IX μ3 := hI_μ3
  have hC_μ3 : Fr [] true μ1 μ3 := hC_μ3
  have lo_r4 := ti_lo r4
  have hi_r4 := ti_hi r4
  have hF_μ3 : Fr [(0, 0, 1), (0, 0, 2), (0, 0, 10), (0, 16, 1), (0, 16, 2), (0, 16, 3), (2, 1, 2), (2, 1, 3)] false μ μ3 := hF_μ1.trans (hC_μ3.mono (by decide +kernel) (by decide))
  have hr_μ3 : μ3.2.2 = μ.2.2 := (hC_μ3.2 rfl : μ3.2.2 = μ1.2.2).trans hr_μ1
  try rw [hr_μ3]
  refine ok_bw (k_X4_readValues (sel 1 (μ.2.2 0 9)) (sel_1 _) r4 μ3 hI_μ3) ?_
  rintro μ5 ⟨hI_μ5, hC_μ5⟩
  have hF_μ5 : Fr [(0, 0, 1), (0, 0, 2), (0, 0, 10), (0, 16, 1), (0, 16, 2), (0, 16, 3), (2, 1, 2), (2, 1, 3)] false μ μ5 := hF_μ3.trans (hC_μ5.mono (by decide +kernel) (by decide))
  have hr_μ5 : μ5.2.2 = μ.2.2 := (hC_μ5.2 rfl : μ5.2.2 = μ3.2.2).trans hr_μ3
  try rw [hr_μ5]
  refine ok_bd (k_X4_badPlace  μ5 hI_μ5) ?_
  rintro r8 μ7 ⟨hI_μ7, hC_μ7⟩
  have hI_μ7 : IX μ7 := hI_μ7
  have hC_μ7 : Fr [] true μ5 μ7 := hC_μ7
  have lo_r8 := ti_lo r8
  have hi_r8 := ti_hi r8
  have hF_μ7 : Fr [(0, 0, 1), (0, 0, 2), (0, 0, 10), (0, 16, 1), (0, 16, 2), (0, 16, 3), (2, 1, 2), (2, 1, 3)] false μ μ7 := hF_μ5.trans (hC_μ7.mono (by decide +kernel) (by decide))
  have hr_μ7 : μ7.2.2 = μ.2.2 := (hC_μ7.2 rfl : μ7.2.2 = μ5.2.2).trans hr_μ5
  try rw [hr_μ7]
  refine ok_bv (fun μ9 e_μ9 => ?_)
  have hI_μ9 : IX μ9 := by rw [e_μ9]; exact IX_F hI_μ7 (rt_0_2 _)
  have hF_μ9 : Fr [(0, 0, 1), (0, 0, 2), (0, 0, 10), (0, 16, 1), (0, 16, 2), (0, 16, 3), (2, 1, 2), (2, 1, 3)] false μ μ9 := by rw [e_μ9]; exact Fr.put hF_μ7 (by decide +kernel)
  have v_μ9 : (μ9.1 0 2).toInt = r8.toInt := by rw [e_μ9, sF_v]
  have hr_μ9 : μ9.2.2 = μ.2.2 := (by rw [e_μ9]; rfl : μ9.2.2 = μ7.2.2).trans hr_μ7
  try rw [hr_μ9]
  have g10 := ti_lo (μ9.1 0 2)
  have g10h := ti_hi (μ9.1 0 2)
  refine ok_ite ?_ ?_
  · intro c11
    rw [ti_eq] at c11
    refine ok_bv (fun μ12 e_μ12 => ?_)
    have hI_μ12 : IX μ12 := by rw [e_μ12]; exact IX_R hI_μ9
    have hF_μ12 : Fr [(0, 0, 1), (0, 0, 2), (0, 0, 10), (0, 16, 1), (0, 16, 2), (0, 16, 3), (2, 1, 2), (2, 1, 3)] false μ μ12 := by rw [e_μ12]; exact ⟨hF_μ9.1, fun h9 => absurd h9 (by decide)⟩
    have hr_μ12 : μ12.2.2 = μ12.2.2 := rfl
    refine ok_bv (fun μ13 e_μ13 => ?_)
    have hI_μ13 : IX μ13 := by rw [e_μ13]; exact IX_R hI_μ12
    have hF_μ13 : Fr [(0, 0, 1), (0, 0, 2), (0, 0, 10), (0, 16, 1), (0, 16, 2), (0, 16, 3), (2, 1, 2), (2, 1, 3)] false μ μ13 := by rw [e_μ13]; exact ⟨hF_μ12.1, fun h9 => absurd h9 (by decide)⟩
    have hr_μ13 : μ13.2.2 = μ13.2.2 := rfl
    refine ok_bv (fun μ14 e_μ14 => ?_)
    have hI_μ14 : IX μ14 := by rw [e_μ14]; exact IX_F hI_μ13 (rt_0_10 _)
    have hF_μ14 : Fr [(0, 0, 1), (0, 0, 2), (0, 0, 10), (0, 16, 1), (0, 16, 2), (0, 16, 3), (2, 1, 2), (2, 1, 3)] false μ μ14 := by rw [e_μ14]; exact Fr.put hF_μ13 (by decide +kernel)
    have v_μ14 : (μ14.1 0 10).toInt = 1 := by rw [e_μ14, sF_v]; exact TI.e (n := 1) (TI.lit (by decide))
    have hr_μ14 : μ14.2.2 = μ13.2.2 := (by rw [e_μ14]; rfl : μ14.2.2 = μ13.2.2).trans hr_μ13
    try rw [hr_μ14]
    exact ok_some ⟨hI_μ14, hF_μ14⟩
  · intro c11
    rw [ti_eq] at c11
    exact ok_some ⟨hI_μ9, hF_μ9⟩

set_option maxHeartbeats 4000000 in
set_option maxRecDepth 100000 in
theorem k_X11_fault  (μ : Mem) (hI_μ : IX μ) : ok (p_X11_fault  μ) (fun q => IX q.2 ∧ Fr [] true μ q.2) := by
  have li0 : (0 : Int32).toInt = 0 := by decide
  have li1 : (1 : Int32).toInt = 1 := by decide
  have hF_μ : Fr [] true μ μ := Fr.rf
  have hr_μ : μ.2.2 = μ.2.2 := rfl
  rw [p_X11_fault_eq]
  have g1 := ti_lo (μ.1 0 2)
  have g1h := ti_hi (μ.1 0 2)
  exact ok_some ⟨hI_μ, hF_μ⟩
