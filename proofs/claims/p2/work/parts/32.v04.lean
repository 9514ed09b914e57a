set_option maxHeartbeats 4000000 in
set_option maxRecDepth 100000 in
theorem k_X4_readExpression {nE : Nat} (RE : Int32 → Mem → Option Mem) (hRE : ∀ (z1 : Int32) (μ1 : Mem), IX μ1 → (0 ≤ (z1).toInt ∧ (z1).toInt ≤ 20 ∧ 20 - (z1).toInt < nE) → ok (RE z1 μ1) (fun q => IX q ∧ Fr [(0, 16, 2), (0, 16, 3), (0, 16, 6), (1, 17, 0), (2, 2, 1), (2, 2, 2), (3, 2, 1), (3, 2, 4), (3, 2, 5), (3, 2, 6)] true μ1 q)) (a1 : Int32) (μ : Mem) (hI_μ : IX μ) (hc : 0 ≤ (a1).toInt ∧ (a1).toInt ≤ 20 ∧ 20 - (a1).toInt < nE + 1) : ok (p_X4_readExpression RE a1 μ) (fun q => IX q ∧ Fr [(0, 16, 2), (0, 16, 3), (0, 16, 6), (1, 17, 0), (2, 2, 1), (2, 2, 2), (3, 2, 1), (3, 2, 4), (3, 2, 5), (3, 2, 6)] true μ q) := by
  have li0 : (0 : Int32).toInt = 0 := by decide
  have li1 : (1 : Int32).toInt = 1 := by decide
  have li2 : (2 : Int32).toInt = 2 := by decide
  have li20 : (20 : Int32).toInt = 20 := by decide
  have li80 : (80 : Int32).toInt = 80 := by decide
  have hF_μ : Fr [(0, 16, 2), (0, 16, 3), (0, 16, 6), (1, 17, 0), (2, 2, 1), (2, 2, 2), (3, 2, 1), (3, 2, 4), (3, 2, 5), (3, 2, 6)] true μ μ := Fr.rf
  have hr_μ : μ.2.2 = μ.2.2 := rfl
  rw [p_X4_readExpression_eq]
  have lo_a1 := ti_lo a1
  have hi_a1 := ti_hi a1
  refine ok_bd (k_X4_isWell  μ hI_μ) ?_
  rintro r2 μ1 ⟨hI_μ1, hC_μ1, p_μ1⟩
  have hI_μ1 : IX μ1 := hI_μ1
  have hC_μ1 : Fr [] true μ μ1 := hC_μ1
  dsimp only at p_μ1
  have lo_r2 := ti_lo r2
  have hi_r2 := ti_hi r2
  have hF_μ1 : Fr [(0, 16, 2), (0, 16, 3), (0, 16, 6), (1, 17, 0), (2, 2, 1), (2, 2, 2), (3, 2, 1), (3, 2, 4), (3, 2, 5), (3, 2, 6)] true μ μ1 := hF_μ.trans (hC_μ1.mono (by decide +kernel) (by decide))
  have hr_μ1 : μ1.2.2 = μ.2.2 := (hC_μ1.2 rfl : μ1.2.2 = μ.2.2).trans hr_μ
  try rw [hr_μ1]
  refine ok_ite ?_ ?_
  · intro c3
    rw [ti_eq] at c3
    exact ok_some ⟨hI_μ1, hF_μ1⟩
  · intro c3
    rw [ti_eq] at c3
    refine ok_bd (k_X4_here  μ1 hI_μ1) ?_
    rintro r5 μ4 ⟨hI_μ4, hC_μ4⟩
    have hI_μ4 : IX μ4 := hI_μ4
    have hC_μ4 : Fr [] true μ1 μ4 := hC_μ4
    have lo_r5 := ti_lo r5
    have hi_r5 := ti_hi r5
    have hF_μ4 : Fr [(0, 16, 2), (0, 16, 3), (0, 16, 6), (1, 17, 0), (2, 2, 1), (2, 2, 2), (3, 2, 1), (3, 2, 4), (3, 2, 5), (3, 2, 6)] true μ μ4 := hF_μ1.trans (hC_μ4.mono (by decide +kernel) (by decide))
    have hr_μ4 : μ4.2.2 = μ.2.2 := (hC_μ4.2 rfl : μ4.2.2 = μ1.2.2).trans hr_μ1
    try rw [hr_μ4]
    refine ok_ite ?_ ?_
    · intro c6
      rw [ti_le] at c6
      have g7 := ti_lo (μ4.1 16 2)
      have g7h := ti_hi (μ4.1 16 2)
      refine ok_bw (k_X4_fail (μ4.1 16 2) μ4 hI_μ4) ?_
      rintro μ8 ⟨hI_μ8, hC_μ8⟩
      have hF_μ8 : Fr [(0, 16, 2), (0, 16, 3), (0, 16, 6), (1, 17, 0), (2, 2, 1), (2, 2, 2), (3, 2, 1), (3, 2, 4), (3, 2, 5), (3, 2, 6)] true μ μ8 := hF_μ4.trans (hC_μ8.mono (by decide +kernel) (by decide))
      have hr_μ8 : μ8.2.2 = μ.2.2 := (hC_μ8.2 rfl : μ8.2.2 = μ4.2.2).trans hr_μ4
      try rw [hr_μ8]
      exact ok_some ⟨hI_μ8, hF_μ8⟩
    · intro c6
      rw [ti_le] at c6
      refine ok_bd (k_X3_count (sel 2 (μ.2.2 16 4)) (sel_2 _) (2 : Int32) μ4 hI_μ4) ?_
      rintro r11 μ10 ⟨hI_μ10, hC_μ10⟩
      have hI_μ10 : IX μ10 := hI_μ10
      have hC_μ10 : Fr [(2, 2, 1), (3, 2, 1)] true μ4 μ10 := hC_μ10
      have lo_r11 := ti_lo r11
      have hi_r11 := ti_hi r11
      have hF_μ10 : Fr [(0, 16, 2), (0, 16, 3), (0, 16, 6), (1, 17, 0), (2, 2, 1), (2, 2, 2), (3, 2, 1), (3, 2, 4), (3, 2, 5), (3, 2, 6)] true μ μ10 := hF_μ4.trans (hC_μ10.mono (by decide +kernel) (by decide))
      have hr_μ10 : μ10.2.2 = μ.2.2 := (hC_μ10.2 rfl : μ10.2.2 = μ4.2.2).trans hr_μ4
      try rw [hr_μ10]
      refine ok_ite ?_ ?_
      · intro c12
        rw [ti_le] at c12
        refine ok_ite ?_ ?_
        · intro c13
          rw [ti_eq] at c13
          refine ok_ite ?_ ?_
          · intro c14
            rw [ti_eq] at c14
            refine ok_ite ?_ ?_
            · intro c15
              rw [ti_eq] at c15
              refine ok_bw (k_X4_readSigned RE hRE r5 a1 μ10 hI_μ10 (by (try simp only [hr_μ10]); omega)) ?_
              rintro μ16 ⟨hI_μ16, hC_μ16⟩
              have hF_μ16 : Fr [(0, 16, 2), (0, 16, 3), (0, 16, 6), (1, 17, 0), (2, 2, 1), (2, 2, 2), (3, 2, 1), (3, 2, 4), (3, 2, 5), (3, 2, 6)] true μ μ16 := hF_μ10.trans (hC_μ16.mono (by decide +kernel) (by decide))
              have hr_μ16 : μ16.2.2 = μ.2.2 := (hC_μ16.2 rfl : μ16.2.2 = μ10.2.2).trans hr_μ10
              try rw [hr_μ16]
              exact ok_some ⟨hI_μ16, hF_μ16⟩
            · intro c15
              rw [ti_eq] at c15
              refine ok_bw (k_X4_readCall RE hRE r5 a1 μ10 hI_μ10 (by (try simp only [hr_μ10]); omega)) ?_
              rintro μ18 ⟨hI_μ18, hC_μ18⟩
              have hF_μ18 : Fr [(0, 16, 2), (0, 16, 3), (0, 16, 6), (1, 17, 0), (2, 2, 1), (2, 2, 2), (3, 2, 1), (3, 2, 4), (3, 2, 5), (3, 2, 6)] true μ μ18 := hF_μ10.trans (hC_μ18.mono (by decide +kernel) (by decide))
              have hr_μ18 : μ18.2.2 = μ.2.2 := (hC_μ18.2 rfl : μ18.2.2 = μ10.2.2).trans hr_μ10
              try rw [hr_μ18]
              exact ok_some ⟨hI_μ18, hF_μ18⟩
          · intro c14
            rw [ti_eq] at c14
            refine ok_bw (k_X4_readVar r5 μ10 hI_μ10) ?_
            rintro μ20 ⟨hI_μ20, hC_μ20⟩
            have hF_μ20 : Fr [(0, 16, 2), (0, 16, 3), (0, 16, 6), (1, 17, 0), (2, 2, 1), (2, 2, 2), (3, 2, 1), (3, 2, 4), (3, 2, 5), (3, 2, 6)] true μ μ20 := hF_μ10.trans (hC_μ20.mono (by decide +kernel) (by decide))
            have hr_μ20 : μ20.2.2 = μ.2.2 := (hC_μ20.2 rfl : μ20.2.2 = μ10.2.2).trans hr_μ10
            try rw [hr_μ20]
            exact ok_some ⟨hI_μ20, hF_μ20⟩
        · intro c13
          rw [ti_eq] at c13
          refine ok_bd (k_X4_readNumber  μ10 hI_μ10) ?_
          rintro r23 μ22 ⟨hI_μ22, hC_μ22⟩
          have hI_μ22 : IX μ22 := hI_μ22
          have hC_μ22 : Fr [(0, 16, 2), (0, 16, 3)] true μ10 μ22 := hC_μ22
          have hF_μ22 : Fr [(0, 16, 2), (0, 16, 3), (0, 16, 6), (1, 17, 0), (2, 2, 1), (2, 2, 2), (3, 2, 1), (3, 2, 4), (3, 2, 5), (3, 2, 6)] true μ μ22 := hF_μ10.trans (hC_μ22.mono (by decide +kernel) (by decide))
          have hr_μ22 : μ22.2.2 = μ.2.2 := (hC_μ22.2 rfl : μ22.2.2 = μ10.2.2).trans hr_μ10
          try rw [hr_μ22]
          refine ok_bd (k_X3_add (sel 2 (μ.2.2 16 4)) (sel_2 _) (0 : Int32) (s_X0_kind r23) (s_X0_bits r23) μ22 hI_μ22) ?_
          rintro r25 μ24 ⟨hI_μ24, hC_μ24⟩
          have hI_μ24 : IX μ24 := hI_μ24
          have hC_μ24 : Fr [(2, 2, 2), (3, 2, 4), (3, 2, 5), (3, 2, 6)] true μ22 μ24 := hC_μ24
          have lo_r25 := ti_lo r25
          have hi_r25 := ti_hi r25
          have hF_μ24 : Fr [(0, 16, 2), (0, 16, 3), (0, 16, 6), (1, 17, 0), (2, 2, 1), (2, 2, 2), (3, 2, 1), (3, 2, 4), (3, 2, 5), (3, 2, 6)] true μ μ24 := hF_μ22.trans (hC_μ24.mono (by decide +kernel) (by decide))
          have hr_μ24 : μ24.2.2 = μ.2.2 := (hC_μ24.2 rfl : μ24.2.2 = μ22.2.2).trans hr_μ22
          try rw [hr_μ24]
          exact ok_some ⟨hI_μ24, hF_μ24⟩
      · intro c12
        rw [ti_le] at c12
        have g26 := ti_lo (μ10.1 16 2)
        have g26h := ti_hi (μ10.1 16 2)
        refine ok_bw (k_X4_fail (μ10.1 16 2) μ10 hI_μ10) ?_
        rintro μ27 ⟨hI_μ27, hC_μ27⟩
        have hF_μ27 : Fr [(0, 16, 2), (0, 16, 3), (0, 16, 6), (1, 17, 0), (2, 2, 1), (2, 2, 2), (3, 2, 1), (3, 2, 4), (3, 2, 5), (3, 2, 6)] true μ μ27 := hF_μ10.trans (hC_μ27.mono (by decide +kernel) (by decide))
        have hr_μ27 : μ27.2.2 = μ.2.2 := (hC_μ27.2 rfl : μ27.2.2 = μ10.2.2).trans hr_μ10
        try rw [hr_μ27]
        exact ok_some ⟨hI_μ27, hF_μ27⟩
theorem kr_X4_readExpression : ∀ (n : Nat) (a1 : Int32) (μ : Mem), IX μ → (0 ≤ (a1).toInt ∧ (a1).toInt ≤ 20 ∧ 20 - (a1).toInt < n) → ok (pr_X4_readExpression n a1 μ) (fun q => IX q ∧ Fr [(0, 16, 2), (0, 16, 3), (0, 16, 6), (1, 17, 0), (2, 2, 1), (2, 2, 2), (3, 2, 1), (3, 2, 4), (3, 2, 5), (3, 2, 6)] true μ q) := by
  intro n
  induction n with
  | zero => intro a1 μ hI hc; exact absurd hc (by omega)
  | succ n ih =>
    intro a1 μ hI hc
    rw [pr_X4_readExpression_s]
    exact k_X4_readExpression (nE := n) (pr_X4_readExpression n) ih a1 μ hI (by omega)

set_option maxHeartbeats 4000000 in
set_option maxRecDepth 100000 in
theorem k_X4_readFunction_b106 (a3 : Int32) (μ : Mem) (hI_μ : IX μ) : ok (p_X4_readFunction_b106 a3 μ) (fun q => IX q ∧ Fr [(0, 16, 2), (0, 16, 3), (0, 16, 6), (1, 17, 0), (2, 2, 0), (2, 2, 1), (2, 2, 2), (3, 2, 1), (3, 2, 2), (3, 2, 3), (3, 2, 4), (3, 2, 5), (3, 2, 6)] true μ q) := by
  have li0 : (0 : Int32).toInt = 0 := by decide
  have li1 : (1 : Int32).toInt = 1 := by decide
  have li14 : (14 : Int32).toInt = 14 := by decide
  have li59 : (59 : Int32).toInt = 59 := by decide
  have li61 : (61 : Int32).toInt = 61 := by decide
  have hF_μ : Fr [(0, 16, 2), (0, 16, 3), (0, 16, 6), (1, 17, 0), (2, 2, 0), (2, 2, 1), (2, 2, 2), (3, 2, 1), (3, 2, 2), (3, 2, 3), (3, 2, 4), (3, 2, 5), (3, 2, 6)] true μ μ := Fr.rf
  have hr_μ : μ.2.2 = μ.2.2 := rfl
  rw [p_X4_readFunction_b106_eq]
  have lo_a3 := ti_lo a3
  have hi_a3 := ti_hi a3
  refine ok_bd (k_X4_take (61 : Int32) μ hI_μ) ?_
  rintro r32 μ31 ⟨hI_μ31, hC_μ31, p_μ31⟩
  have hI_μ31 : IX μ31 := hI_μ31
  have hC_μ31 : Fr [(0, 16, 2), (0, 16, 3)] true μ μ31 := hC_μ31
  dsimp only at p_μ31
  have lo_r32 := ti_lo r32
  have hi_r32 := ti_hi r32
  have hF_μ31 : Fr [(0, 16, 2), (0, 16, 3), (0, 16, 6), (1, 17, 0), (2, 2, 0), (2, 2, 1), (2, 2, 2), (3, 2, 1), (3, 2, 2), (3, 2, 3), (3, 2, 4), (3, 2, 5), (3, 2, 6)] true μ μ31 := hF_μ.trans (hC_μ31.mono (by decide +kernel) (by decide))
  have hr_μ31 : μ31.2.2 = μ.2.2 := (hC_μ31.2 rfl : μ31.2.2 = μ.2.2).trans hr_μ
  try rw [hr_μ31]
  refine ok_ite ?_ ?_
  · intro c33
    rw [ti_eq] at c33
    exact ok_some ⟨hI_μ31, hF_μ31⟩
  · intro c33
    rw [ti_eq] at c33
    refine ok_bw (k_X3_begin (sel 2 (μ.2.2 16 4)) (sel_2 _) a3 μ31 hI_μ31) ?_
    rintro μ34 ⟨hI_μ34, hC_μ34⟩
    have hF_μ34 : Fr [(0, 16, 2), (0, 16, 3), (0, 16, 6), (1, 17, 0), (2, 2, 0), (2, 2, 1), (2, 2, 2), (3, 2, 1), (3, 2, 2), (3, 2, 3), (3, 2, 4), (3, 2, 5), (3, 2, 6)] true μ μ34 := hF_μ31.trans (hC_μ34.mono (by decide +kernel) (by decide))
    have hr_μ34 : μ34.2.2 = μ.2.2 := (hC_μ34.2 rfl : μ34.2.2 = μ31.2.2).trans hr_μ31
    try rw [hr_μ34]
    refine ok_bw (kr_X4_readExpression 50 (0 : Int32) μ34 hI_μ34 (by (try simp only [hr_μ34]); omega)) ?_
    rintro μ36 ⟨hI_μ36, hC_μ36⟩
    have hF_μ36 : Fr [(0, 16, 2), (0, 16, 3), (0, 16, 6), (1, 17, 0), (2, 2, 0), (2, 2, 1), (2, 2, 2), (3, 2, 1), (3, 2, 2), (3, 2, 3), (3, 2, 4), (3, 2, 5), (3, 2, 6)] true μ μ36 := hF_μ34.trans (hC_μ36.mono (by decide +kernel) (by decide))
    have hr_μ36 : μ36.2.2 = μ.2.2 := (hC_μ36.2 rfl : μ36.2.2 = μ34.2.2).trans hr_μ34
    try rw [hr_μ36]
    refine ok_bd (k_X4_take (59 : Int32) μ36 hI_μ36) ?_
    rintro r39 μ38 ⟨hI_μ38, hC_μ38, p_μ38⟩
    have hI_μ38 : IX μ38 := hI_μ38
    have hC_μ38 : Fr [(0, 16, 2), (0, 16, 3)] true μ36 μ38 := hC_μ38
    dsimp only at p_μ38
    have lo_r39 := ti_lo r39
    have hi_r39 := ti_hi r39
    have hF_μ38 : Fr [(0, 16, 2), (0, 16, 3), (0, 16, 6), (1, 17, 0), (2, 2, 0), (2, 2, 1), (2, 2, 2), (3, 2, 1), (3, 2, 2), (3, 2, 3), (3, 2, 4), (3, 2, 5), (3, 2, 6)] true μ μ38 := hF_μ36.trans (hC_μ38.mono (by decide +kernel) (by decide))
    have hr_μ38 : μ38.2.2 = μ.2.2 := (hC_μ38.2 rfl : μ38.2.2 = μ36.2.2).trans hr_μ36
    try rw [hr_μ38]
    refine ok_bd (k_X3_add (sel 2 (μ.2.2 16 4)) (sel_2 _) (14 : Int32) (0 : Int32) (0 : Int32) μ38 hI_μ38) ?_
    rintro r41 μ40 ⟨hI_μ40, hC_μ40⟩
    have hI_μ40 : IX μ40 := hI_μ40
    have hC_μ40 : Fr [(2, 2, 2), (3, 2, 4), (3, 2, 5), (3, 2, 6)] true μ38 μ40 := hC_μ40
    have lo_r41 := ti_lo r41
    have hi_r41 := ti_hi r41
    have hF_μ40 : Fr [(0, 16, 2), (0, 16, 3), (0, 16, 6), (1, 17, 0), (2, 2, 0), (2, 2, 1), (2, 2, 2), (3, 2, 1), (3, 2, 2), (3, 2, 3), (3, 2, 4), (3, 2, 5), (3, 2, 6)] true μ μ40 := hF_μ38.trans (hC_μ40.mono (by decide +kernel) (by decide))
    have hr_μ40 : μ40.2.2 = μ.2.2 := (hC_μ40.2 rfl : μ40.2.2 = μ38.2.2).trans hr_μ38
    try rw [hr_μ40]
    exact ok_some ⟨hI_μ40, hF_μ40⟩
set_option maxHeartbeats 4000000 in
set_option maxRecDepth 100000 in
theorem k_X4_readFunction  (μ : Mem) (hI_μ : IX μ) : ok (p_X4_readFunction  μ) (fun q => IX q ∧ Fr [(0, 16, 2), (0, 16, 3), (0, 16, 6), (1, 17, 0), (2, 2, 0), (2, 2, 1), (2, 2, 2), (3, 2, 1), (3, 2, 2), (3, 2, 3), (3, 2, 4), (3, 2, 5), (3, 2, 6)] true μ q) := by
  have lim1 : (-1 : Int32).toInt = -1 := by decide
  have li0 : (0 : Int32).toInt = 0 := by decide
  have li1 : (1 : Int32).toInt = 1 := by decide
  have li6 : (6 : Int32).toInt = 6 := by decide
  have li40 : (40 : Int32).toInt = 40 := by decide
  have li41 : (41 : Int32).toInt = 41 := by decide
  have li61 : (61 : Int32).toInt = 61 := by decide
  have li97 : (97 : Int32).toInt = 97 := by decide
  have hF_μ : Fr [(0, 16, 2), (0, 16, 3), (0, 16, 6), (1, 17, 0), (2, 2, 0), (2, 2, 1), (2, 2, 2), (3, 2, 1), (3, 2, 2), (3, 2, 3), (3, 2, 4), (3, 2, 5), (3, 2, 6)] true μ μ := Fr.rf
  have hr_μ : μ.2.2 = μ.2.2 := rfl
  rw [p_X4_readFunction_eq]
  have g1 := ti_lo (μ.1 16 2)
  have g1h := ti_hi (μ.1 16 2)
  refine ok_bv (fun v2 ev2 => ?_)
  have tv2 : v2.toInt = (μ.1 16 2).toInt := congrArg Int32.toInt ev2
  refine ok_bd (k_X4_here  μ hI_μ) ?_
  rintro r4 μ3 ⟨hI_μ3, hC_μ3⟩
  have hI_μ3 : IX μ3 := hI_μ3
  have hC_μ3 : Fr [] true μ μ3 := hC_μ3
  have lo_r4 := ti_lo r4
  have hi_r4 := ti_hi r4
  have hF_μ3 : Fr [(0, 16, 2), (0, 16, 3), (0, 16, 6), (1, 17, 0), (2, 2, 0), (2, 2, 1), (2, 2, 2), (3, 2, 1), (3, 2, 2), (3, 2, 3), (3, 2, 4), (3, 2, 5), (3, 2, 6)] true μ μ3 := hF_μ.trans (hC_μ3.mono (by decide +kernel) (by decide))
  have hr_μ3 : μ3.2.2 = μ.2.2 := (hC_μ3.2 rfl : μ3.2.2 = μ.2.2).trans hr_μ
  try rw [hr_μ3]
  refine ok_ite ?_ ?_
  · intro c5
    rw [ti_eq] at c5
    have g6 := ti_lo (μ3.1 16 2)
    have g6h := ti_hi (μ3.1 16 2)
    have f7 : (μ3.1 16 2).toInt = (μ.1 16 2).toInt := congrArg Int32.toInt (hC_μ3.1 16 2 (by decide +kernel))
    refine ok_bw (k_X4_fail (μ3.1 16 2) μ3 hI_μ3) ?_
    rintro μ8 ⟨hI_μ8, hC_μ8⟩
    have hF_μ8 : Fr [(0, 16, 2), (0, 16, 3), (0, 16, 6), (1, 17, 0), (2, 2, 0), (2, 2, 1), (2, 2, 2), (3, 2, 1), (3, 2, 2), (3, 2, 3), (3, 2, 4), (3, 2, 5), (3, 2, 6)] true μ μ8 := hF_μ3.trans (hC_μ8.mono (by decide +kernel) (by decide))
    have hr_μ8 : μ8.2.2 = μ.2.2 := (hC_μ8.2 rfl : μ8.2.2 = μ3.2.2).trans hr_μ3
    try rw [hr_μ8]
    exact ok_some ⟨hI_μ8, hF_μ8⟩
  · intro c5
    rw [ti_eq] at c5
    have g10 := ti_lo (μ3.1 16 2)
    have g10h := ti_hi (μ3.1 16 2)
    have f11 : (μ3.1 16 2).toInt = (μ.1 16 2).toInt := congrArg Int32.toInt (hC_μ3.1 16 2 (by decide +kernel))
    refine ok_bv (fun μ12 e_μ12 => ?_)
    have hI_μ12 : IX μ12 := by rw [e_μ12]; exact IX_F hI_μ3 (rt_16_2 _)
    have hF_μ12 : Fr [(0, 16, 2), (0, 16, 3), (0, 16, 6), (1, 17, 0), (2, 2, 0), (2, 2, 1), (2, 2, 2), (3, 2, 1), (3, 2, 2), (3, 2, 3), (3, 2, 4), (3, 2, 5), (3, 2, 6)] true μ μ12 := by rw [e_μ12]; exact Fr.put hF_μ3 (by decide +kernel)
    have hr_μ12 : μ12.2.2 = μ.2.2 := (by rw [e_μ12]; rfl : μ12.2.2 = μ3.2.2).trans hr_μ3
    try rw [hr_μ12]
    refine ok_bv (fun μ13 e_μ13 => ?_)
    have hI_μ13 : IX μ13 := by rw [e_μ13]; exact IX_F hI_μ12 (rp_16_6 (by omega))
    have hF_μ13 : Fr [(0, 16, 2), (0, 16, 3), (0, 16, 6), (1, 17, 0), (2, 2, 0), (2, 2, 1), (2, 2, 2), (3, 2, 1), (3, 2, 2), (3, 2, 3), (3, 2, 4), (3, 2, 5), (3, 2, 6)] true μ μ13 := by rw [e_μ13]; exact Fr.put hF_μ12 (by decide +kernel)
    have v_μ13 : (μ13.1 16 6).toInt = 0 := by rw [e_μ13, sF_v]; exact TI.e (n := 0) (TI.lit (by decide))
    have hr_μ13 : μ13.2.2 = μ.2.2 := (by rw [e_μ13]; rfl : μ13.2.2 = μ12.2.2).trans hr_μ12
    try rw [hr_μ13]
    refine ok_bd (k_X4_take (40 : Int32) μ13 hI_μ13) ?_
    rintro r15 μ14 ⟨hI_μ14, hC_μ14, p_μ14⟩
    have hI_μ14 : IX μ14 := hI_μ14
    have hC_μ14 : Fr [(0, 16, 2), (0, 16, 3)] true μ13 μ14 := hC_μ14
    dsimp only at p_μ14
    have lo_r15 := ti_lo r15
    have hi_r15 := ti_hi r15
    have hF_μ14 : Fr [(0, 16, 2), (0, 16, 3), (0, 16, 6), (1, 17, 0), (2, 2, 0), (2, 2, 1), (2, 2, 2), (3, 2, 1), (3, 2, 2), (3, 2, 3), (3, 2, 4), (3, 2, 5), (3, 2, 6)] true μ μ14 := hF_μ13.trans (hC_μ14.mono (by decide +kernel) (by decide))
    have hr_μ14 : μ14.2.2 = μ.2.2 := (hC_μ14.2 rfl : μ14.2.2 = μ13.2.2).trans hr_μ13
    try rw [hr_μ14]
    refine ok_bw (k_X4_readNames  μ14 hI_μ14) ?_
    rintro μ16 ⟨hI_μ16, hC_μ16⟩
    have hF_μ16 : Fr [(0, 16, 2), (0, 16, 3), (0, 16, 6), (1, 17, 0), (2, 2, 0), (2, 2, 1), (2, 2, 2), (3, 2, 1), (3, 2, 2), (3, 2, 3), (3, 2, 4), (3, 2, 5), (3, 2, 6)] true μ μ16 := hF_μ14.trans (hC_μ16.mono (by decide +kernel) (by decide))
    have hr_μ16 : μ16.2.2 = μ.2.2 := (hC_μ16.2 rfl : μ16.2.2 = μ14.2.2).trans hr_μ14
    try rw [hr_μ16]
    refine ok_bd (k_X4_take (41 : Int32) μ16 hI_μ16) ?_
    rintro r19 μ18 ⟨hI_μ18, hC_μ18, p_μ18⟩
    have hI_μ18 : IX μ18 := hI_μ18
    have hC_μ18 : Fr [(0, 16, 2), (0, 16, 3)] true μ16 μ18 := hC_μ18
    dsimp only at p_μ18
    have lo_r19 := ti_lo r19
    have hi_r19 := ti_hi r19
    have hF_μ18 : Fr [(0, 16, 2), (0, 16, 3), (0, 16, 6), (1, 17, 0), (2, 2, 0), (2, 2, 1), (2, 2, 2), (3, 2, 1), (3, 2, 2), (3, 2, 3), (3, 2, 4), (3, 2, 5), (3, 2, 6)] true μ μ18 := hF_μ16.trans (hC_μ18.mono (by decide +kernel) (by decide))
    have hr_μ18 : μ18.2.2 = μ.2.2 := (hC_μ18.2 rfl : μ18.2.2 = μ16.2.2).trans hr_μ16
    try rw [hr_μ18]
    refine ok_bd (k_X4_isWell  μ18 hI_μ18) ?_
    rintro r21 μ20 ⟨hI_μ20, hC_μ20, p_μ20⟩
    have hI_μ20 : IX μ20 := hI_μ20
    have hC_μ20 : Fr [] true μ18 μ20 := hC_μ20
    dsimp only at p_μ20
    have lo_r21 := ti_lo r21
    have hi_r21 := ti_hi r21
    have hF_μ20 : Fr [(0, 16, 2), (0, 16, 3), (0, 16, 6), (1, 17, 0), (2, 2, 0), (2, 2, 1), (2, 2, 2), (3, 2, 1), (3, 2, 2), (3, 2, 3), (3, 2, 4), (3, 2, 5), (3, 2, 6)] true μ μ20 := hF_μ18.trans (hC_μ20.mono (by decide +kernel) (by decide))
    have hr_μ20 : μ20.2.2 = μ.2.2 := (hC_μ20.2 rfl : μ20.2.2 = μ18.2.2).trans hr_μ18
    try rw [hr_μ20]
    refine ok_ite ?_ ?_
    · intro c22
      rw [ti_eq] at c22
      exact ok_some ⟨hI_μ20, hF_μ20⟩
    · intro c22
      rw [ti_eq] at c22
      have g23 := rg_16_6 hI_μ20
      refine ok_bv (fun v24 ev24 => ?_)
      first | have tv24 : v24.toInt = (((r4.toInt - 97) * 6) + (μ20.1 16 6).toInt) := (congrArg Int32.toInt ev24).trans (TI.e (n := (((r4.toInt - 97) * 6) + (μ20.1 16 6).toInt)) (TI.add (TI.mul (TI.sub TI.rf (TI.lit (by decide)) (by omega) (by omega)) (TI.lit (by decide)) (by omega) (by omega)) TI.rf (by omega) (by omega))) | skip
      refine ok_bd (k_X4_here  μ20 hI_μ20) ?_
      rintro r26 μ25 ⟨hI_μ25, hC_μ25⟩
      have hI_μ25 : IX μ25 := hI_μ25
      have hC_μ25 : Fr [] true μ20 μ25 := hC_μ25
      have lo_r26 := ti_lo r26
      have hi_r26 := ti_hi r26
      have hF_μ25 : Fr [(0, 16, 2), (0, 16, 3), (0, 16, 6), (1, 17, 0), (2, 2, 0), (2, 2, 1), (2, 2, 2), (3, 2, 1), (3, 2, 2), (3, 2, 3), (3, 2, 4), (3, 2, 5), (3, 2, 6)] true μ μ25 := hF_μ20.trans (hC_μ25.mono (by decide +kernel) (by decide))
      have hr_μ25 : μ25.2.2 = μ.2.2 := (hC_μ25.2 rfl : μ25.2.2 = μ20.2.2).trans hr_μ20
      try rw [hr_μ25]
      refine ok_ite ?_ ?_
      · intro c27
        rw [ti_eq] at c27
        refine ok_bd (k_X3_startOf (sel 2 (μ.2.2 16 4)) (sel_2 _) v24 μ25 hI_μ25) ?_
        rintro r29 μ28 ⟨hI_μ28, hC_μ28⟩
        have hI_μ28 : IX μ28 := hI_μ28
        have hC_μ28 : Fr [] true μ25 μ28 := hC_μ28
        have lo_r29 := ti_lo r29
        have hi_r29 := ti_hi r29
        have hF_μ28 : Fr [(0, 16, 2), (0, 16, 3), (0, 16, 6), (1, 17, 0), (2, 2, 0), (2, 2, 1), (2, 2, 2), (3, 2, 1), (3, 2, 2), (3, 2, 3), (3, 2, 4), (3, 2, 5), (3, 2, 6)] true μ μ28 := hF_μ25.trans (hC_μ28.mono (by decide +kernel) (by decide))
        have hr_μ28 : μ28.2.2 = μ.2.2 := (hC_μ28.2 rfl : μ28.2.2 = μ25.2.2).trans hr_μ25
        try rw [hr_μ28]
        refine ok_ite ?_ ?_
        · intro c30
          rw [ti_eq] at c30
          exact ok_mono (k_X4_readFunction_b106  v24 μ28 hI_μ28) (fun q h => ⟨h.1, hF_μ28.trans h.2⟩)
        · intro c30
          rw [ti_eq] at c30
          refine ok_bw (k_X4_fail v2 μ28 hI_μ28) ?_
          rintro μ42 ⟨hI_μ42, hC_μ42⟩
          have hF_μ42 : Fr [(0, 16, 2), (0, 16, 3), (0, 16, 6), (1, 17, 0), (2, 2, 0), (2, 2, 1), (2, 2, 2), (3, 2, 1), (3, 2, 2), (3, 2, 3), (3, 2, 4), (3, 2, 5), (3, 2, 6)] true μ μ42 := hF_μ28.trans (hC_μ42.mono (by decide +kernel) (by decide))
          have hr_μ42 : μ42.2.2 = μ.2.2 := (hC_μ42.2 rfl : μ42.2.2 = μ28.2.2).trans hr_μ28
          try rw [hr_μ42]
          exact ok_mono (k_X4_readFunction_b106  v24 μ42 hI_μ42) (fun q h => ⟨h.1, hF_μ42.trans h.2⟩)
      · intro c27
        rw [ti_eq] at c27
        exact ok_mono (k_X4_readFunction_b106  v24 μ25 hI_μ25) (fun q h => ⟨h.1, hF_μ25.trans h.2⟩)

set_option maxHeartbeats 4000000 in
set_option maxRecDepth 100000 in
theorem k_X4_readProgram_b14 : ∀ (n : Nat) (a2 : Int32) (μ : Mem), IX μ → (0 ≤ (a2).toInt ∧ (a2).toInt ≤ 801 ∧ 801 - (a2).toInt < n) → ok (p_X4_readProgram_b14 n a2 μ) (fun q => IX q ∧ Fr [(0, 16, 2), (0, 16, 3), (0, 16, 6), (1, 17, 0), (2, 2, 0), (2, 2, 1), (2, 2, 2), (3, 2, 1), (3, 2, 2), (3, 2, 3), (3, 2, 4), (3, 2, 5), (3, 2, 6)] false μ q) := by
  have li0 : (0 : Int32).toInt = 0 := by decide
  have li1 : (1 : Int32).toInt = 1 := by decide
  have li800 : (800 : Int32).toInt = 800 := by decide
  intro n
  induction n with
  | zero => intro a2 μ hI_μ hc; exact absurd hc (by have lo_a2 := ti_lo a2; have hi_a2 := ti_hi a2; omega)
  | succ n ih =>
    intro a2 μ hI_μ hc
    have hF_μ : Fr [(0, 16, 2), (0, 16, 3), (0, 16, 6), (1, 17, 0), (2, 2, 0), (2, 2, 1), (2, 2, 2), (3, 2, 1), (3, 2, 2), (3, 2, 3), (3, 2, 4), (3, 2, 5), (3, 2, 6)] false μ μ := Fr.rf
    have hr_μ : μ.2.2 = μ.2.2 := rfl
    rw [p_X4_readProgram_b14_s]
    have lo_a2 := ti_lo a2
    have hi_a2 := ti_hi a2
    refine ok_ite ?_ ?_
    · intro c4
      rw [ti_lt] at c4
      exact ok_some ⟨hI_μ, hF_μ⟩
    · intro c4
      rw [ti_lt] at c4
      refine ok_bd (k_X4_isWell  μ hI_μ) ?_
      rintro r6 μ5 ⟨hI_μ5, hC_μ5, p_μ5⟩
      have hI_μ5 : IX μ5 := hI_μ5
      have hC_μ5 : Fr [] true μ μ5 := hC_μ5
      dsimp only at p_μ5
      have lo_r6 := ti_lo r6
      have hi_r6 := ti_hi r6
      have hF_μ5 : Fr [(0, 16, 2), (0, 16, 3), (0, 16, 6), (1, 17, 0), (2, 2, 0), (2, 2, 1), (2, 2, 2), (3, 2, 1), (3, 2, 2), (3, 2, 3), (3, 2, 4), (3, 2, 5), (3, 2, 6)] false μ μ5 := hF_μ.trans (hC_μ5.mono (by decide +kernel) (by decide))
      have hr_μ5 : μ5.2.2 = μ.2.2 := (hC_μ5.2 rfl : μ5.2.2 = μ.2.2).trans hr_μ
      try rw [hr_μ5]
      refine ok_ite ?_ ?_
      · intro c7
        rw [ti_eq] at c7
        exact ok_some ⟨hI_μ5, hF_μ5⟩
      · intro c7
        rw [ti_eq] at c7
        have g8 := ti_lo (μ5.1 16 2)
        have g8h := ti_hi (μ5.1 16 2)
        have g9 := rg_16_1 hI_μ5
        refine ok_ite ?_ ?_
        · intro c10
          rw [ti_le] at c10
          exact ok_some ⟨hI_μ5, hF_μ5⟩
        · intro c10
          rw [ti_le] at c10
          refine ok_bw (k_X4_readFunction  μ5 hI_μ5) ?_
          rintro μ11 ⟨hI_μ11, hC_μ11⟩
          have hF_μ11 : Fr [(0, 16, 2), (0, 16, 3), (0, 16, 6), (1, 17, 0), (2, 2, 0), (2, 2, 1), (2, 2, 2), (3, 2, 1), (3, 2, 2), (3, 2, 3), (3, 2, 4), (3, 2, 5), (3, 2, 6)] false μ μ11 := hF_μ5.trans (hC_μ11.mono (by decide +kernel) (by decide))
          have hr_μ11 : μ11.2.2 = μ.2.2 := (hC_μ11.2 rfl : μ11.2.2 = μ5.2.2).trans hr_μ5
          try rw [hr_μ11]
          refine ok_bv (fun v13 ev13 => ?_)
          first | have tv13 : v13.toInt = (a2.toInt + 1) := (congrArg Int32.toInt ev13).trans (TI.e (n := (a2.toInt + 1)) (TI.add TI.rf (TI.lit (by decide)) (by omega) (by omega))) | have tv13 : v13.toInt ≤ a2.toInt + 1 := by rw [ev13]; exact ti_inc _ | skip
          exact ok_mono (ih v13 μ11 hI_μ11 (by (try simp only [hr_μ11]); omega)) (fun q h => ⟨h.1, hF_μ11.trans h.2⟩)
set_option maxHeartbeats 4000000 in
set_option maxRecDepth 100000 in
theorem k_X4_readProgram (a1 : Nat) (q1 : sh 0 a1 = (0, 2)) (μ : Mem) (hI_μ : IX μ) : ok (p_X4_readProgram a1 μ) (fun q => IX q ∧ Fr [(0, 16, 2), (0, 16, 3), (0, 16, 6), (1, 17, 0), (2, 2, 0), (2, 2, 1), (2, 2, 2), (3, 2, 1), (3, 2, 2), (3, 2, 3), (3, 2, 4), (3, 2, 5), (3, 2, 6)] false μ q) := by
  have li0 : (0 : Int32).toInt = 0 := by decide
  have li1 : (1 : Int32).toInt = 1 := by decide
  have hF_μ : Fr [(0, 16, 2), (0, 16, 3), (0, 16, 6), (1, 17, 0), (2, 2, 0), (2, 2, 1), (2, 2, 2), (3, 2, 1), (3, 2, 2), (3, 2, 3), (3, 2, 4), (3, 2, 5), (3, 2, 6)] false μ μ := Fr.rf
  have hr_μ : μ.2.2 = μ.2.2 := rfl
  rw [p_X4_readProgram_eq]
  refine ok_bv (fun μ1 e_μ1 => ?_)
  have hI_μ1 : IX μ1 := by rw [e_μ1]; exact IX_R hI_μ
  have hF_μ1 : Fr [(0, 16, 2), (0, 16, 3), (0, 16, 6), (1, 17, 0), (2, 2, 0), (2, 2, 1), (2, 2, 2), (3, 2, 1), (3, 2, 2), (3, 2, 3), (3, 2, 4), (3, 2, 5), (3, 2, 6)] false μ μ1 := by rw [e_μ1]; exact ⟨hF_μ.1, fun h9 => absurd h9 (by decide)⟩
  have hr_μ1 : μ1.2.2 = μ1.2.2 := rfl
  refine ok_bw (k_X3_clear (sel 2 (μ1.2.2 16 4)) (sel_2 _) μ1 hI_μ1) ?_
  rintro μ2 ⟨hI_μ2, hC_μ2⟩
  have hF_μ2 : Fr [(0, 16, 2), (0, 16, 3), (0, 16, 6), (1, 17, 0), (2, 2, 0), (2, 2, 1), (2, 2, 2), (3, 2, 1), (3, 2, 2), (3, 2, 3), (3, 2, 4), (3, 2, 5), (3, 2, 6)] false μ μ2 := hF_μ1.trans (hC_μ2.mono (by decide +kernel) (by decide))
  have hr_μ2 : μ2.2.2 = μ1.2.2 := (hC_μ2.2 rfl : μ2.2.2 = μ1.2.2).trans hr_μ1
  try rw [hr_μ2]
  obtain ⟨fu, hfu0, hfu⟩ := fuel_ex
  rw [hfu0]
  exact ok_mono (k_X4_readProgram_b14  fu (0 : Int32) μ2 hI_μ2 (by (try simp only [hr_μ2]); omega)) (fun q h => ⟨h.1, hF_μ2.trans h.2⟩)

set_option maxHeartbeats 4000000 in
set_option maxRecDepth 100000 in
theorem k_X4_badPlace  (μ : Mem) (hI_μ : IX μ) : ok (p_X4_badPlace  μ) (fun q => IX q.2 ∧ Fr [] true μ q.2) := by
  have li0 : (0 : Int32).toInt = 0 := by decide
  have li1 : (1 : Int32).toInt = 1 := by decide
  have hF_μ : Fr [] true μ μ := Fr.rf
  have hr_μ : μ.2.2 = μ.2.2 := rfl
  rw [p_X4_badPlace_eq]
  have g1 := ti_lo (μ.1 16 3)
  have g1h := ti_hi (μ.1 16 3)
  exact ok_some ⟨hI_μ, hF_μ⟩

set_option maxHeartbeats 4000000 in
set_option maxRecDepth 100000 in
theorem k_X5_clear  (μ : Mem) (hI_μ : IX μ) : ok (p_X5_clear  μ) (fun q => IX q ∧ Fr [(0, 39, 0), (0, 39, 1), (0, 39, 2), (0, 39, 3), (0, 39, 4), (0, 39, 5), (0, 39, 6)] true μ q) := by
  have li0 : (0 : Int32).toInt = 0 := by decide
  have li1 : (1 : Int32).toInt = 1 := by decide
  have hF_μ : Fr [(0, 39, 0), (0, 39, 1), (0, 39, 2), (0, 39, 3), (0, 39, 4), (0, 39, 5), (0, 39, 6)] true μ μ := Fr.rf
  have hr_μ : μ.2.2 = μ.2.2 := rfl
  rw [p_X5_clear_eq]
  refine ok_bv (fun μ1 e_μ1 => ?_)
  have hI_μ1 : IX μ1 := by rw [e_μ1]; exact IX_F hI_μ (rt_39_0 _)
  have hF_μ1 : Fr [(0, 39, 0), (0, 39, 1), (0, 39, 2), (0, 39, 3), (0, 39, 4), (0, 39, 5), (0, 39, 6)] true μ μ1 := by rw [e_μ1]; exact Fr.put hF_μ (by decide +kernel)
  have v_μ1 : (μ1.1 39 0).toInt = 0 := by rw [e_μ1, sF_v]; exact TI.e (n := 0) (TI.lit (by decide))
  have hr_μ1 : μ1.2.2 = μ.2.2 := (by rw [e_μ1]; rfl : μ1.2.2 = μ.2.2).trans hr_μ
  refine ok_bv (fun μ2 e_μ2 => ?_)
  have hI_μ2 : IX μ2 := by rw [e_μ2]; exact IX_F hI_μ1 (rp_39_1 (by omega))
  have hF_μ2 : Fr [(0, 39, 0), (0, 39, 1), (0, 39, 2), (0, 39, 3), (0, 39, 4), (0, 39, 5), (0, 39, 6)] true μ μ2 := by rw [e_μ2]; exact Fr.put hF_μ1 (by decide +kernel)
  have v_μ2 : (μ2.1 39 1).toInt = 0 := by rw [e_μ2, sF_v]; exact TI.e (n := 0) (TI.lit (by decide))
  have hr_μ2 : μ2.2.2 = μ.2.2 := (by rw [e_μ2]; rfl : μ2.2.2 = μ1.2.2).trans hr_μ1
  refine ok_bv (fun μ3 e_μ3 => ?_)
  have hI_μ3 : IX μ3 := by rw [e_μ3]; exact IX_F hI_μ2 (rp_39_2 (by omega))
  have hF_μ3 : Fr [(0, 39, 0), (0, 39, 1), (0, 39, 2), (0, 39, 3), (0, 39, 4), (0, 39, 5), (0, 39, 6)] true μ μ3 := by rw [e_μ3]; exact Fr.put hF_μ2 (by decide +kernel)
  have v_μ3 : (μ3.1 39 2).toInt = 0 := by rw [e_μ3, sF_v]; exact TI.e (n := 0) (TI.lit (by decide))
  have hr_μ3 : μ3.2.2 = μ.2.2 := (by rw [e_μ3]; rfl : μ3.2.2 = μ2.2.2).trans hr_μ2
  refine ok_bv (fun μ4 e_μ4 => ?_)
  have hI_μ4 : IX μ4 := by rw [e_μ4]; exact IX_F hI_μ3 (rt_39_3 _)
  have hF_μ4 : Fr [(0, 39, 0), (0, 39, 1), (0, 39, 2), (0, 39, 3), (0, 39, 4), (0, 39, 5), (0, 39, 6)] true μ μ4 := by rw [e_μ4]; exact Fr.put hF_μ3 (by decide +kernel)
  have v_μ4 : (μ4.1 39 3).toInt = 0 := by rw [e_μ4, sF_v]; exact TI.e (n := 0) (TI.lit (by decide))
  have hr_μ4 : μ4.2.2 = μ.2.2 := (by rw [e_μ4]; rfl : μ4.2.2 = μ3.2.2).trans hr_μ3
  refine ok_bv (fun μ5 e_μ5 => ?_)
  have hI_μ5 : IX μ5 := by rw [e_μ5]; exact IX_F hI_μ4 (rt_39_4 _)
  have hF_μ5 : Fr [(0, 39, 0), (0, 39, 1), (0, 39, 2), (0, 39, 3), (0, 39, 4), (0, 39, 5), (0, 39, 6)] true μ μ5 := by rw [e_μ5]; exact Fr.put hF_μ4 (by decide +kernel)
  have v_μ5 : (μ5.1 39 4).toInt = 0 := by rw [e_μ5, sF_v]; exact TI.e (n := 0) (TI.lit (by decide))
  have hr_μ5 : μ5.2.2 = μ.2.2 := (by rw [e_μ5]; rfl : μ5.2.2 = μ4.2.2).trans hr_μ4
  refine ok_bv (fun μ6 e_μ6 => ?_)
  have hI_μ6 : IX μ6 := by rw [e_μ6]; exact IX_F hI_μ5 (rt_39_5 _)
  have hF_μ6 : Fr [(0, 39, 0), (0, 39, 1), (0, 39, 2), (0, 39, 3), (0, 39, 4), (0, 39, 5), (0, 39, 6)] true μ μ6 := by rw [e_μ6]; exact Fr.put hF_μ5 (by decide +kernel)
  have v_μ6 : (μ6.1 39 5).toInt = 0 := by rw [e_μ6, sF_v]; exact TI.e (n := 0) (TI.lit (by decide))
  have hr_μ6 : μ6.2.2 = μ.2.2 := (by rw [e_μ6]; rfl : μ6.2.2 = μ5.2.2).trans hr_μ5
  refine ok_bv (fun μ7 e_μ7 => ?_)
  have hI_μ7 : IX μ7 := by rw [e_μ7]; exact IX_F hI_μ6 (rp_39_6 (by omega))
  have hF_μ7 : Fr [(0, 39, 0), (0, 39, 1), (0, 39, 2), (0, 39, 3), (0, 39, 4), (0, 39, 5), (0, 39, 6)] true μ μ7 := by rw [e_μ7]; exact Fr.put hF_μ6 (by decide +kernel)
  have v_μ7 : (μ7.1 39 6).toInt = 0 := by rw [e_μ7, sF_v]; exact TI.e (n := 0) (TI.lit (by decide))
  have hr_μ7 : μ7.2.2 = μ.2.2 := (by rw [e_μ7]; rfl : μ7.2.2 = μ6.2.2).trans hr_μ6
  exact ok_some ⟨hI_μ7, hF_μ7⟩

set_option maxHeartbeats 4000000 in
set_option maxRecDepth 100000 in
theorem k_X11_program  (μ : Mem) (hI_μ : IX μ) : ok (p_X11_program  μ) (fun q => IX q.2 ∧ Fr [(0, 0, 1), (0, 0, 2), (0, 16, 1), (0, 16, 2), (0, 16, 3), (0, 16, 6), (0, 39, 0), (0, 39, 1), (0, 39, 2), (0, 39, 3), (0, 39, 4), (0, 39, 5), (0, 39, 6), (1, 17, 0), (2, 2, 0), (2, 2, 1), (2, 2, 2), (3, 2, 1), (3, 2, 2), (3, 2, 3), (3, 2, 4), (3, 2, 5), (3, 2, 6)] false μ q.2) := by
  have lim1 : (-1 : Int32).toInt = -1 := by decide
  have li0 : (0 : Int32).toInt = 0 := by decide
  have li1 : (1 : Int32).toInt = 1 := by decide
  have hF_μ : Fr [(0, 0, 1), (0, 0, 2), (0, 16, 1), (0, 16, 2), (0, 16, 3), (0, 16, 6), (0, 39, 0), (0, 39, 1), (0, 39, 2), (0, 39, 3), (0, 39, 4), (0, 39, 5), (0, 39, 6), (1, 17, 0), (2, 2, 0), (2, 2, 1), (2, 2, 2), (3, 2, 1), (3, 2, 2), (3, 2, 3), (3, 2, 4), (3, 2, 5), (3, 2, 6)] false μ μ := Fr.rf
  have hr_μ : μ.2.2 = μ.2.2 := rfl
  rw [p_X11_program_eq]
  refine ok_bw (k_X11_takeTape  μ hI_μ) ?_
  rintro μ1 ⟨hI_μ1, hC_μ1⟩
  have hF_μ1 : Fr [(0, 0, 1), (0, 0, 2), (0, 16, 1), (0, 16, 2), (0, 16, 3), (0, 16, 6), (0, 39, 0), (0, 39, 1), (0, 39, 2), (0, 39, 3), (0, 39, 4), (0, 39, 5), (0, 39, 6), (1, 17, 0), (2, 2, 0), (2, 2, 1), (2, 2, 2), (3, 2, 1), (3, 2, 2), (3, 2, 3), (3, 2, 4), (3, 2, 5), (3, 2, 6)] false μ μ1 := hF_μ.trans (hC_μ1.mono (by decide +kernel) (by decide))
  have hr_μ1 : μ1.2.2 = μ.2.2 := (hC_μ1.2 rfl : μ1.2.2 = μ.2.2).trans hr_μ
  try rw [hr_μ1]
  refine ok_bw (k_X4_readProgram (sel 2 (μ.2.2 0 5)) (sel_2 _) μ1 hI_μ1) ?_
  rintro μ3 ⟨hI_μ3, hC_μ3⟩
  have hF_μ3 : Fr [(0, 0, 1), (0, 0, 2), (0, 16, 1), (0, 16, 2), (0, 16, 3), (0, 16, 6), (0, 39, 0), (0, 39, 1), (0, 39, 2), (0, 39, 3), (0, 39, 4), (0, 39, 5), (0, 39, 6), (1, 17, 0), (2, 2, 0), (2, 2, 1), (2, 2, 2), (3, 2, 1), (3, 2, 2), (3, 2, 3), (3, 2, 4), (3, 2, 5), (3, 2, 6)] false μ μ3 := hF_μ1.trans (hC_μ3.mono (by decide +kernel) (by decide))
  have hr_μ3 : μ3.2.2 = μ3.2.2 := rfl
  refine ok_bd (k_X4_badPlace  μ3 hI_μ3) ?_
  rintro r6 μ5 ⟨hI_μ5, hC_μ5⟩
  have hI_μ5 : IX μ5 := hI_μ5
  have hC_μ5 : Fr [] true μ3 μ5 := hC_μ5
  have lo_r6 := ti_lo r6
  have hi_r6 := ti_hi r6
  have hF_μ5 : Fr [(0, 0, 1), (0, 0, 2), (0, 16, 1), (0, 16, 2), (0, 16, 3), (0, 16, 6), (0, 39, 0), (0, 39, 1), (0, 39, 2), (0, 39, 3), (0, 39, 4), (0, 39, 5), (0, 39, 6), (1, 17, 0), (2, 2, 0), (2, 2, 1), (2, 2, 2), (3, 2, 1), (3, 2, 2), (3, 2, 3), (3, 2, 4), (3, 2, 5), (3, 2, 6)] false μ μ5 := hF_μ3.trans (hC_μ5.mono (by decide +kernel) (by decide))
  have hr_μ5 : μ5.2.2 = μ3.2.2 := (hC_μ5.2 rfl : μ5.2.2 = μ3.2.2).trans hr_μ3
  try rw [hr_μ5]
  refine ok_bv (fun μ7 e_μ7 => ?_)
  have hI_μ7 : IX μ7 := by rw [e_μ7]; exact IX_F hI_μ5 (rt_0_2 _)
  have hF_μ7 : Fr [(0, 0, 1), (0, 0, 2), (0, 16, 1), (0, 16, 2), (0, 16, 3), (0, 16, 6), (0, 39, 0), (0, 39, 1), (0, 39, 2), (0, 39, 3), (0, 39, 4), (0, 39, 5), (0, 39, 6), (1, 17, 0), (2, 2, 0), (2, 2, 1), (2, 2, 2), (3, 2, 1), (3, 2, 2), (3, 2, 3), (3, 2, 4), (3, 2, 5), (3, 2, 6)] false μ μ7 := by rw [e_μ7]; exact Fr.put hF_μ5 (by decide +kernel)
  have v_μ7 : (μ7.1 0 2).toInt = r6.toInt := by rw [e_μ7, sF_v]
  have hr_μ7 : μ7.2.2 = μ3.2.2 := (by rw [e_μ7]; rfl : μ7.2.2 = μ5.2.2).trans hr_μ5
  try rw [hr_μ7]
  have g8 := ti_lo (μ7.1 0 2)
  have g8h := ti_hi (μ7.1 0 2)
  refine ok_ite ?_ ?_
  · intro c9
    rw [ti_eq] at c9
    refine ok_bv (fun μ10 e_μ10 => ?_)
    have hI_μ10 : IX μ10 := by rw [e_μ10]; exact IX_R hI_μ7
    have hF_μ10 : Fr [(0, 0, 1), (0, 0, 2), (0, 16, 1), (0, 16, 2), (0, 16, 3), (0, 16, 6), (0, 39, 0), (0, 39, 1), (0, 39, 2), (0, 39, 3), (0, 39, 4), (0, 39, 5), (0, 39, 6), (1, 17, 0), (2, 2, 0), (2, 2, 1), (2, 2, 2), (3, 2, 1), (3, 2, 2), (3, 2, 3), (3, 2, 4), (3, 2, 5), (3, 2, 6)] false μ μ10 := by rw [e_μ10]; exact ⟨hF_μ7.1, fun h9 => absurd h9 (by decide)⟩
    have hr_μ10 : μ10.2.2 = μ10.2.2 := rfl
    refine ok_bv (fun μ11 e_μ11 => ?_)
    have hI_μ11 : IX μ11 := by rw [e_μ11]; exact IX_R hI_μ10
    have hF_μ11 : Fr [(0, 0, 1), (0, 0, 2), (0, 16, 1), (0, 16, 2), (0, 16, 3), (0, 16, 6), (0, 39, 0), (0, 39, 1), (0, 39, 2), (0, 39, 3), (0, 39, 4), (0, 39, 5), (0, 39, 6), (1, 17, 0), (2, 2, 0), (2, 2, 1), (2, 2, 2), (3, 2, 1), (3, 2, 2), (3, 2, 3), (3, 2, 4), (3, 2, 5), (3, 2, 6)] false μ μ11 := by rw [e_μ11]; exact ⟨hF_μ10.1, fun h9 => absurd h9 (by decide)⟩
    have hr_μ11 : μ11.2.2 = μ11.2.2 := rfl
    refine ok_bw (k_X5_clear  μ11 hI_μ11) ?_
    rintro μ12 ⟨hI_μ12, hC_μ12⟩
    have hF_μ12 : Fr [(0, 0, 1), (0, 0, 2), (0, 16, 1), (0, 16, 2), (0, 16, 3), (0, 16, 6), (0, 39, 0), (0, 39, 1), (0, 39, 2), (0, 39, 3), (0, 39, 4), (0, 39, 5), (0, 39, 6), (1, 17, 0), (2, 2, 0), (2, 2, 1), (2, 2, 2), (3, 2, 1), (3, 2, 2), (3, 2, 3), (3, 2, 4), (3, 2, 5), (3, 2, 6)] false μ μ12 := hF_μ11.trans (hC_μ12.mono (by decide +kernel) (by decide))
    have hr_μ12 : μ12.2.2 = μ11.2.2 := (hC_μ12.2 rfl : μ12.2.2 = μ11.2.2).trans hr_μ11
    try rw [hr_μ12]
    have g14 := rgc_2_0 (sel_2 (μ11.2.2 0 4)) hI_μ12
    exact ok_some ⟨hI_μ12, hF_μ12⟩
  · intro c9
    rw [ti_eq] at c9
    exact ok_some ⟨hI_μ7, hF_μ7⟩

set_option maxHeartbeats 4000000 in
set_option maxRecDepth 100000 in
theorem k_X2_begin (a0 : Nat) (q0 : sh 0 a0 = (0, 1)) (a1 : Int32) (μ : Mem) (hI_μ : IX μ) : ok (p_X2_begin a0 a1 μ) (fun q => IX q ∧ Fr [(2, 1, 2), (2, 1, 3)] true μ q) := by
  have li0 : (0 : Int32).toInt = 0 := by decide
  have li1 : (1 : Int32).toInt = 1 := by decide
  have hF_μ : Fr [(2, 1, 2), (2, 1, 3)] true μ μ := Fr.rf
  have hr_μ : μ.2.2 = μ.2.2 := rfl
  rw [p_X2_begin_eq]
  have lo_a1 := ti_lo a1
  have hi_a1 := ti_hi a1
  refine ok_bv (fun μ1 e_μ1 => ?_)
  have hI_μ1 : IX μ1 := by rw [e_μ1]; exact IX_F hI_μ (rpp q0 (by omega))
  have hF_μ1 : Fr [(2, 1, 2), (2, 1, 3)] true μ μ1 := by rw [e_μ1]; exact Fr.putc (ci := 1) hF_μ (by decide +kernel) q0
  have v_μ1 : (μ1.1 a0 2).toInt = 0 := by rw [e_μ1, sF_v]; exact TI.e (n := 0) (TI.lit (by decide))
  have hr_μ1 : μ1.2.2 = μ.2.2 := (by rw [e_μ1]; rfl : μ1.2.2 = μ.2.2).trans hr_μ
  refine ok_bv (fun μ2 e_μ2 => ?_)
  have hI_μ2 : IX μ2 := by rw [e_μ2]; exact IX_F hI_μ1 (rtc_1_3 q0 _)
  have hF_μ2 : Fr [(2, 1, 2), (2, 1, 3)] true μ μ2 := by rw [e_μ2]; exact Fr.putc (ci := 1) hF_μ1 (by decide +kernel) q0
  have v_μ2 : (μ2.1 a0 3).toInt = a1.toInt := by rw [e_μ2, sF_v]
  have hr_μ2 : μ2.2.2 = μ.2.2 := (by rw [e_μ2]; rfl : μ2.2.2 = μ1.2.2).trans hr_μ1
  exact ok_some ⟨hI_μ2, hF_μ2⟩

set_option maxHeartbeats 4000000 in
set_option maxRecDepth 100000 in
theorem k_X2_add (a0 : Nat) (q0 : sh 0 a0 = (0, 1)) (a1 : Int64) (a3 : Int64) (μ : Mem) (hI_μ : IX μ) : ok (p_X2_add a0 a1 a3 μ) (fun q => IX q ∧ Fr [(2, 1, 2)] true μ q) := by
  have li0 : (0 : Int32).toInt = 0 := by decide
  have li1 : (1 : Int32).toInt = 1 := by decide
  have hF_μ : Fr [(2, 1, 2)] true μ μ := Fr.rf
  have hr_μ : μ.2.2 = μ.2.2 := rfl
  rw [p_X2_add_eq]
  have g1 := rgp q0 hI_μ
  refine ok_ite ?_ ?_
  · intro c2
    rw [ti_le] at c2
    try rw [TI.e (e := (Int32.ofNat ((sh 0 (a0 + 1)).2))) (n := ((sh 0 (a0 + 1)).2 : Int)) (TI.len (a0 + 1))] at c2
    exact ok_some ⟨hI_μ, hF_μ⟩
  · intro c2
    rw [ti_le] at c2
    try rw [TI.e (e := (Int32.ofNat ((sh 0 (a0 + 1)).2))) (n := ((sh 0 (a0 + 1)).2 : Int)) (TI.len (a0 + 1))] at c2
    refine ok_gd (inb_iff.mpr (by omega)) ?_
    refine ok_bv (fun μ3 e_μ3 => ?_)
    have hI_μ3 : IX μ3 := by rw [e_μ3]; exact IX_L hI_μ
    have hF_μ3 : Fr [(2, 1, 2)] true μ μ3 := by rw [e_μ3]; exact hF_μ
    have hr_μ3 : μ3.2.2 = μ.2.2 := (by rw [e_μ3]; rfl : μ3.2.2 = μ.2.2).trans hr_μ
    have g4 := rgp q0 hI_μ3
    have f5 : (μ3.1 a0 2).toInt = (μ.1 a0 2).toInt := congrArg Int32.toInt ((by rw [e_μ3]; rfl : μ3.1 a0 2 = μ.1 a0 2))
    have l7 := pl_eq q0
    refine ok_gd (inb_iff.mpr (by omega)) ?_
    refine ok_bv (fun μ6 e_μ6 => ?_)
    have hI_μ6 : IX μ6 := by rw [e_μ6]; exact IX_L hI_μ3
    have hF_μ6 : Fr [(2, 1, 2)] true μ μ6 := by rw [e_μ6]; exact hF_μ3
    have hr_μ6 : μ6.2.2 = μ.2.2 := (by rw [e_μ6]; rfl : μ6.2.2 = μ3.2.2).trans hr_μ3
    have g8 := rgp q0 hI_μ6
    have f9 : (μ6.1 a0 2).toInt = (μ3.1 a0 2).toInt := congrArg Int32.toInt ((by rw [e_μ6]; rfl : μ6.1 a0 2 = μ3.1 a0 2))
    refine ok_bv (fun μ10 e_μ10 => ?_)
    have hI_μ10 : IX μ10 := by rw [e_μ10]; exact IX_F hI_μ6 (rpp q0 (by (try rw [TI.e (e := ((μ6.1 a0 2) + (1 : Int32))) (n := ((μ6.1 a0 2).toInt + 1)) (TI.add TI.rf (TI.lit (by decide)) (by omega) (by omega))]); omega))
    have hF_μ10 : Fr [(2, 1, 2)] true μ μ10 := by rw [e_μ10]; exact Fr.putc (ci := 1) hF_μ6 (by decide +kernel) q0
    have v_μ10 : (μ10.1 a0 2).toInt = ((μ6.1 a0 2).toInt + 1) := by rw [e_μ10, sF_v]; exact TI.e (n := ((μ6.1 a0 2).toInt + 1)) (TI.add TI.rf (TI.lit (by decide)) (by omega) (by omega))
    have hr_μ10 : μ10.2.2 = μ.2.2 := (by rw [e_μ10]; rfl : μ10.2.2 = μ6.2.2).trans hr_μ6
    exact ok_some ⟨hI_μ10, hF_μ10⟩

set_option maxHeartbeats 4000000 in
set_option maxRecDepth 100000 in
theorem k_X2_stars_b28 {n4 : Nat} (K4 : Nat → Int32 → Int32 → Mem → Option (Int32 × Mem)) (hK4 : ∀ (z0 : Nat) (w0 : sh 0 z0 = (0, 1)) (z1 : Int32) (z2 : Int32) (μ1 : Mem), IX μ1 → (0 ≤ (z2).toInt ∧ 2147483648 - (z2).toInt < n4) → ok (K4 z0 z1 z2 μ1) (fun q => IX q.2 ∧ Fr [] true μ1 q.2)) (a0 : Nat) (q0 : sh 0 a0 = (0, 1)) (a1 : Int32) (a2 : Int32) (μ : Mem) (hI_μ : IX μ) (hc : 0 ≤ (a2).toInt ∧ (a2).toInt < 200 ∧ 2147483648 - (a2).toInt < n4 + 1) : ok (p_X2_stars_b28 K4 a0 a1 a2 μ) (fun q => IX q.2 ∧ Fr [] true μ q.2) := by
  have li0 : (0 : Int32).toInt = 0 := by decide
  have li1 : (1 : Int32).toInt = 1 := by decide
  have hF_μ : Fr [] true μ μ := Fr.rf
  have hr_μ : μ.2.2 = μ.2.2 := rfl
  rw [p_X2_stars_b28_eq]
  have lo_a1 := ti_lo a1
  have hi_a1 := ti_hi a1
  have lo_a2 := ti_lo a2
  have hi_a2 := ti_hi a2
  refine ok_bv (fun v5 ev5 => ?_)
  first | have tv5 : v5.toInt = (a2.toInt + 1) := (congrArg Int32.toInt ev5).trans (TI.e (n := (a2.toInt + 1)) (TI.add TI.rf (TI.lit (by decide)) (by omega) (by omega))) | have tv5 : v5.toInt ≤ a2.toInt + 1 := by rw [ev5]; exact ti_inc _ | skip
  exact ok_mono (hK4 a0 q0 a1 v5 μ hI_μ (by omega)) (fun q h => ⟨h.1, hF_μ.trans h.2⟩)
set_option maxHeartbeats 4000000 in
set_option maxRecDepth 100000 in
theorem k_X2_stars_b4 : ∀ (n : Nat) (a0 : Nat) (q0 : sh 0 a0 = (0, 1)) (a1 : Int32) (a2 : Int32) (μ : Mem), IX μ → (0 ≤ (a2).toInt ∧ 2147483648 - (a2).toInt < n) → ok (p_X2_stars_b4 n a0 a1 a2 μ) (fun q => IX q.2 ∧ Fr [] true μ q.2) := by
  have li0 : (0 : Int32).toInt = 0 := by decide
  have li1 : (1 : Int32).toInt = 1 := by decide
  have li4 : (4 : Int32).toInt = 4 := by decide
  intro n
  induction n with
  | zero => intro a0 q0 a1 a2 μ hI_μ hc; exact absurd hc (by have lo_a1 := ti_lo a1; have hi_a1 := ti_hi a1; have lo_a2 := ti_lo a2; have hi_a2 := ti_hi a2; omega)
  | succ n ih =>
    intro a0 q0 a1 a2 μ hI_μ hc
    have hF_μ : Fr [] true μ μ := Fr.rf
    have hr_μ : μ.2.2 = μ.2.2 := rfl
    rw [p_X2_stars_b4_s]
    have lo_a1 := ti_lo a1
    have hi_a1 := ti_hi a1
    have lo_a2 := ti_lo a2
    have hi_a2 := ti_hi a2
    have g1 := rgp q0 hI_μ
    refine ok_ite ?_ ?_
    · intro c2
      rw [ti_le] at c2
      exact ok_some ⟨hI_μ, hF_μ⟩
    · intro c2
      rw [ti_le] at c2
      refine ok_gd (inb_iff.mpr (by omega)) ?_
      refine ok_ite ?_ ?_
      · intro c3
        rw [ti_eq] at c3
        refine ok_bv (fun v4 ev4 => ?_)
        first | have tv4 : v4.toInt = (a1.toInt + 1) := (congrArg Int32.toInt ev4).trans (TI.e (n := (a1.toInt + 1)) (TI.add TI.rf (TI.lit (by decide)) (by omega) (by omega))) | have tv4 : v4.toInt ≤ a1.toInt + 1 := by rw [ev4]; exact ti_inc _ | skip
        exact ok_mono (k_X2_stars_b28 _ ih a0 q0 v4 a2 μ hI_μ (by omega)) (fun q h => ⟨h.1, hF_μ.trans h.2⟩)
      · intro c3
        rw [ti_eq] at c3
        exact ok_mono (k_X2_stars_b28 _ ih a0 q0 a1 a2 μ hI_μ (by omega)) (fun q h => ⟨h.1, hF_μ.trans h.2⟩)
set_option maxHeartbeats 4000000 in
set_option maxRecDepth 100000 in
theorem k_X2_stars (a0 : Nat) (q0 : sh 0 a0 = (0, 1)) (μ : Mem) (hI_μ : IX μ) : ok (p_X2_stars a0 μ) (fun q => IX q.2 ∧ Fr [] true μ q.2) := by
  have li0 : (0 : Int32).toInt = 0 := by decide
  have li1 : (1 : Int32).toInt = 1 := by decide
  have hF_μ : Fr [] true μ μ := Fr.rf
  have hr_μ : μ.2.2 = μ.2.2 := rfl
  rw [p_X2_stars_eq]
  obtain ⟨fu, hfu0, hfu⟩ := fuel_ex
  rw [hfu0]
  exact ok_mono (k_X2_stars_b4  fu a0 q0 (0 : Int32) (0 : Int32) μ hI_μ (by omega)) (fun q h => ⟨h.1, hF_μ.trans h.2⟩)
