set_option maxHeartbeats 4000000 in
set_option maxRecDepth 100000 in
theorem k_X12_readThing_b86 (a1 : Int32) (a2 : Int32) (k0 : Int32) (μ : Mem) (hI_μ : IM μ) (hc : (μ.1 0 28).toInt ≤ (μ.1 0 4).toInt ∧ (((μ.1 0 4).toInt < (μ.1 0 3).toInt ∧ (a1).toInt = ((μ.1 1 (μ.1 0 4).toNatClampNeg) &&& 255).toInt) ∨ ((μ.1 0 3).toInt ≤ (μ.1 0 4).toInt ∧ (a1).toInt = -1)) ∧ ((k0).toInt = 0 ∨ ((a1).toInt = 45 ∨ (48 ≤ (a1).toInt ∧ (a1).toInt ≤ 57) ∨ (109 ≤ (a1).toInt ∧ (a1).toInt ≤ 122) ∨ (97 ≤ (a1).toInt ∧ (a1).toInt ≤ 108) ∨ (s_X12_signOf a1).toInt ≠ -1 ∨ (a1).toInt = 40 ∨ (a1).toInt = 91 ∨ (a1).toInt = 63 ∨ (a1).toInt = 33 ∨ (a1).toInt = 38 ∨ (a1).toInt = 95 ∨ (a1).toInt = 58))) : ok (p_X12_readThing_b86 a1 a2 k0 μ) (fun q => IM q.2 ∧ Fr [(0, 0, 28), (0, 0, 32), (0, 0, 4), (0, 0, 5), (0, 0, 6), (0, 0, 7), (1, 16, 0), (1, 17, 0), (1, 18, 0), (1, 19, 0), (1, 20, 0)] true μ q.2 ∧ (((q.1).toInt = 0 ∨ (q.1).toInt = 1) ∧ ((q.1).toInt = 0 ∨ ((q.2.1 0 28).toInt ≤ (q.2.1 0 4).toInt ∧ (μ.1 0 4).toInt < (q.2.1 0 4).toInt)))) := by
  have lim1 : (-1 : Int32).toInt = -1 := by decide
  have li0 : (0 : Int32).toInt = 0 := by decide
  have li1 : (1 : Int32).toInt = 1 := by decide
  have li2 : (2 : Int32).toInt = 2 := by decide
  have li3 : (3 : Int32).toInt = 3 := by decide
  have li4 : (4 : Int32).toInt = 4 := by decide
  have li5 : (5 : Int32).toInt = 5 := by decide
  have li6 : (6 : Int32).toInt = 6 := by decide
  have li7 : (7 : Int32).toInt = 7 := by decide
  have li8 : (8 : Int32).toInt = 8 := by decide
  have li9 : (9 : Int32).toInt = 9 := by decide
  have li10 : (10 : Int32).toInt = 10 := by decide
  have li20 : (20 : Int32).toInt = 20 := by decide
  have li33 : (33 : Int32).toInt = 33 := by decide
  have li38 : (38 : Int32).toInt = 38 := by decide
  have li40 : (40 : Int32).toInt = 40 := by decide
  have li48 : (48 : Int32).toInt = 48 := by decide
  have li58 : (58 : Int32).toInt = 58 := by decide
  have li63 : (63 : Int32).toInt = 63 := by decide
  have li80 : (80 : Int32).toInt = 80 := by decide
  have li91 : (91 : Int32).toInt = 91 := by decide
  have li95 : (95 : Int32).toInt = 95 := by decide
  have li109 : (109 : Int32).toInt = 109 := by decide
  have hF_μ : Fr [(0, 0, 28), (0, 0, 32), (0, 0, 4), (0, 0, 5), (0, 0, 6), (0, 0, 7), (1, 16, 0), (1, 17, 0), (1, 18, 0), (1, 19, 0), (1, 20, 0)] true μ μ := Fr.rf
  have hr_μ : μ.2.2 = μ.2.2 := rfl
  rw [p_X12_readThing_b86_eq]
  have lo_a1 := ti_lo a1
  have hi_a1 := ti_hi a1
  have lo_a2 := ti_lo a2
  have hi_a2 := ti_hi a2
  have lo_k0 := ti_lo k0
  have hi_k0 := ti_hi k0
  have g20 := rgm_0_4 hI_μ
  have g21 := rgm_0_28 hI_μ
  have g22 := rgm_0_3 hI_μ
  refine ok_ite ?_ ?_
  · intro c23
    rw [ti_eq] at c23
    refine ok_bd (k_X12_fails a2 μ hI_μ) ?_
    rintro r25 μ24 ⟨hI_μ24, hC_μ24, p_μ24⟩
    have hI_μ24 : IM μ24 := hI_μ24
    have hC_μ24 : Fr [(0, 0, 5)] true μ μ24 := hC_μ24
    dsimp only at p_μ24
    have lo_r25 := ti_lo r25
    have hi_r25 := ti_hi r25
    have hF_μ24 : Fr [(0, 0, 28), (0, 0, 32), (0, 0, 4), (0, 0, 5), (0, 0, 6), (0, 0, 7), (1, 16, 0), (1, 17, 0), (1, 18, 0), (1, 19, 0), (1, 20, 0)] true μ μ24 := hF_μ.trans (hC_μ24.mono (by decide +kernel) (by decide))
    have hr_μ24 : μ24.2.2 = μ.2.2 := (hC_μ24.2 rfl : μ24.2.2 = μ.2.2).trans hr_μ
    refine ok_gd (isB_of (by omega)) ?_
    have g26 := rgm_0_28 hI_μ24
    have f27 : (μ24.1 0 28).toInt = (μ.1 0 28).toInt := congrArg Int32.toInt (hC_μ24.1 0 28 (by decide +kernel))
    have g28 := rgm_0_4 hI_μ24
    have f29 : (μ24.1 0 4).toInt = (μ.1 0 4).toInt := congrArg Int32.toInt (hC_μ24.1 0 4 (by decide +kernel))
    exact ok_some ⟨hI_μ24, hF_μ24, by (try dsimp only); (try rw [hr_μ24]); omega⟩
  · intro c23
    rw [ti_eq] at c23
    have g31 := rgm_0_27 hI_μ
    refine ok_gd (inb_iff.mpr (by omega)) ?_
    refine ok_ite ?_ ?_
    · intro c32
      rw [ti_eq] at c32
      try rw [TI.e (e := ((μ.1 0 28) - (μ.1 14 (μ.1 0 27).toNatClampNeg))) (n := ((μ.1 0 28).toInt - (μ.1 14 (μ.1 0 27).toNatClampNeg).toInt)) (TI.sub TI.rf TI.rf (by omega) (by omega))] at c32
      refine ok_bd (k_X12_fails a2 μ hI_μ) ?_
      rintro r34 μ33 ⟨hI_μ33, hC_μ33, p_μ33⟩
      have hI_μ33 : IM μ33 := hI_μ33
      have hC_μ33 : Fr [(0, 0, 5)] true μ μ33 := hC_μ33
      dsimp only at p_μ33
      have lo_r34 := ti_lo r34
      have hi_r34 := ti_hi r34
      have hF_μ33 : Fr [(0, 0, 28), (0, 0, 32), (0, 0, 4), (0, 0, 5), (0, 0, 6), (0, 0, 7), (1, 16, 0), (1, 17, 0), (1, 18, 0), (1, 19, 0), (1, 20, 0)] true μ μ33 := hF_μ.trans (hC_μ33.mono (by decide +kernel) (by decide))
      have hr_μ33 : μ33.2.2 = μ.2.2 := (hC_μ33.2 rfl : μ33.2.2 = μ.2.2).trans hr_μ
      refine ok_gd (isB_of (by omega)) ?_
      have g35 := rgm_0_28 hI_μ33
      have f36 : (μ33.1 0 28).toInt = (μ.1 0 28).toInt := congrArg Int32.toInt (hC_μ33.1 0 28 (by decide +kernel))
      have g37 := rgm_0_4 hI_μ33
      have f38 : (μ33.1 0 4).toInt = (μ.1 0 4).toInt := congrArg Int32.toInt (hC_μ33.1 0 4 (by decide +kernel))
      exact ok_some ⟨hI_μ33, hF_μ33, by (try dsimp only); (try rw [hr_μ33]); omega⟩
    · intro c32
      rw [ti_eq] at c32
      try rw [TI.e (e := ((μ.1 0 28) - (μ.1 14 (μ.1 0 27).toNatClampNeg))) (n := ((μ.1 0 28).toInt - (μ.1 14 (μ.1 0 27).toNatClampNeg).toInt)) (TI.sub TI.rf TI.rf (by omega) (by omega))] at c32
      have g40 := rgm_0_32 hI_μ
      refine ok_ite ?_ ?_
      · intro c41
        rw [ti_eq] at c41
        refine ok_bd (k_X12_fails a2 μ hI_μ) ?_
        rintro r43 μ42 ⟨hI_μ42, hC_μ42, p_μ42⟩
        have hI_μ42 : IM μ42 := hI_μ42
        have hC_μ42 : Fr [(0, 0, 5)] true μ μ42 := hC_μ42
        dsimp only at p_μ42
        have lo_r43 := ti_lo r43
        have hi_r43 := ti_hi r43
        have hF_μ42 : Fr [(0, 0, 28), (0, 0, 32), (0, 0, 4), (0, 0, 5), (0, 0, 6), (0, 0, 7), (1, 16, 0), (1, 17, 0), (1, 18, 0), (1, 19, 0), (1, 20, 0)] true μ μ42 := hF_μ.trans (hC_μ42.mono (by decide +kernel) (by decide))
        have hr_μ42 : μ42.2.2 = μ.2.2 := (hC_μ42.2 rfl : μ42.2.2 = μ.2.2).trans hr_μ
        refine ok_gd (isB_of (by omega)) ?_
        have g44 := rgm_0_28 hI_μ42
        have f45 : (μ42.1 0 28).toInt = (μ.1 0 28).toInt := congrArg Int32.toInt (hC_μ42.1 0 28 (by decide +kernel))
        have g46 := rgm_0_4 hI_μ42
        have f47 : (μ42.1 0 4).toInt = (μ.1 0 4).toInt := congrArg Int32.toInt (hC_μ42.1 0 4 (by decide +kernel))
        exact ok_some ⟨hI_μ42, hF_μ42, by (try dsimp only); (try rw [hr_μ42]); omega⟩
      · intro c41
        rw [ti_eq] at c41
        refine ok_bd (k_X12_beginsNumber  μ hI_μ) ?_
        rintro r50 μ49 ⟨hq9, p_r50⟩
        obtain rfl : μ = μ49 := hq9
        dsimp only at p_r50
        have lo_r50 := ti_lo r50
        have hi_r50 := ti_hi r50
        refine ok_ite ?_ ?_
        · intro c51
          rw [ti_eq] at c51
          refine ok_ite ?_ ?_
          · intro c52
            rw [ti_eq] at c52
            have y53 := tf_isVarLetter a1
            refine ok_ite ?_ ?_
            · intro c54
              rw [ti_eq] at c54
              have y55 := tf_signOf a1
              refine ok_ite ?_ ?_
              · intro c57
                rw [ti_eq] at c57
                refine ok_bd (k_X12_layOpen (8 : Int32) (0 : Int32) (1 : Int32) μ hI_μ (by omega)) ?_
                rintro r59 μ58 ⟨hI_μ58, hC_μ58, p_μ58⟩
                have hI_μ58 : IM μ58 := hI_μ58
                have hC_μ58 : Fr [(0, 0, 28), (0, 0, 32), (0, 0, 4), (1, 16, 0), (1, 17, 0), (1, 18, 0), (1, 19, 0), (1, 20, 0)] true μ μ58 := hC_μ58
                dsimp only at p_μ58
                have lo_r59 := ti_lo r59
                have hi_r59 := ti_hi r59
                have hF_μ58 : Fr [(0, 0, 28), (0, 0, 32), (0, 0, 4), (0, 0, 5), (0, 0, 6), (0, 0, 7), (1, 16, 0), (1, 17, 0), (1, 18, 0), (1, 19, 0), (1, 20, 0)] true μ μ58 := hF_μ.trans (hC_μ58.mono (by decide +kernel) (by decide))
                have hr_μ58 : μ58.2.2 = μ.2.2 := (hC_μ58.2 rfl : μ58.2.2 = μ.2.2).trans hr_μ
                try simp only [hr_μ58, hr_μ] at p_μ58
                have g60 := rgm_0_4 hI_μ58
                have g61 := rgm_0_28 hI_μ58
                have g62 := rgm_0_32 hI_μ58
                refine ok_gd (isB_of (by omega)) ?_
                exact ok_some ⟨hI_μ58, hF_μ58, by (try dsimp only); (try rw [hr_μ58]); omega⟩
              intro c57
              rw [ti_eq] at c57
              refine ok_ite ?_ ?_
              · intro c64
                rw [ti_eq] at c64
                refine ok_bd (k_X12_readPlace  μ hI_μ (by omega)) ?_
                rintro r66 μ65 ⟨hI_μ65, hC_μ65, p_μ65⟩
                have hI_μ65 : IM μ65 := hI_μ65
                have hC_μ65 : Fr [(0, 0, 4), (0, 0, 5)] true μ μ65 := hC_μ65
                dsimp only at p_μ65
                have lo_r66 := ti_lo r66
                have hi_r66 := ti_hi r66
                have hF_μ65 : Fr [(0, 0, 28), (0, 0, 32), (0, 0, 4), (0, 0, 5), (0, 0, 6), (0, 0, 7), (1, 16, 0), (1, 17, 0), (1, 18, 0), (1, 19, 0), (1, 20, 0)] true μ μ65 := hF_μ.trans (hC_μ65.mono (by decide +kernel) (by decide))
                have hr_μ65 : μ65.2.2 = μ.2.2 := (hC_μ65.2 rfl : μ65.2.2 = μ.2.2).trans hr_μ
                try simp only [hr_μ65, hr_μ] at p_μ65
                have g67 := rgm_0_4 hI_μ65
                refine ok_ite ?_ ?_
                · intro c68
                  rw [ti_eq] at c68
                  have g69 := rgm_0_28 hI_μ65
                  have f70 : (μ65.1 0 28).toInt = (μ.1 0 28).toInt := congrArg Int32.toInt (hC_μ65.1 0 28 (by decide +kernel))
                  exact ok_some ⟨hI_μ65, hF_μ65, by (try dsimp only); (try rw [hr_μ65]); omega⟩
                · intro c68
                  rw [ti_eq] at c68
                  have g73 := rgm_0_3 hI_μ65
                  have f74 : (μ65.1 0 3).toInt = (μ.1 0 3).toInt := congrArg Int32.toInt (hC_μ65.1 0 3 (by decide +kernel))
                  refine ok_bd (k_X12_here  μ65 hI_μ65) ?_
                  rintro r72 μ71 ⟨hq9, p_r72⟩
                  obtain rfl : μ65 = μ71 := hq9
                  dsimp only at p_r72
                  have lo_r72 := ti_lo r72
                  have hi_r72 := ti_hi r72
                  try simp only [hr_μ65] at p_r72
                  have g77 := rgm_0_28 hI_μ65
                  have f78 : (μ65.1 0 28).toInt = (μ.1 0 28).toInt := congrArg Int32.toInt (hC_μ65.1 0 28 (by decide +kernel))
                  have g79 := rgm_0_32 hI_μ65
                  have f80 : (μ65.1 0 32).toInt = (μ.1 0 32).toInt := congrArg Int32.toInt (hC_μ65.1 0 32 (by decide +kernel))
                  refine ok_bd (k_X12_layOpen (9 : Int32) (r72 - (48 : Int32)) (1 : Int32) μ65 hI_μ65 (by (try rw [hr_μ65]); (try rw [TI.e (e := (r72 - (48 : Int32))) (n := (r72.toInt - 48)) (TI.sub TI.rf (TI.lit (by decide)) (by omega) (by omega))]); omega)) ?_
                  rintro r76 μ75 ⟨hI_μ75, hC_μ75, p_μ75⟩
                  have hI_μ75 : IM μ75 := hI_μ75
                  have hC_μ75 : Fr [(0, 0, 28), (0, 0, 32), (0, 0, 4), (1, 16, 0), (1, 17, 0), (1, 18, 0), (1, 19, 0), (1, 20, 0)] true μ65 μ75 := hC_μ75
                  dsimp only at p_μ75
                  have lo_r76 := ti_lo r76
                  have hi_r76 := ti_hi r76
                  have hF_μ75 : Fr [(0, 0, 28), (0, 0, 32), (0, 0, 4), (0, 0, 5), (0, 0, 6), (0, 0, 7), (1, 16, 0), (1, 17, 0), (1, 18, 0), (1, 19, 0), (1, 20, 0)] true μ μ75 := hF_μ65.trans (hC_μ75.mono (by decide +kernel) (by decide))
                  have hr_μ75 : μ75.2.2 = μ.2.2 := (hC_μ75.2 rfl : μ75.2.2 = μ65.2.2).trans hr_μ65
                  try simp only [hr_μ75, hr_μ65] at p_μ75
                  have g81 := rgm_0_4 hI_μ75
                  have g82 := rgm_0_28 hI_μ75
                  have g83 := rgm_0_32 hI_μ75
                  refine ok_ite ?_ ?_
                  · intro c84
                    rw [ti_eq] at c84
                    exact ok_some ⟨hI_μ75, hF_μ75, by (try dsimp only); (try rw [hr_μ75]); omega⟩
                  · intro c84
                    rw [ti_eq] at c84
                    exact ok_some ⟨hI_μ75, hF_μ75, by (try dsimp only); (try rw [hr_μ75]); omega⟩
              intro c64
              rw [ti_eq] at c64
              refine ok_ite ?_ ?_
              · intro c85
                rw [ti_eq] at c85
                refine ok_bd (k_X12_layOpen (5 : Int32) (0 : Int32) (2 : Int32) μ hI_μ (by omega)) ?_
                rintro r87 μ86 ⟨hI_μ86, hC_μ86, p_μ86⟩
                have hI_μ86 : IM μ86 := hI_μ86
                have hC_μ86 : Fr [(0, 0, 28), (0, 0, 32), (0, 0, 4), (1, 16, 0), (1, 17, 0), (1, 18, 0), (1, 19, 0), (1, 20, 0)] true μ μ86 := hC_μ86
                dsimp only at p_μ86
                have lo_r87 := ti_lo r87
                have hi_r87 := ti_hi r87
                have hF_μ86 : Fr [(0, 0, 28), (0, 0, 32), (0, 0, 4), (0, 0, 5), (0, 0, 6), (0, 0, 7), (1, 16, 0), (1, 17, 0), (1, 18, 0), (1, 19, 0), (1, 20, 0)] true μ μ86 := hF_μ.trans (hC_μ86.mono (by decide +kernel) (by decide))
                have hr_μ86 : μ86.2.2 = μ.2.2 := (hC_μ86.2 rfl : μ86.2.2 = μ.2.2).trans hr_μ
                try simp only [hr_μ86, hr_μ] at p_μ86
                have g88 := rgm_0_4 hI_μ86
                have g89 := rgm_0_28 hI_μ86
                have g90 := rgm_0_32 hI_μ86
                refine ok_gd (isB_of (by omega)) ?_
                exact ok_some ⟨hI_μ86, hF_μ86, by (try dsimp only); (try rw [hr_μ86]); omega⟩
              intro c85
              rw [ti_eq] at c85
              refine ok_ite ?_ ?_
              · intro c92
                rw [ti_eq] at c92
                refine ok_bd (k_X12_readLet  μ hI_μ (by omega)) ?_
                rintro r94 μ93 ⟨hI_μ93, hC_μ93, p_μ93⟩
                have hI_μ93 : IM μ93 := hI_μ93
                have hC_μ93 : Fr [(0, 0, 28), (0, 0, 32), (0, 0, 4), (0, 0, 5), (1, 16, 0), (1, 17, 0), (1, 18, 0), (1, 19, 0), (1, 20, 0)] true μ μ93 := hC_μ93
                dsimp only at p_μ93
                have lo_r94 := ti_lo r94
                have hi_r94 := ti_hi r94
                have hF_μ93 : Fr [(0, 0, 28), (0, 0, 32), (0, 0, 4), (0, 0, 5), (0, 0, 6), (0, 0, 7), (1, 16, 0), (1, 17, 0), (1, 18, 0), (1, 19, 0), (1, 20, 0)] true μ μ93 := hF_μ.trans (hC_μ93.mono (by decide +kernel) (by decide))
                have hr_μ93 : μ93.2.2 = μ.2.2 := (hC_μ93.2 rfl : μ93.2.2 = μ.2.2).trans hr_μ
                try simp only [hr_μ93, hr_μ] at p_μ93
                have g95 := rgm_0_28 hI_μ93
                have g96 := rgm_0_4 hI_μ93
                refine ok_gd (isB_of (by omega)) ?_
                exact ok_some ⟨hI_μ93, hF_μ93, by (try dsimp only); (try rw [hr_μ93]); omega⟩
              intro c92
              rw [ti_eq] at c92
              refine ok_ite ?_ ?_
              · intro c98
                rw [ti_eq] at c98
                refine ok_bd (k_X12_layOpen (7 : Int32) (0 : Int32) (3 : Int32) μ hI_μ (by omega)) ?_
                rintro r100 μ99 ⟨hI_μ99, hC_μ99, p_μ99⟩
                have hI_μ99 : IM μ99 := hI_μ99
                have hC_μ99 : Fr [(0, 0, 28), (0, 0, 32), (0, 0, 4), (1, 16, 0), (1, 17, 0), (1, 18, 0), (1, 19, 0), (1, 20, 0)] true μ μ99 := hC_μ99
                dsimp only at p_μ99
                have lo_r100 := ti_lo r100
                have hi_r100 := ti_hi r100
                have hF_μ99 : Fr [(0, 0, 28), (0, 0, 32), (0, 0, 4), (0, 0, 5), (0, 0, 6), (0, 0, 7), (1, 16, 0), (1, 17, 0), (1, 18, 0), (1, 19, 0), (1, 20, 0)] true μ μ99 := hF_μ.trans (hC_μ99.mono (by decide +kernel) (by decide))
                have hr_μ99 : μ99.2.2 = μ.2.2 := (hC_μ99.2 rfl : μ99.2.2 = μ.2.2).trans hr_μ
                try simp only [hr_μ99, hr_μ] at p_μ99
                have g101 := rgm_0_4 hI_μ99
                have g102 := rgm_0_28 hI_μ99
                have g103 := rgm_0_32 hI_μ99
                refine ok_ite ?_ ?_
                · intro c104
                  rw [ti_eq] at c104
                  exact ok_some ⟨hI_μ99, hF_μ99, by (try dsimp only); (try rw [hr_μ99]); omega⟩
                · intro c104
                  rw [ti_eq] at c104
                  have g107 := rgm_0_3 hI_μ99
                  have f108 : (μ99.1 0 3).toInt = (μ.1 0 3).toInt := congrArg Int32.toInt (hC_μ99.1 0 3 (by decide +kernel))
                  refine ok_bd (k_X12_takes (40 : Int32) μ99 hI_μ99 (by (try rw [hr_μ99]); omega)) ?_
                  rintro r106 μ105 ⟨hI_μ105, hC_μ105, p_μ105⟩
                  have hI_μ105 : IM μ105 := hI_μ105
                  have hC_μ105 : Fr [(0, 0, 4), (0, 0, 5)] true μ99 μ105 := hC_μ105
                  dsimp only at p_μ105
                  have lo_r106 := ti_lo r106
                  have hi_r106 := ti_hi r106
                  have hF_μ105 : Fr [(0, 0, 28), (0, 0, 32), (0, 0, 4), (0, 0, 5), (0, 0, 6), (0, 0, 7), (1, 16, 0), (1, 17, 0), (1, 18, 0), (1, 19, 0), (1, 20, 0)] true μ μ105 := hF_μ99.trans (hC_μ105.mono (by decide +kernel) (by decide))
                  have hr_μ105 : μ105.2.2 = μ.2.2 := (hC_μ105.2 rfl : μ105.2.2 = μ99.2.2).trans hr_μ99
                  try simp only [hr_μ105, hr_μ99] at p_μ105
                  have g109 := rgm_0_4 hI_μ105
                  refine ok_ite ?_ ?_
                  · intro c110
                    rw [ti_eq] at c110
                    have g111 := rgm_0_28 hI_μ105
                    have f112 : (μ105.1 0 28).toInt = (μ99.1 0 28).toInt := congrArg Int32.toInt (hC_μ105.1 0 28 (by decide +kernel))
                    exact ok_some ⟨hI_μ105, hF_μ105, by (try dsimp only); (try rw [hr_μ105]); omega⟩
                  · intro c110
                    rw [ti_eq] at c110
                    have g113 := rgm_0_28 hI_μ105
                    have f114 : (μ105.1 0 28).toInt = (μ99.1 0 28).toInt := congrArg Int32.toInt (hC_μ105.1 0 28 (by decide +kernel))
                    exact ok_some ⟨hI_μ105, hF_μ105, by (try dsimp only); (try rw [hr_μ105]); omega⟩
              intro c98
              rw [ti_eq] at c98
              refine ok_ite ?_ ?_
              · intro c115
                rw [ti_eq] at c115
                refine ok_bd (k_X12_layOpen (2 : Int32) (0 : Int32) (2 : Int32) μ hI_μ (by omega)) ?_
                rintro r117 μ116 ⟨hI_μ116, hC_μ116, p_μ116⟩
                have hI_μ116 : IM μ116 := hI_μ116
                have hC_μ116 : Fr [(0, 0, 28), (0, 0, 32), (0, 0, 4), (1, 16, 0), (1, 17, 0), (1, 18, 0), (1, 19, 0), (1, 20, 0)] true μ μ116 := hC_μ116
                dsimp only at p_μ116
                have lo_r117 := ti_lo r117
                have hi_r117 := ti_hi r117
                have hF_μ116 : Fr [(0, 0, 28), (0, 0, 32), (0, 0, 4), (0, 0, 5), (0, 0, 6), (0, 0, 7), (1, 16, 0), (1, 17, 0), (1, 18, 0), (1, 19, 0), (1, 20, 0)] true μ μ116 := hF_μ.trans (hC_μ116.mono (by decide +kernel) (by decide))
                have hr_μ116 : μ116.2.2 = μ.2.2 := (hC_μ116.2 rfl : μ116.2.2 = μ.2.2).trans hr_μ
                try simp only [hr_μ116, hr_μ] at p_μ116
                have g118 := rgm_0_4 hI_μ116
                have g119 := rgm_0_28 hI_μ116
                have g120 := rgm_0_32 hI_μ116
                refine ok_gd (isB_of (by omega)) ?_
                exact ok_some ⟨hI_μ116, hF_μ116, by (try dsimp only); (try rw [hr_μ116]); omega⟩
              intro c115
              rw [ti_eq] at c115
              refine ok_ite ?_ ?_
              · intro c122
                rw [ti_eq] at c122
                refine ok_bd (k_X12_readPlace  μ hI_μ (by omega)) ?_
                rintro r124 μ123 ⟨hI_μ123, hC_μ123, p_μ123⟩
                have hI_μ123 : IM μ123 := hI_μ123
                have hC_μ123 : Fr [(0, 0, 4), (0, 0, 5)] true μ μ123 := hC_μ123
                dsimp only at p_μ123
                have lo_r124 := ti_lo r124
                have hi_r124 := ti_hi r124
                have hF_μ123 : Fr [(0, 0, 28), (0, 0, 32), (0, 0, 4), (0, 0, 5), (0, 0, 6), (0, 0, 7), (1, 16, 0), (1, 17, 0), (1, 18, 0), (1, 19, 0), (1, 20, 0)] true μ μ123 := hF_μ.trans (hC_μ123.mono (by decide +kernel) (by decide))
                have hr_μ123 : μ123.2.2 = μ.2.2 := (hC_μ123.2 rfl : μ123.2.2 = μ.2.2).trans hr_μ
                try simp only [hr_μ123, hr_μ] at p_μ123
                have g125 := rgm_0_4 hI_μ123
                refine ok_ite ?_ ?_
                · intro c126
                  rw [ti_eq] at c126
                  have g127 := rgm_0_28 hI_μ123
                  have f128 : (μ123.1 0 28).toInt = (μ.1 0 28).toInt := congrArg Int32.toInt (hC_μ123.1 0 28 (by decide +kernel))
                  exact ok_some ⟨hI_μ123, hF_μ123, by (try dsimp only); (try rw [hr_μ123]); omega⟩
                · intro c126
                  rw [ti_eq] at c126
                  have g131 := rgm_0_3 hI_μ123
                  have f132 : (μ123.1 0 3).toInt = (μ.1 0 3).toInt := congrArg Int32.toInt (hC_μ123.1 0 3 (by decide +kernel))
                  refine ok_bd (k_X12_here  μ123 hI_μ123) ?_
                  rintro r130 μ129 ⟨hq9, p_r130⟩
                  obtain rfl : μ123 = μ129 := hq9
                  dsimp only at p_r130
                  have lo_r130 := ti_lo r130
                  have hi_r130 := ti_hi r130
                  try simp only [hr_μ123] at p_r130
                  have g135 := rgm_0_28 hI_μ123
                  have f136 : (μ123.1 0 28).toInt = (μ.1 0 28).toInt := congrArg Int32.toInt (hC_μ123.1 0 28 (by decide +kernel))
                  refine ok_bd (k_X12_lay (10 : Int32) (r130 - (48 : Int32)) (0 : Int32) μ123 hI_μ123 (by (try rw [hr_μ123]); (try rw [TI.e (e := (r130 - (48 : Int32))) (n := (r130.toInt - 48)) (TI.sub TI.rf (TI.lit (by decide)) (by omega) (by omega))]); omega)) ?_
                  rintro r134 μ133 ⟨hI_μ133, hC_μ133, p_μ133⟩
                  have hI_μ133 : IM μ133 := hI_μ133
                  have hC_μ133 : Fr [(0, 0, 28), (1, 16, 0), (1, 17, 0), (1, 18, 0)] true μ123 μ133 := hC_μ133
                  dsimp only at p_μ133
                  have lo_r134 := ti_lo r134
                  have hi_r134 := ti_hi r134
                  have hF_μ133 : Fr [(0, 0, 28), (0, 0, 32), (0, 0, 4), (0, 0, 5), (0, 0, 6), (0, 0, 7), (1, 16, 0), (1, 17, 0), (1, 18, 0), (1, 19, 0), (1, 20, 0)] true μ μ133 := hF_μ123.trans (hC_μ133.mono (by decide +kernel) (by decide))
                  have hr_μ133 : μ133.2.2 = μ.2.2 := (hC_μ133.2 rfl : μ133.2.2 = μ123.2.2).trans hr_μ123
                  try simp only [hr_μ133, hr_μ123] at p_μ133
                  have g137 := rgm_0_28 hI_μ133
                  refine ok_ite ?_ ?_
                  · intro c138
                    rw [ti_eq] at c138
                    have g139 := rgm_0_4 hI_μ133
                    have f140 : (μ133.1 0 4).toInt = (μ123.1 0 4).toInt := congrArg Int32.toInt (hC_μ133.1 0 4 (by decide +kernel))
                    exact ok_some ⟨hI_μ133, hF_μ133, by (try dsimp only); (try rw [hr_μ133]); omega⟩
                  · intro c138
                    rw [ti_eq] at c138
                    have g143 := rgm_0_3 hI_μ133
                    have f144 : (μ133.1 0 3).toInt = (μ123.1 0 3).toInt := congrArg Int32.toInt (hC_μ133.1 0 3 (by decide +kernel))
                    have g145 := rgm_0_4 hI_μ133
                    have f146 : (μ133.1 0 4).toInt = (μ123.1 0 4).toInt := congrArg Int32.toInt (hC_μ133.1 0 4 (by decide +kernel))
                    refine ok_bd (k_X12_here  μ133 hI_μ133) ?_
                    rintro r142 μ141 ⟨hq9, p_r142⟩
                    obtain rfl : μ133 = μ141 := hq9
                    dsimp only at p_r142
                    have lo_r142 := ti_lo r142
                    have hi_r142 := ti_hi r142
                    try simp only [hr_μ133] at p_r142
                    refine ok_bd (k_X12_takes r142 μ133 hI_μ133 (by (try rw [hr_μ133]); omega)) ?_
                    rintro r148 μ147 ⟨hI_μ147, hC_μ147, p_μ147⟩
                    have hI_μ147 : IM μ147 := hI_μ147
                    have hC_μ147 : Fr [(0, 0, 4), (0, 0, 5)] true μ133 μ147 := hC_μ147
                    dsimp only at p_μ147
                    have lo_r148 := ti_lo r148
                    have hi_r148 := ti_hi r148
                    have hF_μ147 : Fr [(0, 0, 28), (0, 0, 32), (0, 0, 4), (0, 0, 5), (0, 0, 6), (0, 0, 7), (1, 16, 0), (1, 17, 0), (1, 18, 0), (1, 19, 0), (1, 20, 0)] true μ μ147 := hF_μ133.trans (hC_μ147.mono (by decide +kernel) (by decide))
                    have hr_μ147 : μ147.2.2 = μ.2.2 := (hC_μ147.2 rfl : μ147.2.2 = μ133.2.2).trans hr_μ133
                    try simp only [hr_μ147, hr_μ133] at p_μ147
                    have g149 := rgm_0_4 hI_μ147
                    refine ok_ite ?_ ?_
                    · intro c150
                      rw [ti_eq] at c150
                      have g151 := rgm_0_28 hI_μ147
                      have f152 : (μ147.1 0 28).toInt = (μ133.1 0 28).toInt := congrArg Int32.toInt (hC_μ147.1 0 28 (by decide +kernel))
                      exact ok_some ⟨hI_μ147, hF_μ147, by (try dsimp only); (try rw [hr_μ147]); omega⟩
                    · intro c150
                      rw [ti_eq] at c150
                      have g153 := rgm_0_28 hI_μ147
                      have f154 : (μ147.1 0 28).toInt = (μ133.1 0 28).toInt := congrArg Int32.toInt (hC_μ147.1 0 28 (by decide +kernel))
                      exact ok_some ⟨hI_μ147, hF_μ147, by (try dsimp only); (try rw [hr_μ147]); omega⟩
              intro c122
              rw [ti_eq] at c122
              refine ok_bd (k_X12_readCall a1 μ hI_μ (by omega)) ?_
              rintro r156 μ155 ⟨hI_μ155, hC_μ155, p_μ155⟩
              have hI_μ155 : IM μ155 := hI_μ155
              have hC_μ155 : Fr [(0, 0, 28), (0, 0, 32), (0, 0, 4), (0, 0, 5), (1, 16, 0), (1, 17, 0), (1, 18, 0), (1, 19, 0), (1, 20, 0)] true μ μ155 := hC_μ155
              dsimp only at p_μ155
              have lo_r156 := ti_lo r156
              have hi_r156 := ti_hi r156
              have hF_μ155 : Fr [(0, 0, 28), (0, 0, 32), (0, 0, 4), (0, 0, 5), (0, 0, 6), (0, 0, 7), (1, 16, 0), (1, 17, 0), (1, 18, 0), (1, 19, 0), (1, 20, 0)] true μ μ155 := hF_μ.trans (hC_μ155.mono (by decide +kernel) (by decide))
              have hr_μ155 : μ155.2.2 = μ.2.2 := (hC_μ155.2 rfl : μ155.2.2 = μ.2.2).trans hr_μ
              try simp only [hr_μ155, hr_μ] at p_μ155
              have g157 := rgm_0_28 hI_μ155
              have g158 := rgm_0_4 hI_μ155
              refine ok_gd (isB_of (by omega)) ?_
              exact ok_some ⟨hI_μ155, hF_μ155, by (try dsimp only); (try rw [hr_μ155]); omega⟩
            · intro c54
              rw [ti_eq] at c54
              have y160 := tf_signOf a1
              refine ok_bd (k_X12_layOpen (6 : Int32) (s_X12_signOf a1) (1 : Int32) μ hI_μ (by omega)) ?_
              rintro r162 μ161 ⟨hI_μ161, hC_μ161, p_μ161⟩
              have hI_μ161 : IM μ161 := hI_μ161
              have hC_μ161 : Fr [(0, 0, 28), (0, 0, 32), (0, 0, 4), (1, 16, 0), (1, 17, 0), (1, 18, 0), (1, 19, 0), (1, 20, 0)] true μ μ161 := hC_μ161
              dsimp only at p_μ161
              have lo_r162 := ti_lo r162
              have hi_r162 := ti_hi r162
              have hF_μ161 : Fr [(0, 0, 28), (0, 0, 32), (0, 0, 4), (0, 0, 5), (0, 0, 6), (0, 0, 7), (1, 16, 0), (1, 17, 0), (1, 18, 0), (1, 19, 0), (1, 20, 0)] true μ μ161 := hF_μ.trans (hC_μ161.mono (by decide +kernel) (by decide))
              have hr_μ161 : μ161.2.2 = μ.2.2 := (hC_μ161.2 rfl : μ161.2.2 = μ.2.2).trans hr_μ
              try simp only [hr_μ161, hr_μ] at p_μ161
              have g163 := rgm_0_4 hI_μ161
              have g164 := rgm_0_28 hI_μ161
              have g165 := rgm_0_32 hI_μ161
              refine ok_gd (isB_of (by omega)) ?_
              exact ok_some ⟨hI_μ161, hF_μ161, by (try dsimp only); (try rw [hr_μ161]); omega⟩
          · intro c52
            rw [ti_eq] at c52
            have y167 := tf_isVarLetter a1
            refine ok_gd (inb_iff.mpr (by (try rw [TI.e (e := (a1 - (109 : Int32))) (n := (a1.toInt - 109)) (TI.sub TI.rf (TI.lit (by decide)) (by omega) (by omega))]); omega)) ?_
            refine ok_ite ?_ ?_
            · intro c168
              rw [ti_eq] at c168
              refine ok_bd (k_X12_fails a2 μ hI_μ) ?_
              rintro r170 μ169 ⟨hI_μ169, hC_μ169, p_μ169⟩
              have hI_μ169 : IM μ169 := hI_μ169
              have hC_μ169 : Fr [(0, 0, 5)] true μ μ169 := hC_μ169
              dsimp only at p_μ169
              have lo_r170 := ti_lo r170
              have hi_r170 := ti_hi r170
              have hF_μ169 : Fr [(0, 0, 28), (0, 0, 32), (0, 0, 4), (0, 0, 5), (0, 0, 6), (0, 0, 7), (1, 16, 0), (1, 17, 0), (1, 18, 0), (1, 19, 0), (1, 20, 0)] true μ μ169 := hF_μ.trans (hC_μ169.mono (by decide +kernel) (by decide))
              have hr_μ169 : μ169.2.2 = μ.2.2 := (hC_μ169.2 rfl : μ169.2.2 = μ.2.2).trans hr_μ
              refine ok_gd (isB_of (by omega)) ?_
              have g171 := rgm_0_28 hI_μ169
              have f172 : (μ169.1 0 28).toInt = (μ.1 0 28).toInt := congrArg Int32.toInt (hC_μ169.1 0 28 (by decide +kernel))
              have g173 := rgm_0_4 hI_μ169
              have f174 : (μ169.1 0 4).toInt = (μ.1 0 4).toInt := congrArg Int32.toInt (hC_μ169.1 0 4 (by decide +kernel))
              exact ok_some ⟨hI_μ169, hF_μ169, by (try dsimp only); (try rw [hr_μ169]); omega⟩
            · intro c168
              rw [ti_eq] at c168
              refine ok_bv (fun μ176 e_μ176 => ?_)
              have hI_μ176 : IM μ176 := by rw [e_μ176]; exact IM_F hI_μ (rpm_0_4 (by (try rw [TI.e (e := ((μ.1 0 4) + (1 : Int32))) (n := ((μ.1 0 4).toInt + 1)) (TI.add TI.rf (TI.lit (by decide)) (by omega) (by omega))]); omega))
              have hF_μ176 : Fr [(0, 0, 28), (0, 0, 32), (0, 0, 4), (0, 0, 5), (0, 0, 6), (0, 0, 7), (1, 16, 0), (1, 17, 0), (1, 18, 0), (1, 19, 0), (1, 20, 0)] true μ μ176 := by rw [e_μ176]; exact Fr.put hF_μ (by decide +kernel)
              have v_μ176 : (μ176.1 0 4).toInt = ((μ.1 0 4).toInt + 1) := by rw [e_μ176, sF_v]; exact TI.e (n := ((μ.1 0 4).toInt + 1)) (TI.add TI.rf (TI.lit (by decide)) (by omega) (by omega))
              have hr_μ176 : μ176.2.2 = μ.2.2 := (by rw [e_μ176]; rfl : μ176.2.2 = μ.2.2).trans hr_μ
              have g179 := rgm_0_28 hI_μ176
              have f180 : (μ176.1 0 28).toInt = (μ.1 0 28).toInt := congrArg Int32.toInt ((by rw [e_μ176]; rfl : μ176.1 0 28 = μ.1 0 28))
              refine ok_bd (k_X12_lay (4 : Int32) (a1 - (109 : Int32)) (0 : Int32) μ176 hI_μ176 (by (try rw [hr_μ176]); (try rw [TI.e (e := (a1 - (109 : Int32))) (n := (a1.toInt - 109)) (TI.sub TI.rf (TI.lit (by decide)) (by omega) (by omega))]); omega)) ?_
              rintro r178 μ177 ⟨hI_μ177, hC_μ177, p_μ177⟩
              have hI_μ177 : IM μ177 := hI_μ177
              have hC_μ177 : Fr [(0, 0, 28), (1, 16, 0), (1, 17, 0), (1, 18, 0)] true μ176 μ177 := hC_μ177
              dsimp only at p_μ177
              have lo_r178 := ti_lo r178
              have hi_r178 := ti_hi r178
              have hF_μ177 : Fr [(0, 0, 28), (0, 0, 32), (0, 0, 4), (0, 0, 5), (0, 0, 6), (0, 0, 7), (1, 16, 0), (1, 17, 0), (1, 18, 0), (1, 19, 0), (1, 20, 0)] true μ μ177 := hF_μ176.trans (hC_μ177.mono (by decide +kernel) (by decide))
              have hr_μ177 : μ177.2.2 = μ.2.2 := (hC_μ177.2 rfl : μ177.2.2 = μ176.2.2).trans hr_μ176
              try simp only [hr_μ177, hr_μ176] at p_μ177
              have g181 := rgm_0_28 hI_μ177
              refine ok_gd (isB_of (by omega)) ?_
              have g182 := rgm_0_4 hI_μ177
              have f183 : (μ177.1 0 4).toInt = (μ176.1 0 4).toInt := congrArg Int32.toInt (hC_μ177.1 0 4 (by decide +kernel))
              exact ok_some ⟨hI_μ177, hF_μ177, by (try dsimp only); (try rw [hr_μ177]); omega⟩
        · intro c51
          rw [ti_eq] at c51
          refine ok_bd (k_X12_readNumber  μ hI_μ) ?_
          rintro r186 μ185 ⟨hI_μ185, hC_μ185, p_μ185⟩
          have hI_μ185 : IM μ185 := hI_μ185
          have hC_μ185 : Fr [(0, 0, 4), (0, 0, 5), (0, 0, 6), (0, 0, 7)] true μ μ185 := hC_μ185
          dsimp only at p_μ185
          have lo_r186 := ti_lo r186
          have hi_r186 := ti_hi r186
          have hF_μ185 : Fr [(0, 0, 28), (0, 0, 32), (0, 0, 4), (0, 0, 5), (0, 0, 6), (0, 0, 7), (1, 16, 0), (1, 17, 0), (1, 18, 0), (1, 19, 0), (1, 20, 0)] true μ μ185 := hF_μ.trans (hC_μ185.mono (by decide +kernel) (by decide))
          have hr_μ185 : μ185.2.2 = μ.2.2 := (hC_μ185.2 rfl : μ185.2.2 = μ.2.2).trans hr_μ
          try simp only [hr_μ185, hr_μ] at p_μ185
          have g187 := rgm_0_4 hI_μ185
          refine ok_ite ?_ ?_
          · intro c188
            rw [ti_eq] at c188
            have g189 := rgm_0_28 hI_μ185
            have f190 : (μ185.1 0 28).toInt = (μ.1 0 28).toInt := congrArg Int32.toInt (hC_μ185.1 0 28 (by decide +kernel))
            exact ok_some ⟨hI_μ185, hF_μ185, by (try dsimp only); (try rw [hr_μ185]); omega⟩
          · intro c188
            rw [ti_eq] at c188
            have g191 := rgm_0_6 hI_μ185
            have g192 := ti_lo (μ185.1 0 7)
            have g192h := ti_hi (μ185.1 0 7)
            have g195 := rgm_0_28 hI_μ185
            have f196 : (μ185.1 0 28).toInt = (μ.1 0 28).toInt := congrArg Int32.toInt (hC_μ185.1 0 28 (by decide +kernel))
            refine ok_bd (k_X12_lay (μ185.1 0 6) (μ185.1 0 7) (0 : Int32) μ185 hI_μ185 (by (try rw [hr_μ185]); omega)) ?_
            rintro r194 μ193 ⟨hI_μ193, hC_μ193, p_μ193⟩
            have hI_μ193 : IM μ193 := hI_μ193
            have hC_μ193 : Fr [(0, 0, 28), (1, 16, 0), (1, 17, 0), (1, 18, 0)] true μ185 μ193 := hC_μ193
            dsimp only at p_μ193
            have lo_r194 := ti_lo r194
            have hi_r194 := ti_hi r194
            have hF_μ193 : Fr [(0, 0, 28), (0, 0, 32), (0, 0, 4), (0, 0, 5), (0, 0, 6), (0, 0, 7), (1, 16, 0), (1, 17, 0), (1, 18, 0), (1, 19, 0), (1, 20, 0)] true μ μ193 := hF_μ185.trans (hC_μ193.mono (by decide +kernel) (by decide))
            have hr_μ193 : μ193.2.2 = μ.2.2 := (hC_μ193.2 rfl : μ193.2.2 = μ185.2.2).trans hr_μ185
            try simp only [hr_μ193, hr_μ185] at p_μ193
            have g197 := rgm_0_28 hI_μ193
            refine ok_ite ?_ ?_
            · intro c198
              rw [ti_eq] at c198
              have g199 := rgm_0_4 hI_μ193
              have f200 : (μ193.1 0 4).toInt = (μ185.1 0 4).toInt := congrArg Int32.toInt (hC_μ193.1 0 4 (by decide +kernel))
              exact ok_some ⟨hI_μ193, hF_μ193, by (try dsimp only); (try rw [hr_μ193]); omega⟩
            · intro c198
              rw [ti_eq] at c198
              have g201 := rgm_0_4 hI_μ193
              have f202 : (μ193.1 0 4).toInt = (μ185.1 0 4).toInt := congrArg Int32.toInt (hC_μ193.1 0 4 (by decide +kernel))
              exact ok_some ⟨hI_μ193, hF_μ193, by (try dsimp only); (try rw [hr_μ193]); omega⟩
set_option maxHeartbeats 4000000 in
set_option maxRecDepth 100000 in
theorem k_X12_readThing_b81 (a1 : Int32) (a2 : Int32) (μ : Mem) (hI_μ : IM μ) (hc : (μ.1 0 28).toInt ≤ (μ.1 0 4).toInt ∧ (((μ.1 0 4).toInt < (μ.1 0 3).toInt ∧ (a1).toInt = ((μ.1 1 (μ.1 0 4).toNatClampNeg) &&& 255).toInt) ∨ ((μ.1 0 3).toInt ≤ (μ.1 0 4).toInt ∧ (a1).toInt = -1)) ∧ ((a1).toInt = 45 ∨ (48 ≤ (a1).toInt ∧ (a1).toInt ≤ 57) ∨ (109 ≤ (a1).toInt ∧ (a1).toInt ≤ 122) ∨ (97 ≤ (a1).toInt ∧ (a1).toInt ≤ 108) ∨ (s_X12_signOf a1).toInt ≠ -1 ∨ (a1).toInt = 40 ∨ (a1).toInt = 91 ∨ (a1).toInt = 63 ∨ (a1).toInt = 33 ∨ (a1).toInt = 38 ∨ (a1).toInt = 95 ∨ (a1).toInt = 58)) : ok (p_X12_readThing_b81 a1 a2 μ) (fun q => IM q.2 ∧ Fr [(0, 0, 28), (0, 0, 32), (0, 0, 4), (0, 0, 5), (0, 0, 6), (0, 0, 7), (1, 16, 0), (1, 17, 0), (1, 18, 0), (1, 19, 0), (1, 20, 0)] true μ q.2 ∧ (((q.1).toInt = 0 ∨ (q.1).toInt = 1) ∧ ((q.1).toInt = 0 ∨ ((q.2.1 0 28).toInt ≤ (q.2.1 0 4).toInt ∧ (μ.1 0 4).toInt < (q.2.1 0 4).toInt)))) := by
  have li0 : (0 : Int32).toInt = 0 := by decide
  have li1 : (1 : Int32).toInt = 1 := by decide
  have hF_μ : Fr [(0, 0, 28), (0, 0, 32), (0, 0, 4), (0, 0, 5), (0, 0, 6), (0, 0, 7), (1, 16, 0), (1, 17, 0), (1, 18, 0), (1, 19, 0), (1, 20, 0)] true μ μ := Fr.rf
  have hr_μ : μ.2.2 = μ.2.2 := rfl
  rw [p_X12_readThing_b81_eq]
  have lo_a1 := ti_lo a1
  have hi_a1 := ti_hi a1
  have lo_a2 := ti_lo a2
  have hi_a2 := ti_hi a2
  have g17 := rgm_0_4 hI_μ
  have g18 := rgm_0_28 hI_μ
  have g19 := rgm_0_3 hI_μ
  exact ok_mono (k_X12_readThing_b86  a1 a2 (1 : Int32) μ hI_μ (by omega)) (fun q h => ⟨h.1, hF_μ.trans h.2.1, by have h9 := h.2.2; (try dsimp only at h9 ⊢); omega⟩)
set_option maxHeartbeats 4000000 in
set_option maxRecDepth 100000 in
theorem k_X12_readThing  (μ : Mem) (hI_μ : IM μ) (hc : (μ.1 0 28).toInt ≤ (μ.1 0 4).toInt) : ok (p_X12_readThing  μ) (fun q => IM q.2 ∧ Fr [(0, 0, 28), (0, 0, 32), (0, 0, 4), (0, 0, 5), (0, 0, 6), (0, 0, 7), (1, 16, 0), (1, 17, 0), (1, 18, 0), (1, 19, 0), (1, 20, 0)] true μ q.2 ∧ (((q.1).toInt = 0 ∨ (q.1).toInt = 1) ∧ ((q.1).toInt = 0 ∨ ((q.2.1 0 28).toInt ≤ (q.2.1 0 4).toInt ∧ (μ.1 0 4).toInt < (q.2.1 0 4).toInt)))) := by
  have lim1 : (-1 : Int32).toInt = -1 := by decide
  have li0 : (0 : Int32).toInt = 0 := by decide
  have li1 : (1 : Int32).toInt = 1 := by decide
  have li33 : (33 : Int32).toInt = 33 := by decide
  have li38 : (38 : Int32).toInt = 38 := by decide
  have li40 : (40 : Int32).toInt = 40 := by decide
  have li58 : (58 : Int32).toInt = 58 := by decide
  have li63 : (63 : Int32).toInt = 63 := by decide
  have li91 : (91 : Int32).toInt = 91 := by decide
  have li95 : (95 : Int32).toInt = 95 := by decide
  have hF_μ : Fr [(0, 0, 28), (0, 0, 32), (0, 0, 4), (0, 0, 5), (0, 0, 6), (0, 0, 7), (1, 16, 0), (1, 17, 0), (1, 18, 0), (1, 19, 0), (1, 20, 0)] true μ μ := Fr.rf
  have hr_μ : μ.2.2 = μ.2.2 := rfl
  rw [p_X12_readThing_eq]
  have g1 := rgm_0_28 hI_μ
  have g2 := rgm_0_4 hI_μ
  have g5 := rgm_0_3 hI_μ
  refine ok_bd (k_X12_here  μ hI_μ) ?_
  rintro r4 μ3 ⟨hq9, p_r4⟩
  obtain rfl : μ = μ3 := hq9
  dsimp only at p_r4
  have lo_r4 := ti_lo r4
  have hi_r4 := ti_hi r4
  refine ok_bv (fun v6 ev6 => ?_)
  have tv6 : v6.toInt = (μ.1 0 4).toInt := congrArg Int32.toInt ev6
  refine ok_bd (k_X12_beginsNumber  μ hI_μ) ?_
  rintro r8 μ7 ⟨hq9, p_r8⟩
  obtain rfl : μ = μ7 := hq9
  dsimp only at p_r8
  have lo_r8 := ti_lo r8
  have hi_r8 := ti_hi r8
  refine ok_ite ?_ ?_
  · intro c9
    rw [ti_eq] at c9
    refine ok_ite ?_ ?_
    · intro c10
      rw [ti_eq] at c10
      have y11 := tf_isVarLetter r4
      refine ok_ite ?_ ?_
      · intro c12
        rw [ti_eq] at c12
        have y13 := tf_isFunctionLetter r4
        refine ok_ite ?_ ?_
        · intro c14
          rw [ti_eq] at c14
          have y15 := tf_signOf r4
          refine ok_ite ?_ ?_
          · intro c16
            rw [ti_eq] at c16
            exact ok_mono (k_X12_readThing_b81  r4 v6 μ hI_μ (by omega)) (fun q h => ⟨h.1, hF_μ.trans h.2.1, by have h9 := h.2.2; (try dsimp only at h9 ⊢); omega⟩)
          · intro c16
            rw [ti_eq] at c16
            refine ok_ite ?_ ?_
            · intro c203
              rw [ti_eq] at c203
              exact ok_mono (k_X12_readThing_b81  r4 v6 μ hI_μ (by omega)) (fun q h => ⟨h.1, hF_μ.trans h.2.1, by have h9 := h.2.2; (try dsimp only at h9 ⊢); omega⟩)
            · intro c203
              rw [ti_eq] at c203
              refine ok_ite ?_ ?_
              · intro c204
                rw [ti_eq] at c204
                exact ok_mono (k_X12_readThing_b81  r4 v6 μ hI_μ (by omega)) (fun q h => ⟨h.1, hF_μ.trans h.2.1, by have h9 := h.2.2; (try dsimp only at h9 ⊢); omega⟩)
              · intro c204
                rw [ti_eq] at c204
                refine ok_ite ?_ ?_
                · intro c205
                  rw [ti_eq] at c205
                  exact ok_mono (k_X12_readThing_b81  r4 v6 μ hI_μ (by omega)) (fun q h => ⟨h.1, hF_μ.trans h.2.1, by have h9 := h.2.2; (try dsimp only at h9 ⊢); omega⟩)
                · intro c205
                  rw [ti_eq] at c205
                  refine ok_ite ?_ ?_
                  · intro c206
                    rw [ti_eq] at c206
                    exact ok_mono (k_X12_readThing_b81  r4 v6 μ hI_μ (by omega)) (fun q h => ⟨h.1, hF_μ.trans h.2.1, by have h9 := h.2.2; (try dsimp only at h9 ⊢); omega⟩)
                  · intro c206
                    rw [ti_eq] at c206
                    refine ok_ite ?_ ?_
                    · intro c207
                      rw [ti_eq] at c207
                      exact ok_mono (k_X12_readThing_b81  r4 v6 μ hI_μ (by omega)) (fun q h => ⟨h.1, hF_μ.trans h.2.1, by have h9 := h.2.2; (try dsimp only at h9 ⊢); omega⟩)
                    · intro c207
                      rw [ti_eq] at c207
                      refine ok_ite ?_ ?_
                      · intro c208
                        rw [ti_eq] at c208
                        exact ok_mono (k_X12_readThing_b81  r4 v6 μ hI_μ (by omega)) (fun q h => ⟨h.1, hF_μ.trans h.2.1, by have h9 := h.2.2; (try dsimp only at h9 ⊢); omega⟩)
                      · intro c208
                        rw [ti_eq] at c208
                        exact ok_mono (k_X12_readThing_b86  r4 v6 (0 : Int32) μ hI_μ (by omega)) (fun q h => ⟨h.1, hF_μ.trans h.2.1, by have h9 := h.2.2; (try dsimp only at h9 ⊢); omega⟩)
        · intro c14
          rw [ti_eq] at c14
          have y209 := tf_signOf r4
          exact ok_mono (k_X12_readThing_b81  r4 v6 μ hI_μ (by omega)) (fun q h => ⟨h.1, hF_μ.trans h.2.1, by have h9 := h.2.2; (try dsimp only at h9 ⊢); omega⟩)
      · intro c12
        rw [ti_eq] at c12
        have y210 := tf_isFunctionLetter r4
        exact ok_mono (k_X12_readThing_b81  r4 v6 μ hI_μ (by omega)) (fun q h => ⟨h.1, hF_μ.trans h.2.1, by have h9 := h.2.2; (try dsimp only at h9 ⊢); omega⟩)
    · intro c10
      rw [ti_eq] at c10
      have y211 := tf_isVarLetter r4
      exact ok_mono (k_X12_readThing_b81  r4 v6 μ hI_μ (by omega)) (fun q h => ⟨h.1, hF_μ.trans h.2.1, by have h9 := h.2.2; (try dsimp only at h9 ⊢); omega⟩)
  · intro c9
    rw [ti_eq] at c9
    exact ok_mono (k_X12_readThing_b81  r4 v6 μ hI_μ (by omega)) (fun q h => ⟨h.1, hF_μ.trans h.2.1, by have h9 := h.2.2; (try dsimp only at h9 ⊢); omega⟩)
