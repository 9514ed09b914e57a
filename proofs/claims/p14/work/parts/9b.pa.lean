/-! PARTS OF A ROW, AS LETTERS -/
theorem pp_b90 {K : Nat → Nat → Int32 → Int32 → Int32 → Int32 → Mem → Option Mem} {A B : Nat} {a3 a4 a6 a7 : Int32} {μs : Mem} {k m f : Nat} {Q : Mem → Prop} (h6 : a6.toInt = ((f + k : Nat) : Int)) (hkm : k < m) (hm : m ≤ 210) (hf : f ≤ 10000) (hB : nv μs 139 + 14 * m ≤ 50000)
    (hK : ∀ (a5 a6 : Int32) (q : Mem) (j d : Nat), a5.toInt = (d : Int) → a6.toInt = ((f + (k + 1) : Nat) : Int) → d ≤ k + 1 → Lt μs j q → j + d ≤ 14 * (k + 1) → ok (K A B a3 a4 a5 a6 q) Q) :
    ∀ (d n : Nat) (a5 : Int32) (q : Mem) (j : Nat), a5.toInt = (d : Int) → d ≤ k → d < n → Lt μs j q → j + d ≤ 14 * k + 12 → ok (p_X12_putParts_b90 K n A B a3 a4 a5 a6 a7 q) Q := by
  have e0 : (0 : Int32).toInt = 0 := by decide
  have e1 : (1 : Int32).toInt = 1 := by decide
  have em1 : (-1 : Int32).toInt = -1 := by decide
  have b149 : ∀ (d : Nat) (a5 : Int32) (q : Mem) (j : Nat), a5.toInt = (d : Int) → d ≤ k → Lt μs j q → j + d ≤ 14 * (k + 1) → ok (p_X12_putParts_b149 K A B a3 a4 a5 a6 q) Q := by
    intro d a5 q j h5 hd h hj
    rw [p_X12_putParts_b149_eq]
    exact ok_bv (fun v10 e10 => hK a5 v10 q j d h5 (by rw [e10, ti_add (by omega) (by omega), e1, h6]; omega) (by omega) h hj)
  have b138 : ∀ (d : Nat) (a5 : Int32) (q : Mem) (j : Nat), a5.toInt = (d : Int) → d ≤ k → Lt μs j q → j + d ≤ 14 * k + 12 → ok (p_X12_putParts_b138 K A B a3 a4 a5 a6 a7 q) Q := by
    intro d a5 q j h5 hd h hj
    rw [p_X12_putParts_b138_eq]
    refine ok_ite (fun _ => b149 d a5 q j h5 hd h (by omega)) (fun _ => ?_)
    exact ok_bw (k_put h.1 44 (by have := h.2.2; omega)) (fun z hz => b149 d a5 z (j + 1) h5 hd (h.tr hz (Nat.le_refl _)) (by omega))
  have b120 : ∀ (d : Nat) (a5 : Int32) (q : Mem) (j : Nat), a5.toInt = (d : Int) → d ≤ k → Lt μs j q → j + d ≤ 14 * k + 12 → ok (p_X12_putParts_b120 K A B a3 a4 a5 a6 a7 q) Q := by
    intro d a5 q j h5 hd h hj
    rw [p_X12_putParts_b120_eq]
    refine ok_ite (fun _ => b138 d a5 q j h5 hd h hj) (fun hle => ok_bv (fun v13 e13 => ?_))
    rw [ti_le, e0, h5] at hle
    have t13 : v13.toInt = ((d - 1 : Nat) : Int) := by rw [e13, ti_sub (by omega) (by omega), e1, h5]; omega
    have b13 : inb v13 210 = true := inb_iff.mpr (by omega)
    refine ok_gd b13 (ok_gd b13 (ok_bv (fun μ14 em => ?_)))
    have f14 : Fr frPt true q μ14 := by rw [em]; exact Fr.puta Fr.rf (by decide +kernel)
    have t : nv μ14 139 = nv q 139 := by unfold nv; rw [em, sF_i (by decide)]
    exact b138 d a5 μ14 j h5 hd ⟨by rw [em]; exact IM_F h.1 (rtma_89 _ _), h.2.1.trans f14, by rw [t]; exact h.2.2⟩ hj
  intro d
  induction d with
  | zero =>
    intro n a5 q j h5 hd hn h hj
    obtain ⟨n, rfl⟩ : ∃ m, n = m + 1 := ⟨n - 1, by omega⟩
    rw [p_X12_putParts_b90_s, if_pos (by rw [ti_le, e0, h5]; omega)]
    exact b120 0 a5 q j h5 hd h hj
  | succ d ih =>
    intro n a5 q j h5 hd hn h hj
    obtain ⟨n, rfl⟩ : ∃ m, n = m + 1 := ⟨n - 1, by omega⟩
    rw [p_X12_putParts_b90_s, if_neg (by rw [ti_le, e0, h5]; omega)]
    have t1 : (a5 - 1).toInt = (d : Int) := by rw [ti_sub (by omega) (by omega), e1, h5]; omega
    refine ok_gd (inb_iff.mpr (by omega)) (ok_ite (fun _ => ?_) (fun _ => b120 (d + 1) a5 q j h5 hd h hj))
    exact ok_bw (k_put h.1 93 (by have := h.2.2; omega)) (fun z hz => ok_bv (fun v18 e18 => ih n v18 z (j + 1) (by rw [e18, ti_add (by omega) (by omega), em1, h5]; omega) (by omega) (by omega) (h.tr hz (Nat.le_refl _)) (by omega)))
theorem k_putParts {μs : Mem} (hI : IM μs) (A B : Nat) {a3 a4 : Int32} {f m : Nat} (h3 : a3.toInt = (f : Int)) (h4 : a4.toInt = (m : Int)) (hm : m ≤ 210) (hf : f ≤ 10000) (hA : f + m ≤ (sh 1 A).2) (hA2 : f + m ≤ (sh 1 B).2) (hB : nv μs 139 + 14 * m ≤ 50000) : ok (p_X12_putParts A B a3 a4 μs) (Lt μs (14 * m)) := by
  have e0 : (0 : Int32).toInt = 0 := by decide
  have e1 : (1 : Int32).toInt = 1 := by decide
  have t34 : (a3 + a4).toInt = ((f + m : Nat) : Int) := by rw [ti_add (by omega) (by omega), h3, h4]; omega
  have loop : ∀ (n k d j : Nat) (a5 a6 : Int32) (q : Mem), a5.toInt = (d : Int) → a6.toInt = ((f + k : Nat) : Int) → k ≤ m → m < n + k → d ≤ k → Lt μs j q → j + d ≤ 14 * k → ok (p_X12_putParts_b6 n A B a3 a4 a5 a6 q) (Lt μs (14 * m)) := by
    intro n
    induction n with
    | zero => intro k d j a5 a6 q _ _ h1 h2; omega
    | succ n ih =>
      intro k d j a5 a6 q h5 h6 hk hn hd h hj
      rw [p_X12_putParts_b6_s]
      refine ok_ite (fun hle => ok_some (h.mono (by omega))) (fun hle => ?_)
      rw [ti_le, t34, h6] at hle
      have hkm : k < m := by omega
      have b1 : inb a6 (sh 1 A).2 = true := inb_iff.mpr (by omega)
      have b2 : inb a6 (sh 1 B).2 = true := inb_iff.mpr (by omega)
      have K : ∀ (a5 a6 : Int32) (q : Mem) (j d : Nat), a5.toInt = (d : Int) → a6.toInt = ((f + (k + 1) : Nat) : Int) → d ≤ k + 1 → Lt μs j q → j + d ≤ 14 * (k + 1) → ok (p_X12_putParts_b6 n A B a3 a4 a5 a6 q) (Lt μs (14 * m)) := fun a5 a6 q j d h1 h2 h3 h4 h5 => ih (k + 1) d j a5 a6 q h1 h2 (by omega) (by omega) h3 h4 h5
      have b72 : ∀ (z : Mem) (j2 : Nat), Lt μs j2 z → j2 + d ≤ 14 * k + 12 → ok (p_X12_putParts_b72 (p_X12_putParts_b6 n) A B a3 a4 a5 a6 z) (Lt μs (14 * m)) := by
        intro z j2 hz hj2
        rw [p_X12_putParts_b72_eq]
        refine ok_ite (fun _ => ?_) (fun _ => ?_)
        · rw [p_X12_putParts_b88_eq]
          exact pp_b90 h6 hkm hm hf hB K d FUEL a5 z j2 h5 hd (by show d < 10000000000; omega) hz hj2
        · rw [p_X12_putParts_b88_eq]
          exact pp_b90 h6 hkm hm hf hB K d FUEL a5 z j2 h5 hd (by show d < 10000000000; omega) hz hj2
      refine ok_gd b1 (ok_ite (fun _ => ?_) (fun _ => ok_gd b1 (ok_ite (fun _ => ?_) (fun _ => ok_gd b1 (ok_gd b2 ?_)))))
      · refine ok_bw (k_put h.1 91 (by have := h.2.2; omega)) (fun z hz => ok_gd (inb_iff.mpr (by omega)) (ok_bv (fun μ23 em => ok_bv (fun v24 e24 => ?_))))
        have hz' := h.tr hz (Nat.le_refl _)
        have f23 : Fr frPt true z μ23 := by rw [em]; exact Fr.puta Fr.rf (by decide +kernel)
        have t : nv μ23 139 = nv z 139 := by unfold nv; rw [em, sF_i (by decide)]
        rw [p_X12_putParts_b149_eq]
        exact ok_bv (fun v10 e10 => K v24 v10 μ23 (j + 1) (d + 1) (by rw [e24, ti_add (by omega) (by omega), e1, h5]; omega) (by rw [e10, ti_add (by omega) (by omega), e1, h6]; omega) (by omega) ⟨by rw [em]; exact IM_F hz'.1 (rtma_89 _ _), hz'.2.1.trans f23, by rw [t]; exact hz'.2.2⟩ (by omega))
      · exact ok_bw (k_put h.1 42 (by have := h.2.2; omega)) (fun z hz => b72 z (j + 1) (h.tr hz (Nat.le_refl _)) (by omega))
      · exact ok_bw (k_putOne h.1 _ _ (by have := h.2.2; omega)) (fun z hz => b72 z (j + 12) (h.tr hz (Nat.le_refl _)) (by omega))
  rw [p_X12_putParts_eq]
  exact loop FUEL 0 0 0 0 a3 μs e0 (by rw [h3]; rfl) (by omega) (by show m < 10000000000 + 0; omega) (by omega) (Lt.rf hI) (by omega)
theorem k_value {μ : Mem} (h : IW μ) : ok (p_X12_value μ) (fun q => KpW μ q.2) := by
  have e0 : (0 : Int32).toInt = 0 := by decide
  rw [p_X12_value_eq]
  refine ok_ite (fun _ => ok_some ⟨h, rfl⟩) (fun hd => ok_bv (fun μ2 em => ?_))
  have f2 : Fr frPt true μ μ2 := by rw [em]; exact Fr.put Fr.rf (by decide +kernel)
  have hI2 : IM μ2 := by rw [em]; exact IM_F h.1 (rpm_0_139 (by omega))
  have n2 : nv μ2 139 = 0 := tn_of (by rw [em, sF_v, e0]; rfl)
  have g := rgm_0_133 hI2
  have m := ti_nat (a := μ2.1 0 133) (by omega)
  have s82 : (sh 1 82).2 = 41 := by rw [shm_82]
  have s83 : (sh 1 83).2 = 41 := by rw [shm_83]
  refine ok_bw (k_putParts hI2 82 83 (f := 0) (m := (μ2.1 0 133).toNatClampNeg) (by rw [e0]; rfl) (by omega) (by omega) (by omega) (by omega) (by omega) (by omega)) (fun μ3 hL => ok_some ?_)
  have F : Fr frPt true μ μ3 := f2.trans hL.2.1
  exact ⟨h.fr F hL.1 (by rw [F.v (by decide +kernel)]; exact h.2.2.2.2.2.1) (by decide +kernel), F.v (by decide +kernel)⟩
