/-! WHAT A PROGRAM HAS -/
theorem k_countThings {μ : Mem} (h : PW μ) {f : Nat} (hf : f < nv μ 17) (hN : nv μ 17 ≤ 72) {a1 a2 a3 : Int32} (ha : a1.toInt = (f : Int)) : ok (p_X12_countThings a1 a2 a3 μ) (fun q => q.2 = μ) := by
  have e1 : (1 : Int32).toInt = 1 := by decide
  obtain ⟨⟨p1, p2, p3, p4⟩, _⟩ := h
  obtain ⟨c, n, b, l, h1, h2, h3, h4, h5, h6, h7, h8, h9, h10, h11⟩ := p2 f hf
  have b1 : inb a1 73 = true := inb_iff.mpr (by omega)
  have t5 : (μ.1 5 f).toInt = (b : Int) := h6
  have t6 : (μ.1 6 f).toInt = (l : Int) := h7
  have t56 : (μ.1 5 f + μ.1 6 f).toInt = ((b + l : Nat) : Int) := by rw [ti_add (by omega) (by omega), t5, t6]; omega
  have loop : ∀ (m k : Nat) (a4 a5 : Int32), a5.toInt = (k : Int) → k ≤ b + l → b + l < m + k → ok (p_X12_countThings_b11 m a1 a2 a3 a4 a5 μ) (fun q => q.2 = μ) := by
    intro m
    induction m with
    | zero => intro k a4 a5 _ h1 h2; omega
    | succ m ih =>
      intro k a4 a5 h5 hk hm
      rw [p_X12_countThings_b11_s, tn_of ha]
      refine ok_gd b1 (ok_gd b1 (ok_ite (fun _ => ok_some rfl) (fun hle => ?_)))
      rw [ti_le, t56, h5] at hle
      have b5 : inb a5 800 = true := inb_iff.mpr (by omega)
      have b58 : ∀ k0 k1 : Int32, ok (p_X12_countThings_b58 (p_X12_countThings_b11 m) a1 a2 a3 a5 k0 k1 μ) (fun q => q.2 = μ) := by
        intro k0 k1
        rw [p_X12_countThings_b58_eq]
        exact ok_bv (fun v4 _ => ok_bv (fun v5 e5 => ih (k + 1) v4 v5 (by rw [e5, ti_add (by omega) (by omega), e1, h5]; omega) (by omega) (by omega)))
      have b53 : ∀ k0 : Int32, ok (p_X12_countThings_b53 (p_X12_countThings_b11 m) a1 a2 a3 a5 k0 μ) (fun q => q.2 = μ) := by
        intro k0
        rw [p_X12_countThings_b53_eq]
        exact b58 1 k0
      exact ok_gd b5 (ok_ite (fun _ => b53 a4) (fun _ => ok_gd b5 (ok_ite (fun _ => b53 a4) (fun _ => b58 0 a4))))
  rw [p_X12_countThings_eq, tn_of ha]
  exact ok_gd b1 (ok_bv (fun v1 e1 => loop FUEL b 0 v1 (by rw [e1]; exact t5) (by omega) (by show b + l < 10000000000 + b; omega)))
theorem k_function {μ : Mem} (h : IW μ) (a1 a2 : Int32) : ok (p_X12_function a1 a2 μ) (fun q => KpW μ q.2) := by
  have e0 : (0 : Int32).toInt = 0 := by decide
  have e1 : (1 : Int32).toInt = 1 := by decide
  have hK : KpW μ μ := ⟨h, rfl⟩
  have g17 := rgm_0_17 h.1
  have n17 := ti_nat (a := μ.1 0 17) (by omega)
  have en17 : nv μ 17 = (μ.1 0 17).toNatClampNeg := rfl
  rw [p_X12_function_eq]
  refine ok_ite (fun _ => ok_some hK) (fun hi => ?_)
  have hb : 0 ≤ a1.toInt ∧ a1.toInt ≤ (μ.1 0 17).toInt - 1 := by
    rcases tf_isIn a1 0 (μ.1 0 17 - 1) with ⟨x, _⟩ | ⟨_, x⟩
    · exact absurd (ti_eq.mpr (by rw [x, e0])) hi
    · rw [e0, ti_sub (by omega) (by omega), e1] at x; exact x
  have b1 : inb a1 73 = true := inb_iff.mpr (by omega)
  have ct : ∀ a b : Int32, ok (p_X12_countThings a1 a b μ) (fun q => q.2 = μ) := fun a b => k_countThings h.2.1 (f := a1.toInt.toNat) (by omega) (by omega) (by omega)
  have fin : ∀ a b : Int32, ok (bd (p_X12_countThings a1 a b μ) (fun r8 μ7 => some (r8, μ7))) (fun q => KpW μ q.2) := fun a b => ok_bd (ct a b) (fun r8 μ7 e => ok_some (by have e : μ7 = μ := e; show KpW μ μ7; rw [e]; exact hK))
  exact ok_ite (fun _ => ok_gd b1 (ok_some hK)) (fun _ => ok_ite (fun _ => ok_gd b1 (ok_some hK)) (fun _ => ok_ite (fun _ => ok_gd b1 (ok_some hK)) (fun _ => ok_ite (fun _ => fin 12 12) (fun _ => ok_ite (fun _ => fin 8 8) (fun _ => ok_ite (fun _ => fin 9 10) (fun _ => ok_some hK))))))
theorem q_set (a1 a2 : Int32) (μ : Mem) : pk (p_X12_set a1 a2 μ) (fun r => r.2 = μ ∨ (r.2.1 0 95 = 0 ∧ (iv r.2 29 0 = iv μ 29 0 ∨ (0 ≤ iv r.2 29 0 ∧ iv r.2 29 0 ≤ 12)))) := by
  have e0 : (0 : Int32).toInt = 0 := by decide
  have e12 : (12 : Int32).toInt = 12 := by decide
  have b51 : ∀ k0 : Int32, (a1 = 0 → k0 ≠ 0 → 0 ≤ a2.toInt ∧ a2.toInt ≤ 12) → pk (p_X12_set_b51 a1 a2 k0 μ) (fun r => r.2 = μ ∨ (r.2.1 0 95 = 0 ∧ (iv r.2 29 0 = iv μ 29 0 ∨ (0 ≤ iv r.2 29 0 ∧ iv r.2 29 0 ≤ 12)))) := by
    intro k0 hk
    rw [p_X12_set_b51_eq]
    refine pk_ite (fun _ => pk_some (Or.inl rfl)) (fun h0 => pk_gd (fun hb => pk_bv (pk_bv (pk_some (Or.inr ⟨sF_v .., ?_⟩)))))
    show iv (sF (sF μ 29 a1.toNatClampNeg a2) 0 95 0) 29 0 = iv μ 29 0 ∨ (0 ≤ iv (sF (sF μ 29 a1.toNatClampNeg a2) 0 95 0) 29 0 ∧ iv (sF (sF μ 29 a1.toNatClampNeg a2) 0 95 0) 29 0 ≤ 12)
    unfold iv
    rw [sF_i (by decide)]
    by_cases e : a1 = 0
    · have n0 : a1.toNatClampNeg = 0 := by rw [e]; decide
      rw [n0, sF_v]
      exact Or.inr (hk e h0)
    · have hb' := inb_iff.mp hb
      have n0 : (0 : Nat) ≠ a1.toNatClampNeg := by
        intro h
        have := ti_nat (a := a1) hb'.1
        exact e (ti_eq.mpr (by rw [e0]; omega))
      rw [sF_k n0]
      exact Or.inl rfl
  have b50 : pk (p_X12_set_b50 a1 a2 μ) (fun r => r.2 = μ ∨ (r.2.1 0 95 = 0 ∧ (iv r.2 29 0 = iv μ 29 0 ∨ (0 ≤ iv r.2 29 0 ∧ iv r.2 29 0 ≤ 12)))) := by
    rw [p_X12_set_b50_eq]
    exact b51 0 (fun _ h => absurd rfl h)
  rw [p_X12_set_eq]
  refine pk_ite (fun h => b51 _ (fun _ h2 => ?_)) (fun h => pk_ite (fun _ => b51 _ (fun h2 => absurd h2 h)) (fun _ => pk_ite (fun _ => pk_ite (fun _ => b50) (fun _ => b51 1 (fun h2 => absurd h2 h))) (fun _ => b50)))
  rcases tf_isIn a2 0 12 with ⟨x, _⟩ | ⟨_, x⟩
  · exact absurd (ti_eq.mpr (by rw [x, e0])) h2
  · rw [e0, e12] at x; exact x
theorem k_set {μ : Mem} (h : IW μ) (a1 a2 : Int32) : ok (p_X12_set a1 a2 μ) (fun q => KpW μ q.2) := by
  refine ok_imp ?_ (ok_pk (k_X12_set a1 a2 μ h.1) (q_set a1 a2 μ))
  rintro ⟨r, q⟩ ⟨⟨q1, q2, _⟩, q3⟩
  have q1 : IM q := q1
  have q2 : Fr [(0, 0, 95), (1, 29, 0)] true μ q := q2
  have q3 : q = μ ∨ (q.1 0 95 = 0 ∧ (iv q 29 0 = iv μ 29 0 ∨ (0 ≤ iv q 29 0 ∧ iv q 29 0 ≤ 12))) := q3
  show KpW μ q
  rcases q3 with q3 | ⟨q3, q4⟩
  · rw [q3]; exact ⟨h, rfl⟩
  · obtain ⟨h1, h2, h3, h4, h5, h6, h7⟩ := h
    refine ⟨⟨q1, ?_, ?_, ?_, ?_, by rw [q2.v (by decide +kernel)]; exact h6, fun h => absurd q3 h⟩, q2.v (by decide +kernel)⟩
    · have hP : Pg (iv q 2) (iv q 3) (iv q 4) (iv q 5) (iv q 6) (iv q 7) (iv q 8) (iv q 9) (nv q 17) (nv q 18) := by
        rw [q2.fe (c := 2) (by decide), q2.fe (c := 3) (by decide), q2.fe (c := 4) (by decide), q2.fe (c := 5) (by decide), q2.fe (c := 6) (by decide), q2.fe (c := 7) (by decide), q2.fe (c := 8) (by decide), q2.fe (c := 9) (by decide), q2.n (k := 17) (by decide +kernel), q2.n (k := 18) (by decide +kernel)]
        exact h2.1
      refine ⟨hP, ?_⟩
      unfold Bh
      rw [q2.fe (c := 9) (by decide), q2.fe (c := 10) (by decide), q2.n (k := 18) (by decide +kernel)]
      exact h2.2
    · unfold TW
      rw [q2.fe (c := 25) (by decide), q2.n (k := 43) (by decide +kernel), q2.n (k := 44) (by decide +kernel), q2.n (k := 45) (by decide +kernel)]; exact h3
    · unfold VW
      rw [q2.fe (c := 27) (by decide), q2.n (k := 46) (by decide +kernel), q2.n (k := 47) (by decide +kernel)]; exact h4
    · rcases q4 with q4 | q4
      · rw [q4]; exact h5
      · exact q4
