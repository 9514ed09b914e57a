/-! A WHOLE EXPRESSION, THE VARS OF A FUNCTION -/
theorem pk_nd {α : Type} {o : Option α} {P Q : α → Prop} (h : pk o P) (h2 : pk o Q) : pk o (fun r => P r ∧ Q r) := fun r e => ⟨h r e, h2 r e⟩
theorem pk_any {α : Type} {o : Option α} {Q : α → Prop} (h : ∀ r, Q r) : pk o Q := fun r _ => h r
theorem q_readThing_len (μ : Mem) : pk (p_X12_readThing μ) (fun r => r.1 = 0 ∨ ¬ (μ.1 0 28) - (μ.1 14 (μ.1 0 27).toNatClampNeg) = 80) := by
  rw [p_X12_readThing_eq]
  have hf : ∀ (a : Int32) (μ1 : Mem) (Q : Prop), pk (bd (p_X12_fails a μ1) (fun r9 μ8 => gd (isB r9) (some (r9, μ8)))) (fun r => r.1 = 0 ∨ Q) := by
    intro a μ1 Q
    refine pk_bd (q_fails _ _) ?_
    rintro r2 μ2 e2
    obtain ⟨rfl, rfl⟩ := Prod.mk.inj e2
    exact pk_gd fun _ => pk_some (Or.inl rfl)
  have h86 : ∀ (a1 a2 k0 : Int32), pk (p_X12_readThing_b86 a1 a2 k0 μ) (fun r => r.1 = 0 ∨ ¬ (μ.1 0 28) - (μ.1 14 (μ.1 0 27).toNatClampNeg) = 80) := by
    intro a1 a2 k0
    rw [p_X12_readThing_b86_eq]
    exact pk_ite (fun _ => hf _ _ _) (fun _ => pk_gd fun _ => pk_ite (fun _ => hf _ _ _) (fun h => pk_any (fun _ => Or.inr h)))
  refine pk_bd (q_here _) ?_
  rintro r μ1 e
  obtain ⟨rfl, rfl⟩ := Prod.mk.inj e
  refine pk_bv (pk_bd (q_beginsNumber _) ?_)
  rintro r2 μ2 e
  obtain rfl : μ2 = μ1 := e
  have hb : pk (p_X12_readThing_b81 (hv μ2) (μ2.1 0 4) μ2) (fun r => r.1 = 0 ∨ ¬ (μ2.1 0 28) - (μ2.1 14 (μ2.1 0 27).toNatClampNeg) = 80) := by rw [p_X12_readThing_b81_eq]; exact h86 _ _ _
  refine pk_ite (fun _ => pk_ite (fun _ => pk_ite (fun _ => pk_ite (fun _ => ?_) (fun _ => hb)) (fun _ => hb)) (fun _ => hb)) (fun _ => hb)
  refine pk_ite (fun _ => hb) (fun _ => pk_ite (fun _ => hb) (fun _ => pk_ite (fun _ => hb) (fun _ => pk_ite (fun _ => hb) (fun _ => pk_ite (fun _ => hb) (fun _ => pk_ite (fun _ => hb) (fun _ => pk_ite (fun _ => hb) (fun _ => h86 _ _ _)))))))
/-- the function at hand has b for its beginning, and not more than 80 things -/
def Bn (μ : Mem) (b : Nat) : Prop := iv μ 14 (nv μ 27) = (b : Int) ∧ nv μ 28 ≤ b + 80
theorem rt_bn {μ : Mem} {b : Nat} {r : Int32 × Mem} (hI : IM μ) (h : Bn μ b) (hb : b ≤ nv μ 28) (t : Rt μ r) (l : r.1 = 0 ∨ ¬ (μ.1 0 28) - (μ.1 14 (μ.1 0 27).toNatClampNeg) = 80) : r.1 = 0 ∨ Bn r.2 b := by
  rcases l with l | l
  · exact Or.inl l
  rcases t with t | ⟨_, hi, s, v, k, t⟩
  · exact Or.inl t
  right
  have hn := nv_inc hi (by decide)
  have g := rgm_0_28 hI
  have n28 := ti_nat (a := μ.1 0 28) (by omega)
  have e80 : (80 : Int32).toInt = 80 := by decide
  have hne : nv μ 28 ≠ b + 80 := by
    intro e
    apply l
    apply ti_eq.mpr
    have h1 : (μ.1 14 (μ.1 0 27).toNatClampNeg).toInt = (b : Int) := h.1
    have h2 : nv μ 28 = (μ.1 0 28).toNatClampNeg := rfl
    rw [ti_sub (by omega) (by omega), e80, h1]
    omega
  have h3 := h.2
  have h1 := h.1
  have fin : ∀ μ2 : Mem, Fs μ2 r.2 → iv μ2 14 = iv μ 14 → μ2.1 0 27 = μ.1 0 27 → μ2.1 0 28 = μ.1 0 28 + 1 → Bn r.2 b := by
    intro μ2 hF c1 c2 c3
    have e27 : nv r.2 27 = nv μ 27 := by rw [hF.nvq (by decide) (by decide) (by decide) (by decide)]; unfold nv; rw [c2]
    have e28 : nv r.2 28 = nv μ 28 + 1 := by rw [hF.nvq (by decide) (by decide) (by decide) (by decide)]; unfold nv; rw [c3]; exact hn.1
    refine ⟨?_, by omega⟩
    rw [e27, hF.ivq (by decide), c1]
    exact h1
  rcases t with ⟨_, hF⟩ | ⟨_, _, hF⟩ | ⟨_, _, _, hF⟩
  · exact fin _ hF rfl rfl (ly_28 _ _ _ _)
  · exact fin _ hF rfl rfl (ly_28 μ s v k)
  · exact fin _ hF rfl rfl (ly_28 μ s v k)
theorem Ex.ble {μ0 μ : Mem} {b : Nat} {S0 : Nat → Nat} (h : Ex μ0 μ b S0) : b ≤ nv μ 28 := by
  obtain ⟨S, p, _⟩ := h
  exact Cy.ble _ p
theorem q_readExpression_b7 {μ0 : Mem} {b : Nat} {S0 : Nat → Nat} (hS0 : ∀ u, S0 u ≤ 1) : ∀ (m : Nat) (a : Int32) (μ : Mem), IM μ → (μ.1 0 28).toInt ≤ (μ.1 0 4).toInt → Bn μ b → (a ≠ 0 → Ex μ0 μ b S0) → (a = 0 → Dn μ0 μ b S0) → pk (p_X12_readExpression_b7 m a μ) (fun r => r.1 = 0 ∨ (Dn μ0 r.2 b S0 ∧ Bn r.2 b)) := by
  intro m
  induction m with
  | zero => intro a μ _ _ _ _ _ r e; rw [p_X12_readExpression_b7_z] at e; exact absurd e (by simp)
  | succ m ih =>
    intro a μ hI hJ hB h1 h2
    rw [p_X12_readExpression_b7_s]
    refine pk_ite (fun h => pk_some (Or.inr ⟨h2 h, hB⟩)) (fun h => pk_bv (pk_bv (pk_bd (pk_nd (pk_nd (q_readThing μ hI) (q_readThing_len μ)) (pk_ok (k_X12_readThing μ hI hJ))) ?_)))
    have hE := h1 h
    rintro r6 μ5 ⟨⟨t, tl⟩, hI5, hF5, hp5⟩
    have hI5 : IM μ5 := hI5
    have hB5 := rt_bn hI hB hE.ble t tl
    have hx := ex_thing hE t
    refine pk_ite (fun _ => pk_some (Or.inl rfl)) (fun h6 => ?_)
    have hB5 : Bn μ5 b := hB5.resolve_left h6
    have hx := (hx.resolve_left h6).2
    have h60 := i32_0 h6
    have hJ5 : (μ5.1 0 28).toInt ≤ (μ5.1 0 4).toInt := by dsimp only at hp5; omega
    have e57 : ∀ μ1 : Mem, IM μ1 → (μ1.1 0 28).toInt ≤ (μ1.1 0 4).toInt → Bn μ1 b → Ex μ0 μ1 b S0 → pk (p_X12_readExpression_b57 (p_X12_readExpression_b7 m) μ1) (fun r => r.1 = 0 ∨ (Dn μ0 r.2 b S0 ∧ Bn r.2 b)) := by
      intro μ1 i1 i2 i3 i4
      rw [p_X12_readExpression_b57_eq, p_X12_readExpression_b62_eq]
      exact pk_ite (fun _ => ih 1 μ1 i1 i2 i3 (fun _ => i4) (fun e => absurd e (by decide))) (fun _ => pk_some (Or.inl rfl))
    refine pk_ite (fun hle => ?_) (fun hle => ?_)
    · rw [ti_le] at hle
      rcases hx with ⟨_, hw⟩ | ⟨hx, _⟩
      rotate_left
      · dsimp only at hx; omega
      rw [p_X12_readExpression_b43_eq]
      refine pk_ite (fun _ => pk_bd (pk_nd (q_hasMore hS0 μ5 hw) (pk_ok (k_X12_hasMore μ5 hI5 hJ5))) ?_) (fun h => absurd rfl h)
      rintro r7 μ7 ⟨hq, hI7, hF7, hp7⟩
      have hI7 : IM μ7 := hI7
      have hF7 : Fr _ true μ5 μ7 := hF7
      have hJ7 : (μ7.1 0 28).toInt ≤ (μ7.1 0 4).toInt := by dsimp only at hp7; omega
      have hB7 : Bn μ7 b := by
        have c1 : iv μ7 14 = iv μ5 14 := by funext i; exact congrArg Int32.toInt (hF7.1 14 i (by simp [hit]))
        have c2 : μ7.1 0 27 = μ5.1 0 27 := hF7.1 0 27 (by decide +kernel)
        have c3 : μ7.1 0 28 = μ5.1 0 28 := hF7.1 0 28 (by decide +kernel)
        unfold Bn nv at hB5 ⊢
        rw [c1, c2, c3]; exact hB5
      refine pk_ite (fun h7 => ?_) (fun h7 => ?_)
      · rw [p_X12_readExpression_b62_eq]
        refine pk_ite (fun hf => ih 0 μ7 hI7 hJ7 hB7 (fun e => absurd rfl e) (fun _ => ?_)) (fun _ => pk_some (Or.inl rfl))
        rcases hq with ⟨h9, _⟩ | ⟨_, h9 | h9⟩
        · have h9 : r7 = 1 := h9
          rw [h7] at h9; exact absurd h9 (by decide)
        · have h9 : μ7.1 0 5 = μ7.1 0 4 := h9
          have g := rgm_0_4 hI7
          rw [hf] at h9
          have : (-1 : Int32).toInt = -1 := by decide
          rw [← h9] at g
          omega
        · exact h9
      · rcases hq with ⟨_, h9⟩ | ⟨h9, _⟩
        · exact e57 μ7 hI7 hJ7 hB7 h9
        · exact absurd h9 h7
    · rcases hx with ⟨hx, _⟩ | ⟨_, hw⟩
      · rw [ti_le] at hle; dsimp only at hx; omega
      rw [p_X12_readExpression_b43_eq]
      exact pk_ite (fun h => absurd h (by decide)) (fun _ => e57 μ5 hI5 hJ5 hB5 hw)
/-- the vars of function k, n of them -/
def Va (va : Nat → Int) (k n : Nat) : Nat → Prop := fun u => ∃ i, i < n ∧ va (5 * k + i) = (u : Int)
theorem q_readExpression {b : Nat} (μ : Mem) (hI : IM μ) (hJ : (μ.1 0 28).toInt ≤ (μ.1 0 4).toInt) (hb : b = nv μ 28) (hB : iv μ 14 (nv μ 27) = (b : Int)) {F n : Nat} (hv : ∀ u, u < 14 → iv μ 21 u = 0 ∨ (iv μ 21 u = 1 ∧ Va (iv μ 13) F n u)) : pk (p_X12_readExpression μ) (fun r => r.1 = 0 ∨ (Kp μ r.2 b ∧ Fo (iv r.2 16) (iv r.2 17) (iv r.2 18) (Va (iv μ 13) F n) 1 b (nv r.2 28) ∧ Bn r.2 b)) := by
  rw [p_X12_readExpression_eq]
  have g := rgm_0_28 hI
  have e0 : (0 : Int32).toInt = 0 := by decide
  have hS0 : ∀ u, (fun u => if u < 14 then (iv μ 21 u).toNat else 0 : Nat → Nat) u ≤ 1 := by
    intro u
    dsimp only
    split
    · rename_i hu
      rcases hv u hu with h | ⟨h, _⟩ <;> omega
    · omega
  refine pk_bv (pk_mono (q_readExpression_b7 (μ0 := μ) (b := b) (S0 := fun u => if u < 14 then (iv μ 21 u).toNat else 0) hS0 FUEL 1 (sF μ 0 32 0) (IM_F hI (rpm_0_32 (by rw [e0]; omega))) hJ ⟨hB, ?_⟩ (fun _ => ?_) (fun e => absurd e (by decide))) ?_)
  · show nv μ 28 ≤ b + 80
    omega
  · have en : nv (sF μ 0 32 0) 32 = 0 := by unfold nv; rw [sF_v]; decide
    refine ⟨fun u => if u < 14 then (iv μ 21 u).toNat else 0, ?_, ?_, by rw [sF_v]; decide, g.1, fun i _ => ⟨rfl, rfl, rfl⟩⟩
    · rw [en]; exact ⟨hb.symm, rfl⟩
    · intro u hu
      show iv μ 21 u = _
      dsimp only
      rw [if_pos hu]
      rcases hv u hu with h | ⟨h, _⟩ <;> omega
  · rintro r (h | ⟨h, h2⟩)
    · exact Or.inl h
    · refine Or.inr ⟨h.1, h.2.mono _ ?_, h2⟩
      intro u hu
      unfold Sg at hu
      dsimp only at hu
      by_cases hu2 : u < 14
      · rw [if_pos hu2] at hu
        rcases hv u hu2 with h | ⟨_, h⟩
        · omega
        · exact h
      · rw [if_neg hu2] at hu; omega
