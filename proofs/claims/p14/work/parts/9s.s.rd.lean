def Ex4 (t : Nat → Int32) (n F b : Nat) (N0 : List Int32) (μ : Mem) (o : Rd (Nat × Nat)) (r : Int32 × Mem) : Prop := Mh μ r.2 ∧ (match o with | .inl f => r.1 = 0 ∧ Mf t n f r.2 | .inr v => r.1 = 1 ∧ Mx4 t n F b N0 [] v r.2)
theorem Ex4.mh {t : Nat → Int32} {n F b : Nat} {N0 : List Int32} {μ q : Mem} {o : Rd (Nat × Nat)} {r : Int32 × Mem} (h : Ex4 t n F b N0 q o r) (hM : Mh μ q) : Ex4 t n F b N0 μ o r := ⟨hM.tr h.1, h.2⟩
theorem q_Mexp {t : Nat → Int32} {n F b : Nat} {N0 : List Int32} (hN0 : N0.length ≤ 5) : ∀ (fu : Nat) (a : Int32) (S : List Fw) (v : Nat × Nat) (μ : Mem), ¬ a = 0 → Mx4 t n F b N0 S v μ → pk (p_X12_readExpression_b7 fu a μ) (Ex4 t n F b N0 μ (ck t n S (re t n (20 - S.length) (cur N0 S) v))) := by
  intro fu
  induction fu with
  | zero => intro a S v μ _ _ r e; rw [p_X12_readExpression_b7_z] at e; cases e
  | succ fu ih =>
    intro a S v μ h0 h
    rw [p_X12_readExpression_b7_s, if_neg h0]
    obtain ⟨p, c⟩ := v
    have more : ∀ S v μ, Mx4 t n F b N0 S v μ → pk (p_X12_readExpression_b57 (p_X12_readExpression_b7 fu) μ) (Ex4 t n F b N0 μ (ck t n S (re t n (20 - S.length) (cur N0 S) v))) := by
      intro S v μ h
      rw [p_X12_readExpression_b57_eq, p_X12_readExpression_b62_eq, if_pos h.1.2.1]
      exact ih 1 S v μ (by decide) h
    refine pk_bvy (fun v3 e3 => pk_bv (pk_bd (rth_thing h) ?_))
    rintro r6 μ5 ⟨hM, ho⟩
    have hM : Mh μ μ5 := hM
    rcases ho with ⟨f, o1, o2, o3⟩ | ⟨v', o1, o2, o3⟩ | ⟨g, v', o1, o2, o3⟩
    · have o1 : r6 = 0 := o1
      rw [if_pos o1, o3, ck_l]
      exact pk_some ⟨hM, rfl, o2⟩
    · have o1 : r6 = 1 := o1
      have o2 : Mx4 t n F b N0 S v' μ5 := o2
      rw [if_neg (by rw [o1]; decide), if_pos (by rw [ti_le, e3, o2.2.2.2.1, h.2.2.2.1]; omega), p_X12_readExpression_b43_eq, if_pos rfl, o3, p_X12_hasMore_eq]
      refine pk_bd (q_Mmore hN0 FUEL S v' μ5 o2) ?_
      rintro r12 μ11 ⟨hM2, ho⟩
      have hM2 : Mh μ5 μ11 := hM2
      generalize ck t n S (.inr v') = oo at ho
      rcases ho with ⟨q1, S2, v2, q2, q3⟩ | ⟨q1, ⟨f, q2, q3⟩ | ⟨v2, q2, q3⟩⟩
      · have q1 : r12 = 1 := q1
        rw [if_neg (by rw [q1]; decide), q3]
        exact pk_mono (more S2 v2 μ11 q2) (fun r hr => hr.mh (hM.tr hM2))
      · have q1 : r12 = 0 := q1
        have q2 : Mf t n f μ11 := q2
        rw [if_pos q1, q3, p_X12_readExpression_b62_eq, if_neg (mf_bad q2)]
        exact pk_some ⟨hM.tr hM2, rfl, q2⟩
      · have q1 : r12 = 0 := q1
        have q2 : Mx4 t n F b N0 [] v2 μ11 := q2
        rw [if_pos q1, q3, p_X12_readExpression_b62_eq, if_pos q2.1.2.1]
        cases fu with
        | zero => intro r e; rw [p_X12_readExpression_b7_z] at e; cases e
        | succ fu =>
          rw [p_X12_readExpression_b7_s, if_pos rfl]
          exact pk_some ⟨hM.tr hM2, rfl, q2⟩
    · have o1 : r6 = 1 := o1
      have o2 : Mx4 t n F b N0 (g :: S) v' μ5 := o2
      have hl : (μ5.1 0 32).toInt = (S.length : Int) + 1 := by rw [o2.2.2.2.1]; simp
      have hS : S.length + 1 ≤ 20 := o2.2.2.2.2.1
      rw [if_neg (by rw [o1]; decide), if_neg (by rw [ti_le, e3, hl, h.2.2.2.1]; omega), p_X12_readExpression_b43_eq, if_neg (by decide), o3]
      have hh := more (g :: S) v' μ5 o2
      rw [show 20 - (g :: S).length = 19 - S.length by show 20 - (S.length + 1) = _; omega] at hh
      exact pk_mono hh (fun r hr => hr.mh hM)
theorem q_Mexpr {t : Nat → Int32} {n F b p : Nat} {N0 : List Int32} {μ : Mem} (hN0 : N0.length ≤ 5) (hw : MwT t n p μ) (h27 : (μ.1 0 27).toInt = (F : Int)) (h14 : (μ.1 14 F).toInt = (b : Int)) (hb : b ≤ 100000) (h28 : (μ.1 0 28).toInt = (b : Int)) (hT : Tl μ N0) : pk (p_X12_readExpression μ) (Ex4 t n F b N0 μ (re t n 20 N0 (p, 0))) := by
  have e0 : (0 : Int32).toInt = 0 := by decide
  rw [p_X12_readExpression_eq]
  refine pk_bvy (fun μ1 e1 => ?_)
  have g0 : ∀ k, k ≠ 32 → μ1.1 0 k = μ.1 0 k := fun k hk => by rw [e1, sF_k hk]
  have g : ∀ i k, i ≠ 0 → μ1.1 i k = μ.1 i k := fun i k hi => by rw [e1, sF_i hi]
  have h : Mx4 t n F b N0 [] (p, 0) μ1 := ⟨mw_of hw (g0 3 (by decide)) (g0 4 (by decide)) (g0 5 (by decide)) (fun j => g 1 j (by decide)), ⟨by rw [g0 27 (by decide)]; exact h27, by rw [g 14 F (by decide)]; exact h14, hb⟩, ⟨by rw [g0 28 (by decide)]; exact h28, Nat.zero_le _⟩, by rw [e1, sF_v]; exact e0, Nat.zero_le _, trivial, fun a ha => by rw [g 21 _ (by decide)]; exact hT a ha⟩
  exact pk_mono (q_Mexp hN0 FUEL 1 [] (p, 0) μ1 (by decide) h) (fun r hr => hr.mh (fun i k x _ => g i k x))
