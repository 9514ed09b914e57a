def Pz (i k : Nat) : Prop := (i = 1 ∨ i = 2 ∨ i = 3 ∨ i = 4 ∨ i = 5 ∨ i = 6 ∨ i = 7 ∨ i = 8 ∨ i = 9 ∨ i = 10 ∨ i = 25 ∨ i = 26 ∨ i = 27 ∨ i = 28 ∨ i = 29) ∨ (i = 0 ∧ (k = 3 ∨ k = 5 ∨ k = 17 ∨ k = 18 ∨ k = 42 ∨ k = 43 ∨ k = 44 ∨ k = 45 ∨ k = 46 ∨ k = 47))
def Tz (μ q : Mem) : Prop := ∀ i k, Pz i k → q.1 i k = μ.1 i k
theorem Tz.rf {μ : Mem} : Tz μ μ := fun _ _ _ => rfl
theorem Tz.tr {μ q z : Mem} (h : Tz μ q) (h2 : Tz q z) : Tz μ z := fun i k hk => (h2 i k hk).trans (h i k hk)
theorem pz_a {i k : Nat} (h0 : i ≠ 0) (h : ¬ (i = 1 ∨ i = 2 ∨ i = 3 ∨ i = 4 ∨ i = 5 ∨ i = 6 ∨ i = 7 ∨ i = 8 ∨ i = 9 ∨ i = 10 ∨ i = 25 ∨ i = 26 ∨ i = 27 ∨ i = 28 ∨ i = 29)) : ¬ Pz i k := fun e => e.elim h (fun e => h0 e.1)
theorem pz_f {k : Nat} (h : ¬ (k = 3 ∨ k = 5 ∨ k = 17 ∨ k = 18 ∨ k = 42 ∨ k = 43 ∨ k = 44 ∨ k = 45 ∨ k = 46 ∨ k = 47)) : ¬ Pz 0 k := fun e => e.elim (fun e => by omega) (fun e => h e.2)
theorem Tz.sF {μ q : Mem} {i k : Nat} {v : Int32} (h : Tz μ q) (hn : ¬ Pz i k) : Tz μ (sF q i k v) := by
  intro i2 k2 hk
  by_cases e : i2 = i
  · by_cases e2 : k2 = k
    · subst e; subst e2; exact absurd hk hn
    · rw [e, sF_k e2, ← e]; exact h i2 k2 hk
  · rw [sF_i e]; exact h i2 k2 hk
theorem w_X12_give (a1 : Int32) (a2 : Int32) (μ : Mem) : pk (p_X12_give a1 a2 μ) (fun q => Tz μ q) := by
  have z0 : Tz μ μ := Tz.rf
  rw [p_X12_give_eq]
  refine pk_bvy (fun μ1 ez1 => ?_)
  have z1 : Tz μ μ1 := by rw [ez1]; exact z0.sF (pz_f (by decide))
  refine pk_bvy (fun μ2 ez2 => ?_)
  have z2 : Tz μ μ2 := by rw [ez2]; exact z1.sF (pz_f (by decide))
  exact pk_some z2
theorem w_X12_join_b16 (a1 : Int32) (a2 : Int32) (a3 : Int32) (a4 : Int32) (a5 : Int32) (k0 : Int32) (μ : Mem) : pk (p_X12_join_b16 a1 a2 a3 a4 a5 k0 μ) (fun q => Tz μ q) := by
  have z0 : Tz μ μ := Tz.rf
  rw [p_X12_join_b16_eq]
  refine pk_ite (fun _ => ?_) (fun _ => ?_)
  · refine pk_bsy (fun r35 => ?_)
    refine pk_ite (fun _ => ?_) (fun _ => ?_)
    · refine pk_bw (w_X12_give (0 : Int32) (0 : Int32) μ) (fun μ41 ez1 => ?_)
      have z1 : Tz μ μ41 := z0.tr ez1
      exact pk_some z1
    · refine pk_bsy (fun r37 => ?_)
      refine pk_gd (fun _ => ?_)
      refine pk_bw (w_X12_give (0 : Int32) (r37 - r37 / r35 * r35) μ) (fun μ39 ez2 => ?_)
      have z2 : Tz μ μ39 := z0.tr ez2
      exact pk_some z2
  · refine pk_ite (fun _ => ?_) (fun _ => ?_)
    · refine pk_ite (fun _ => ?_) (fun _ => ?_)
      · refine pk_ite (fun _ => ?_) (fun _ => ?_)
        · refine pk_bw (w_X12_give (0 : Int32) (0 : Int32) μ) (fun μ25 ez3 => ?_)
          have z3 : Tz μ μ25 := z0.tr ez3
          exact pk_some z3
        · refine pk_bw (w_X12_give (0 : Int32) (1 : Int32) μ) (fun μ27 ez4 => ?_)
          have z4 : Tz μ μ27 := z0.tr ez4
          exact pk_some z4
      · refine pk_bsy (fun r29 => ?_)
        refine pk_ite (fun _ => ?_) (fun _ => ?_)
        · refine pk_bw (w_X12_give (0 : Int32) (0 : Int32) μ) (fun μ31 ez5 => ?_)
          have z5 : Tz μ μ31 := z0.tr ez5
          exact pk_some z5
        · refine pk_bw (w_X12_give (0 : Int32) (1 : Int32) μ) (fun μ33 ez6 => ?_)
          have z6 : Tz μ μ33 := z0.tr ez6
          exact pk_some z6
    · refine pk_ite (fun _ => ?_) (fun _ => ?_)
      · refine pk_ite (fun _ => ?_) (fun _ => ?_)
        · refine pk_ite (fun _ => ?_) (fun _ => ?_)
          · refine pk_bw (w_X12_give (0 : Int32) (1 : Int32) μ) (fun μ15 ez7 => ?_)
            have z7 : Tz μ μ15 := z0.tr ez7
            exact pk_some z7
          · refine pk_bw (w_X12_give (0 : Int32) (0 : Int32) μ) (fun μ13 ez8 => ?_)
            have z8 : Tz μ μ13 := z0.tr ez8
            exact pk_some z8
        · refine pk_bsy (fun r17 => ?_)
          refine pk_ite (fun _ => ?_) (fun _ => ?_)
          · refine pk_bw (w_X12_give (0 : Int32) (0 : Int32) μ) (fun μ19 ez9 => ?_)
            have z9 : Tz μ μ19 := z0.tr ez9
            exact pk_some z9
          · refine pk_bw (w_X12_give (0 : Int32) (1 : Int32) μ) (fun μ21 ez10 => ?_)
            have z10 : Tz μ μ21 := z0.tr ez10
            exact pk_some z10
      · refine pk_ite (fun _ => ?_) (fun _ => ?_)
        · refine pk_bw (w_X12_give (0 : Int32) (s_X12_wholes a1 a3 a5) μ) (fun μ6 ez11 => ?_)
          have z11 : Tz μ μ6 := z0.tr ez11
          exact pk_some z11
        · refine pk_bsy (fun r8 => ?_)
          refine pk_bw (w_X12_give (1 : Int32) r8 μ) (fun μ9 ez12 => ?_)
          have z12 : Tz μ μ9 := z0.tr ez12
          exact pk_some z12
theorem w_X12_join_b11 (a1 : Int32) (a2 : Int32) (a3 : Int32) (a4 : Int32) (a5 : Int32) (μ : Mem) : pk (p_X12_join_b11 a1 a2 a3 a4 a5 μ) (fun q => Tz μ q) := by
  have z0 : Tz μ μ := Tz.rf
  rw [p_X12_join_b11_eq]
  exact pk_mono (w_X12_join_b16 a1 a2 a3 a4 a5 (1 : Int32) μ) (fun _ hq => z0.tr hq)
theorem w_X12_join (a1 : Int32) (a2 : Int32) (a3 : Int32) (a4 : Int32) (a5 : Int32) (μ : Mem) : pk (p_X12_join a1 a2 a3 a4 a5 μ) (fun q => Tz μ q) := by
  have z0 : Tz μ μ := Tz.rf
  rw [p_X12_join_eq]
  refine pk_ite (fun _ => ?_) (fun _ => ?_)
  · exact pk_mono (w_X12_join_b11 a1 a2 a3 a4 a5 μ) (fun _ hq => z0.tr hq)
  · refine pk_ite (fun _ => ?_) (fun _ => ?_)
    · exact pk_mono (w_X12_join_b11 a1 a2 a3 a4 a5 μ) (fun _ hq => z0.tr hq)
    · exact pk_mono (w_X12_join_b16 a1 a2 a3 a4 a5 (0 : Int32) μ) (fun _ hq => z0.tr hq)
theorem w_X12_turn (a1 : Int32) (a2 : Int32) (a3 : Int32) (μ : Mem) : pk (p_X12_turn a1 a2 a3 μ) (fun q => Tz μ q) := by
  have z0 : Tz μ μ := Tz.rf
  rw [p_X12_turn_eq]
  refine pk_ite (fun _ => ?_) (fun _ => ?_)
  · refine pk_bsy (fun r7 => ?_)
    refine pk_bw (w_X12_give (0 : Int32) r7 μ) (fun μ8 ez1 => ?_)
    have z1 : Tz μ μ8 := z0.tr ez1
    exact pk_some z1
  · refine pk_ite (fun _ => ?_) (fun _ => ?_)
    · refine pk_bw (w_X12_give (1 : Int32) (s_X12_floatOf a2 a3) μ) (fun μ5 ez2 => ?_)
      have z2 : Tz μ μ5 := z0.tr ez2
      exact pk_some z2
    · refine pk_bw (w_X12_give (0 : Int32) (s_X12_floatOf a2 a3) μ) (fun μ3 ez3 => ?_)
      have z3 : Tz μ μ3 := z0.tr ez3
      exact pk_some z3
theorem w_X12_op (a1 : Int32) (a2 : Int32) (a3 : Int32) (μ : Mem) : pk (p_X12_op a1 a2 a3 μ) (fun q => Tz μ q.2) := by
  have z0 : Tz μ μ := Tz.rf
  rw [p_X12_op_eq]
  refine pk_ite (fun _ => ?_) (fun _ => ?_)
  · exact pk_some z0
  · refine pk_bw (w_X12_join a2 (1 : Int32) a1 (1 : Int32) a3 μ) (fun μ2 ez1 => ?_)
    have z1 : Tz μ μ2 := z0.tr ez1
    exact pk_some z1
theorem w_X12_here (μ : Mem) : pk (p_X12_here μ) (fun q => Tz μ q.2) := by
  have z0 : Tz μ μ := Tz.rf
  rw [p_X12_here_eq]
  refine pk_ite (fun _ => ?_) (fun _ => ?_)
  · exact pk_some z0
  · refine pk_gd (fun _ => ?_)
    exact pk_some z0
theorem w_X12_beginsNumber (μ : Mem) : pk (p_X12_beginsNumber μ) (fun q => Tz μ q.2) := by
  have z0 : Tz μ μ := Tz.rf
  rw [p_X12_beginsNumber_eq]
  refine pk_bd (w_X12_here μ) (fun r2 μ1 ez1 => ?_)
  have z1 : Tz μ μ1 := z0.tr ez1
  refine pk_ite (fun _ => ?_) (fun _ => ?_)
  · refine pk_bd (w_X12_here μ1) (fun r5 μ4 ez2 => ?_)
    have z2 : Tz μ μ4 := z1.tr ez2
    refine pk_ite (fun _ => ?_) (fun _ => ?_)
    · exact pk_some z2
    · exact pk_some z2
  · exact pk_some z1
theorem w_X12_digits_b8 : ∀ (n : Nat) (a1 : Int32) (a3 : Int32) (a4 : Int32) (μ : Mem), pk (p_X12_digits_b8  n a1 a3 a4 μ) (fun q => Tz μ q.2) := by
  intro n
  induction n with
  | zero => intro a1 a3 a4 μ r e; rw [p_X12_digits_b8_z] at e; cases e
  | succ n ih =>
    intro a1 a3 a4 μ
    have z0 : Tz μ μ := Tz.rf
    rw [p_X12_digits_b8_s]
    refine pk_bd (w_X12_here μ) (fun r3 μ2 ez1 => ?_)
    have z1 : Tz μ μ2 := z0.tr ez1
    refine pk_ite (fun _ => ?_) (fun _ => ?_)
    · exact pk_some z1
    · refine pk_ite (fun _ => ?_) (fun _ => ?_)
      · exact pk_some z1
      · refine pk_bd (w_X12_here μ2) (fun r7 μ6 ez2 => ?_)
        have z2 : Tz μ μ6 := z1.tr ez2
        refine pk_bvy (fun v8 _ => ?_)
        refine pk_bvy (fun μ9 ez3 => ?_)
        have z3 : Tz μ μ9 := by rw [ez3]; exact z2.sF (pz_f (by decide))
        exact pk_mono (ih a1 v8 a4 μ9) (fun _ hq => z3.tr hq)
theorem w_X12_digits (a1 : Int32) (a2 : Int32) (μ : Mem) : pk (p_X12_digits a1 a2 μ) (fun q => Tz μ q.2) := by
  have z0 : Tz μ μ := Tz.rf
  rw [p_X12_digits_eq]
  refine pk_bvy (fun v1 _ => ?_)
  exact pk_mono (w_X12_digits_b8 FUEL a1 a2 v1 μ) (fun _ hq => z0.tr hq)
theorem w_X12_lay (a1 : Int32) (a2 : Int32) (a3 : Int32) (μ : Mem) : pk (p_X12_lay a1 a2 a3 μ) (fun q => Tz μ q.2) := by
  have z0 : Tz μ μ := Tz.rf
  rw [p_X12_lay_eq]
  refine pk_gd (fun _ => ?_)
  refine pk_bvy (fun μ1 ez1 => ?_)
  have z1 : Tz μ μ1 := by rw [ez1]; exact z0.sF (pz_a (by decide) (by decide))
  refine pk_gd (fun _ => ?_)
  refine pk_bvy (fun μ2 ez2 => ?_)
  have z2 : Tz μ μ2 := by rw [ez2]; exact z1.sF (pz_a (by decide) (by decide))
  refine pk_gd (fun _ => ?_)
  refine pk_bvy (fun μ3 ez3 => ?_)
  have z3 : Tz μ μ3 := by rw [ez3]; exact z2.sF (pz_a (by decide) (by decide))
  refine pk_bvy (fun μ4 ez4 => ?_)
  have z4 : Tz μ μ4 := by rw [ez4]; exact z3.sF (pz_f (by decide))
  exact pk_some z4
theorem w_X12_openThing (μ : Mem) : pk (p_X12_openThing μ) (fun q => Tz μ q) := by
  have z0 : Tz μ μ := Tz.rf
  rw [p_X12_openThing_eq]
  refine pk_gd (fun _ => ?_)
  refine pk_bvy (fun μ1 ez1 => ?_)
  have z1 : Tz μ μ1 := by rw [ez1]; exact z0.sF (pz_a (by decide) (by decide))
  refine pk_gd (fun _ => ?_)
  refine pk_bvy (fun μ2 ez2 => ?_)
  have z2 : Tz μ μ2 := by rw [ez2]; exact z1.sF (pz_a (by decide) (by decide))
  refine pk_bvy (fun μ3 ez3 => ?_)
  have z3 : Tz μ μ3 := by rw [ez3]; exact z2.sF (pz_f (by decide))
  exact pk_some z3
theorem w_X12_layOpen (a1 : Int32) (a2 : Int32) (a3 : Int32) (μ : Mem) : pk (p_X12_layOpen a1 a2 a3 μ) (fun q => Tz μ q.2) := by
  have z0 : Tz μ μ := Tz.rf
  rw [p_X12_layOpen_eq]
  refine pk_bvy (fun μ1 ez1 => ?_)
  have z1 : Tz μ μ1 := by rw [ez1]; exact z0.sF (pz_f (by decide))
  refine pk_bd (w_X12_lay a1 a2 a3 μ1) (fun r3 μ2 ez2 => ?_)
  have z2 : Tz μ μ2 := z1.tr ez2
  refine pk_bw (w_X12_openThing μ2) (fun μ4 ez3 => ?_)
  have z3 : Tz μ μ4 := z2.tr ez3
  refine pk_gd (fun _ => ?_)
  exact pk_some z3
theorem w_X12_isNew_b32 (K2 : Int32 → Int32 → Int32 → Mem → Option (Int32 × Mem)) (hK2 : ∀ (y0 : Int32) (y1 : Int32) (y2 : Int32) (y3 : Mem), pk (K2 y0 y1 y2 y3) (fun q => Tz y3 q.2)) (a1 : Int32) (a2 : Int32) (a3 : Int32) (μ : Mem) : pk (p_X12_isNew_b32 K2 a1 a2 a3 μ) (fun q => Tz μ q.2) := by
  have z0 : Tz μ μ := Tz.rf
  rw [p_X12_isNew_b32_eq]
  refine pk_bvy (fun v3 _ => ?_)
  exact pk_mono (hK2 a1 a2 v3 μ) (fun _ hq => z0.tr hq)
theorem w_X12_isNew_b2 : ∀ (n : Nat) (a1 : Int32) (a2 : Int32) (a3 : Int32) (μ : Mem), pk (p_X12_isNew_b2  n a1 a2 a3 μ) (fun q => Tz μ q.2) := by
  intro n
  induction n with
  | zero => intro a1 a2 a3 μ r e; rw [p_X12_isNew_b2_z] at e; cases e
  | succ n ih =>
    intro a1 a2 a3 μ
    have z0 : Tz μ μ := Tz.rf
    rw [p_X12_isNew_b2_s]
    refine pk_ite (fun _ => ?_) (fun _ => ?_)
    · exact pk_some z0
    · refine pk_gd (fun _ => ?_)
      refine pk_ite (fun _ => ?_) (fun _ => ?_)
      · refine pk_gd (fun _ => ?_)
        refine pk_ite (fun _ => ?_) (fun _ => ?_)
        · exact pk_some z0
        · exact pk_mono (w_X12_isNew_b32 (p_X12_isNew_b2  n) ih a1 a2 a3 μ) (fun _ hq => z0.tr hq)
      · exact pk_mono (w_X12_isNew_b32 (p_X12_isNew_b2  n) ih a1 a2 a3 μ) (fun _ hq => z0.tr hq)
theorem w_X12_isNew (a1 : Int32) (a2 : Int32) (μ : Mem) : pk (p_X12_isNew a1 a2 μ) (fun q => Tz μ q.2) := by
  have z0 : Tz μ μ := Tz.rf
  rw [p_X12_isNew_eq]
  exact pk_mono (w_X12_isNew_b2 FUEL a1 a2 (0 : Int32) μ) (fun _ hq => z0.tr hq)
theorem w_X12_copy_b3 : ∀ (n : Nat) (a0 : Nat) (a1 : Int32) (a2 : Int32) (a3 : Nat) (a4 : Int32) (a5 : Int32) (μ : Mem) (hcp : a3 ≠ 0 ∧ ¬ (a3 = 1 ∨ a3 = 2 ∨ a3 = 3 ∨ a3 = 4 ∨ a3 = 5 ∨ a3 = 6 ∨ a3 = 7 ∨ a3 = 8 ∨ a3 = 9 ∨ a3 = 10 ∨ a3 = 25 ∨ a3 = 26 ∨ a3 = 27 ∨ a3 = 28 ∨ a3 = 29)), pk (p_X12_copy_b3  n a0 a1 a2 a3 a4 a5 μ) (fun q => Tz μ q) := by
  intro n
  induction n with
  | zero => intro a0 a1 a2 a3 a4 a5 μ hcp r e; rw [p_X12_copy_b3_z] at e; cases e
  | succ n ih =>
    intro a0 a1 a2 a3 a4 a5 μ hcp
    have z0 : Tz μ μ := Tz.rf
    rw [p_X12_copy_b3_s]
    refine pk_ite (fun _ => ?_) (fun _ => ?_)
    · exact pk_some z0
    · refine pk_gd (fun _ => ?_)
      refine pk_gd (fun _ => ?_)
      refine pk_bvy (fun μ2 ez1 => ?_)
      have z1 : Tz μ μ2 := by rw [ez1]; exact z0.sF (pz_a hcp.1 hcp.2)
      refine pk_bvy (fun v3 _ => ?_)
      exact pk_mono (ih a0 a1 a2 a3 a4 v3 μ2 hcp) (fun _ hq => z1.tr hq)
theorem w_X12_copy (a0 : Nat) (a1 : Int32) (a2 : Int32) (a3 : Nat) (a4 : Int32) (μ : Mem) (hcp : a3 ≠ 0 ∧ ¬ (a3 = 1 ∨ a3 = 2 ∨ a3 = 3 ∨ a3 = 4 ∨ a3 = 5 ∨ a3 = 6 ∨ a3 = 7 ∨ a3 = 8 ∨ a3 = 9 ∨ a3 = 10 ∨ a3 = 25 ∨ a3 = 26 ∨ a3 = 27 ∨ a3 = 28 ∨ a3 = 29)) : pk (p_X12_copy a0 a1 a2 a3 a4 μ) (fun q => Tz μ q) := by
  have z0 : Tz μ μ := Tz.rf
  rw [p_X12_copy_eq]
  exact pk_mono (w_X12_copy_b3 FUEL a0 a1 a2 a3 a4 (0 : Int32) μ hcp) (fun _ hq => z0.tr hq)
theorem w_X12_functionOf_b32 (K2 : Int32 → Int32 → Int32 → Mem → Option (Int32 × Mem)) (hK2 : ∀ (y0 : Int32) (y1 : Int32) (y2 : Int32) (y3 : Mem), pk (K2 y0 y1 y2 y3) (fun q => Tz y3 q.2)) (a1 : Int32) (a2 : Int32) (a3 : Int32) (μ : Mem) : pk (p_X12_functionOf_b32 K2 a1 a2 a3 μ) (fun q => Tz μ q.2) := by
  have z0 : Tz μ μ := Tz.rf
  rw [p_X12_functionOf_b32_eq]
  refine pk_bvy (fun v3 _ => ?_)
  exact pk_mono (hK2 a1 a2 v3 μ) (fun _ hq => z0.tr hq)
theorem w_X12_functionOf_b2 : ∀ (n : Nat) (a1 : Int32) (a2 : Int32) (a3 : Int32) (μ : Mem), pk (p_X12_functionOf_b2  n a1 a2 a3 μ) (fun q => Tz μ q.2) := by
  intro n
  induction n with
  | zero => intro a1 a2 a3 μ r e; rw [p_X12_functionOf_b2_z] at e; cases e
  | succ n ih =>
    intro a1 a2 a3 μ
    have z0 : Tz μ μ := Tz.rf
    rw [p_X12_functionOf_b2_s]
    refine pk_ite (fun _ => ?_) (fun _ => ?_)
    · exact pk_some z0
    · refine pk_gd (fun _ => ?_)
      refine pk_ite (fun _ => ?_) (fun _ => ?_)
      · refine pk_gd (fun _ => ?_)
        refine pk_ite (fun _ => ?_) (fun _ => ?_)
        · exact pk_some z0
        · exact pk_mono (w_X12_functionOf_b32 (p_X12_functionOf_b2  n) ih a1 a2 a3 μ) (fun _ hq => z0.tr hq)
      · exact pk_mono (w_X12_functionOf_b32 (p_X12_functionOf_b2  n) ih a1 a2 a3 μ) (fun _ hq => z0.tr hq)
theorem w_X12_functionOf (a1 : Int32) (a2 : Int32) (μ : Mem) : pk (p_X12_functionOf a1 a2 μ) (fun q => Tz μ q.2) := by
  have z0 : Tz μ μ := Tz.rf
  rw [p_X12_functionOf_eq]
  exact pk_mono (w_X12_functionOf_b2 FUEL a1 a2 (0 : Int32) μ) (fun _ hq => z0.tr hq)
theorem w_X12_layRead (a1 : Int32) (a2 : Int32) (μ : Mem) : pk (p_X12_layRead a1 a2 μ) (fun q => Tz μ q) := by
  have z0 : Tz μ μ := Tz.rf
  rw [p_X12_layRead_eq]
  refine pk_gd (fun _ => ?_)
  refine pk_bvy (fun μ1 ez1 => ?_)
  have z1 : Tz μ μ1 := by rw [ez1]; exact z0.sF (pz_a (by decide) (by decide))
  refine pk_gd (fun _ => ?_)
  refine pk_bvy (fun μ2 ez2 => ?_)
  have z2 : Tz μ μ2 := by rw [ez2]; exact z1.sF (pz_a (by decide) (by decide))
  refine pk_bvy (fun μ3 ez3 => ?_)
  have z3 : Tz μ μ3 := by rw [ez3]; exact z2.sF (pz_f (by decide))
  exact pk_some z3
theorem w_X12_fault (μ : Mem) : pk (p_X12_fault μ) (fun q => Tz μ q.2) := by
  have z0 : Tz μ μ := Tz.rf
  rw [p_X12_fault_eq]
  exact pk_some z0
theorem w_X12_is (a1 : Int32) (μ : Mem) : pk (p_X12_is a1 μ) (fun q => Tz μ q.2) := by
  have z0 : Tz μ μ := Tz.rf
  rw [p_X12_is_eq]
  refine pk_ite (fun _ => ?_) (fun _ => ?_)
  · exact pk_some z0
  · refine pk_ite (fun _ => ?_) (fun _ => ?_)
    · exact pk_some z0
    · refine pk_ite (fun _ => ?_) (fun _ => ?_)
      · exact pk_some z0
      · refine pk_ite (fun _ => ?_) (fun _ => ?_)
        · refine pk_gd (fun _ => ?_)
          exact pk_some z0
        · refine pk_ite (fun _ => ?_) (fun _ => ?_)
          · refine pk_gd (fun _ => ?_)
            exact pk_some z0
          · refine pk_ite (fun _ => ?_) (fun _ => ?_)
            · refine pk_gd (fun _ => ?_)
              exact pk_some z0
            · refine pk_ite (fun _ => ?_) (fun _ => ?_)
              · exact pk_some z0
              · refine pk_ite (fun _ => ?_) (fun _ => ?_)
                · exact pk_some z0
                · exact pk_some z0
theorem w_X12_countThings_b58 (K11 : Int32 → Int32 → Int32 → Int32 → Int32 → Mem → Option (Int32 × Mem)) (hK11 : ∀ (y0 : Int32) (y1 : Int32) (y2 : Int32) (y3 : Int32) (y4 : Int32) (y5 : Mem), pk (K11 y0 y1 y2 y3 y4 y5) (fun q => Tz y5 q.2)) (a1 : Int32) (a2 : Int32) (a3 : Int32) (a5 : Int32) (k0 : Int32) (k1 : Int32) (μ : Mem) : pk (p_X12_countThings_b58 K11 a1 a2 a3 a5 k0 k1 μ) (fun q => Tz μ q.2) := by
  have z0 : Tz μ μ := Tz.rf
  rw [p_X12_countThings_b58_eq]
  refine pk_bvy (fun v4 _ => ?_)
  refine pk_bvy (fun v5 _ => ?_)
  exact pk_mono (hK11 a1 a2 a3 v4 v5 μ) (fun _ hq => z0.tr hq)
theorem w_X12_countThings_b53 (K11 : Int32 → Int32 → Int32 → Int32 → Int32 → Mem → Option (Int32 × Mem)) (hK11 : ∀ (y0 : Int32) (y1 : Int32) (y2 : Int32) (y3 : Int32) (y4 : Int32) (y5 : Mem), pk (K11 y0 y1 y2 y3 y4 y5) (fun q => Tz y5 q.2)) (a1 : Int32) (a2 : Int32) (a3 : Int32) (a5 : Int32) (k0 : Int32) (μ : Mem) : pk (p_X12_countThings_b53 K11 a1 a2 a3 a5 k0 μ) (fun q => Tz μ q.2) := by
  have z0 : Tz μ μ := Tz.rf
  rw [p_X12_countThings_b53_eq]
  exact pk_mono (w_X12_countThings_b58 K11 hK11 a1 a2 a3 a5 (1 : Int32) k0 μ) (fun _ hq => z0.tr hq)
theorem w_X12_countThings_b11 : ∀ (n : Nat) (a1 : Int32) (a2 : Int32) (a3 : Int32) (a4 : Int32) (a5 : Int32) (μ : Mem), pk (p_X12_countThings_b11  n a1 a2 a3 a4 a5 μ) (fun q => Tz μ q.2) := by
  intro n
  induction n with
  | zero => intro a1 a2 a3 a4 a5 μ r e; rw [p_X12_countThings_b11_z] at e; cases e
  | succ n ih =>
    intro a1 a2 a3 a4 a5 μ
    have z0 : Tz μ μ := Tz.rf
    rw [p_X12_countThings_b11_s]
    refine pk_gd (fun _ => ?_)
    refine pk_gd (fun _ => ?_)
    refine pk_ite (fun _ => ?_) (fun _ => ?_)
    · exact pk_some z0
    · refine pk_gd (fun _ => ?_)
      refine pk_ite (fun _ => ?_) (fun _ => ?_)
      · exact pk_mono (w_X12_countThings_b53 (p_X12_countThings_b11  n) ih a1 a2 a3 a5 a4 μ) (fun _ hq => z0.tr hq)
      · refine pk_gd (fun _ => ?_)
        refine pk_ite (fun _ => ?_) (fun _ => ?_)
        · exact pk_mono (w_X12_countThings_b53 (p_X12_countThings_b11  n) ih a1 a2 a3 a5 a4 μ) (fun _ hq => z0.tr hq)
        · exact pk_mono (w_X12_countThings_b58 (p_X12_countThings_b11  n) ih a1 a2 a3 a5 (0 : Int32) a4 μ) (fun _ hq => z0.tr hq)
theorem w_X12_countThings (a1 : Int32) (a2 : Int32) (a3 : Int32) (μ : Mem) : pk (p_X12_countThings a1 a2 a3 μ) (fun q => Tz μ q.2) := by
  have z0 : Tz μ μ := Tz.rf
  rw [p_X12_countThings_eq]
  refine pk_gd (fun _ => ?_)
  refine pk_bvy (fun v1 _ => ?_)
  exact pk_mono (w_X12_countThings_b11 FUEL a1 a2 a3 (0 : Int32) v1 μ) (fun _ hq => z0.tr hq)
theorem w_X12_function (a1 : Int32) (a2 : Int32) (μ : Mem) : pk (p_X12_function a1 a2 μ) (fun q => Tz μ q.2) := by
  have z0 : Tz μ μ := Tz.rf
  rw [p_X12_function_eq]
  refine pk_ite (fun _ => ?_) (fun _ => ?_)
  · exact pk_some z0
  · refine pk_ite (fun _ => ?_) (fun _ => ?_)
    · refine pk_gd (fun _ => ?_)
      exact pk_some z0
    · refine pk_ite (fun _ => ?_) (fun _ => ?_)
      · refine pk_gd (fun _ => ?_)
        exact pk_some z0
      · refine pk_ite (fun _ => ?_) (fun _ => ?_)
        · refine pk_gd (fun _ => ?_)
          exact pk_some z0
        · refine pk_ite (fun _ => ?_) (fun _ => ?_)
          · refine pk_bd (w_X12_countThings a1 (12 : Int32) (12 : Int32) μ) (fun r8 μ7 ez1 => ?_)
            have z1 : Tz μ μ7 := z0.tr ez1
            exact pk_some z1
          · refine pk_ite (fun _ => ?_) (fun _ => ?_)
            · refine pk_bd (w_X12_countThings a1 (8 : Int32) (8 : Int32) μ) (fun r11 μ10 ez2 => ?_)
              have z2 : Tz μ μ10 := z0.tr ez2
              exact pk_some z2
            · refine pk_ite (fun _ => ?_) (fun _ => ?_)
              · refine pk_bd (w_X12_countThings a1 (9 : Int32) (10 : Int32) μ) (fun r14 μ13 ez3 => ?_)
                have z3 : Tz μ μ13 := z0.tr ez3
                exact pk_some z3
              · exact pk_some z0
theorem w_X12_node (a1 : Int32) (a2 : Int32) (μ : Mem) : pk (p_X12_node a1 a2 μ) (fun q => Tz μ q.2) := by
  have z0 : Tz μ μ := Tz.rf
  rw [p_X12_node_eq]
  refine pk_gd (fun _ => ?_)
  refine pk_bvy (fun μ1 ez1 => ?_)
  have z1 : Tz μ μ1 := by rw [ez1]; exact z0.sF (pz_a (by decide) (by decide))
  refine pk_gd (fun _ => ?_)
  refine pk_bvy (fun μ2 ez2 => ?_)
  have z2 : Tz μ μ2 := by rw [ez2]; exact z1.sF (pz_a (by decide) (by decide))
  refine pk_gd (fun _ => ?_)
  refine pk_bvy (fun μ3 ez3 => ?_)
  have z3 : Tz μ μ3 := by rw [ez3]; exact z2.sF (pz_a (by decide) (by decide))
  refine pk_gd (fun _ => ?_)
  refine pk_bvy (fun μ4 ez4 => ?_)
  have z4 : Tz μ μ4 := by rw [ez4]; exact z3.sF (pz_a (by decide) (by decide))
  refine pk_gd (fun _ => ?_)
  refine pk_bvy (fun μ5 ez5 => ?_)
  have z5 : Tz μ μ5 := by rw [ez5]; exact z4.sF (pz_a (by decide) (by decide))
  refine pk_bvy (fun μ6 ez6 => ?_)
  have z6 : Tz μ μ6 := by rw [ez6]; exact z5.sF (pz_f (by decide))
  exact pk_some z6
theorem w_X12_given (μ : Mem) : pk (p_X12_given μ) (fun q => Tz μ q.2) := by
  have z0 : Tz μ μ := Tz.rf
  rw [p_X12_given_eq]
  refine pk_bd (w_X12_node (μ.1 0 0) (μ.1 0 1) μ) (fun r2 μ1 ez1 => ?_)
  have z1 : Tz μ μ1 := z0.tr ez1
  exact pk_some z1
theorem w_X12_pair (a1 : Int32) (a2 : Int32) (μ : Mem) : pk (p_X12_pair a1 a2 μ) (fun q => Tz μ q.2) := by
  have z0 : Tz μ μ := Tz.rf
  rw [p_X12_pair_eq]
  refine pk_bd (w_X12_node (2 : Int32) a1 μ) (fun r2 μ1 ez1 => ?_)
  have z1 : Tz μ μ1 := z0.tr ez1
  refine pk_gd (fun _ => ?_)
  refine pk_bvy (fun μ3 ez2 => ?_)
  have z2 : Tz μ μ3 := by rw [ez2]; exact z1.sF (pz_a (by decide) (by decide))
  refine pk_gd (fun _ => ?_)
  refine pk_gd (fun _ => ?_)
  refine pk_bvy (fun v4 _ => ?_)
  refine pk_gd (fun _ => ?_)
  refine pk_bvy (fun μ5 ez3 => ?_)
  have z3 : Tz μ μ5 := by rw [ez3]; exact z2.sF (pz_a (by decide) (by decide))
  refine pk_gd (fun _ => ?_)
  refine pk_gd (fun _ => ?_)
  refine pk_ite (fun _ => ?_) (fun _ => ?_)
  · refine pk_gd (fun _ => ?_)
    refine pk_gd (fun _ => ?_)
    refine pk_bvy (fun μ7 ez4 => ?_)
    have z4 : Tz μ μ7 := by rw [ez4]; exact z3.sF (pz_a (by decide) (by decide))
    exact pk_some z4
  · refine pk_gd (fun _ => ?_)
    refine pk_gd (fun _ => ?_)
    refine pk_bvy (fun μ8 ez5 => ?_)
    have z5 : Tz μ μ8 := by rw [ez5]; exact z3.sF (pz_a (by decide) (by decide))
    exact pk_some z5
theorem w_X12_num_b2 : ∀ (n : Nat) (a2 : Int32) (μ : Mem), pk (p_X12_num_b2  n a2 μ) (fun q => Tz μ q.2) := by
  intro n
  induction n with
  | zero => intro a2 μ r e; rw [p_X12_num_b2_z] at e; cases e
  | succ n ih =>
    intro a2 μ
    have z0 : Tz μ μ := Tz.rf
    rw [p_X12_num_b2_s]
    refine pk_gd (fun _ => ?_)
    refine pk_ite (fun _ => ?_) (fun _ => ?_)
    · refine pk_gd (fun _ => ?_)
      refine pk_bvy (fun v2 _ => ?_)
      exact pk_mono (ih v2 μ) (fun _ hq => z0.tr hq)
    · exact pk_some z0
theorem w_X12_num (a1 : Int32) (μ : Mem) : pk (p_X12_num a1 μ) (fun q => Tz μ q.2) := by
  have z0 : Tz μ μ := Tz.rf
  rw [p_X12_num_eq]
  exact pk_mono (w_X12_num_b2 FUEL a1 μ) (fun _ hq => z0.tr hq)
theorem w_X12_isKnown (a1 : Int32) (μ : Mem) : pk (p_X12_isKnown a1 μ) (fun q => Tz μ q.2) := by
  have z0 : Tz μ μ := Tz.rf
  rw [p_X12_isKnown_eq]
  refine pk_gd (fun _ => ?_)
  refine pk_ite (fun _ => ?_) (fun _ => ?_)
  · exact pk_some z0
  · exact pk_some z0
theorem w_X12_build (a1 : Int32) (μ : Mem) : pk (p_X12_build a1 μ) (fun q => Tz μ q) := by
  have z0 : Tz μ μ := Tz.rf
  rw [p_X12_build_eq]
  refine pk_gd (fun _ => ?_)
  refine pk_bvy (fun μ1 ez1 => ?_)
  have z1 : Tz μ μ1 := by rw [ez1]; exact z0.sF (pz_a (by decide) (by decide))
  refine pk_bvy (fun μ2 ez2 => ?_)
  have z2 : Tz μ μ2 := by rw [ez2]; exact z1.sF (pz_f (by decide))
  exact pk_some z2
theorem w_X12_unbuild (μ : Mem) : pk (p_X12_unbuild μ) (fun q => Tz μ q.2) := by
  have z0 : Tz μ μ := Tz.rf
  rw [p_X12_unbuild_eq]
  refine pk_bvy (fun μ1 ez1 => ?_)
  have z1 : Tz μ μ1 := by rw [ez1]; exact z0.sF (pz_f (by decide))
  refine pk_gd (fun _ => ?_)
  exact pk_some z1
theorem w_X12_buildOne (a1 : Int32) (a2 : Int32) (μ : Mem) : pk (p_X12_buildOne a1 a2 μ) (fun q => Tz μ q) := by
  have z0 : Tz μ μ := Tz.rf
  rw [p_X12_buildOne_eq]
  refine pk_ite (fun _ => ?_) (fun _ => ?_)
  · refine pk_bd (w_X12_unbuild μ) (fun r3 μ2 ez1 => ?_)
    have z1 : Tz μ μ2 := z0.tr ez1
    refine pk_bd (w_X12_unbuild μ2) (fun r5 μ4 ez2 => ?_)
    have z2 : Tz μ μ4 := z1.tr ez2
    refine pk_bd (w_X12_pair r3 r5 μ4) (fun r7 μ6 ez3 => ?_)
    have z3 : Tz μ μ6 := z2.tr ez3
    refine pk_bw (w_X12_build r7 μ6) (fun μ8 ez4 => ?_)
    have z4 : Tz μ μ8 := z3.tr ez4
    exact pk_some z4
  · refine pk_bd (w_X12_node a1 a2 μ) (fun r11 μ10 ez5 => ?_)
    have z5 : Tz μ μ10 := z0.tr ez5
    refine pk_bw (w_X12_build r11 μ10) (fun μ12 ez6 => ?_)
    have z6 : Tz μ μ12 := z5.tr ez6
    exact pk_some z6
theorem w_X12_buildLeaves_b40 : ∀ (n : Nat) (a1 : Int32) (μ : Mem), pk (p_X12_buildLeaves_b40  n a1 μ) (fun q => Tz μ q) := by
  intro n
  induction n with
  | zero => intro a1 μ r e; rw [p_X12_buildLeaves_b40_z] at e; cases e
  | succ n ih =>
    intro a1 μ
    have z0 : Tz μ μ := Tz.rf
    rw [p_X12_buildLeaves_b40_s]
    refine pk_ite (fun _ => ?_) (fun _ => ?_)
    · exact pk_some z0
    · refine pk_bd (w_X12_unbuild μ) (fun r6 μ5 ez1 => ?_)
      have z1 : Tz μ μ5 := z0.tr ez1
      refine pk_gd (fun _ => ?_)
      refine pk_bvy (fun μ7 ez2 => ?_)
      have z2 : Tz μ μ7 := by rw [ez2]; exact z1.sF (pz_a (by decide) (by decide))
      refine pk_bvy (fun v8 _ => ?_)
      exact pk_mono (ih v8 μ7) (fun _ hq => z2.tr hq)
theorem w_X12_buildLeaves_b12 : ∀ (n : Nat) (a1 : Int32) (μ : Mem), pk (p_X12_buildLeaves_b12  n a1 μ) (fun q => Tz μ q) := by
  intro n
  induction n with
  | zero => intro a1 μ r e; rw [p_X12_buildLeaves_b12_z] at e; cases e
  | succ n ih =>
    intro a1 μ
    have z0 : Tz μ μ := Tz.rf
    rw [p_X12_buildLeaves_b12_s]
    refine pk_ite (fun _ => ?_) (fun _ => ?_)
    · exact pk_mono (w_X12_buildLeaves_b40 FUEL (0 : Int32) μ) (fun _ hq => z0.tr hq)
    · refine pk_gd (fun _ => ?_)
      refine pk_gd (fun _ => ?_)
      refine pk_bw (w_X12_buildOne (μ.1 27 a1.toNatClampNeg) (μ.1 28 a1.toNatClampNeg) μ) (fun μ9 ez1 => ?_)
      have z1 : Tz μ μ9 := z0.tr ez1
      refine pk_bvy (fun v11 _ => ?_)
      exact pk_mono (ih v11 μ9) (fun _ hq => z1.tr hq)
theorem w_X12_buildLeaves (μ : Mem) : pk (p_X12_buildLeaves μ) (fun q => Tz μ q) := by
  have z0 : Tz μ μ := Tz.rf
  rw [p_X12_buildLeaves_eq]
  refine pk_bvy (fun μ1 ez1 => ?_)
  have z1 : Tz μ μ1 := by rw [ez1]; exact z0.sF (pz_f (by decide))
  refine pk_bvy (fun v2 _ => ?_)
  exact pk_mono (w_X12_buildLeaves_b12 FUEL v2 μ1) (fun _ hq => z1.tr hq)
theorem w_X12_push (a1 : Int32) (a2 : Int32) (a3 : Int32) (μ : Mem) : pk (p_X12_push a1 a2 a3 μ) (fun q => Tz μ q) := by
  have z0 : Tz μ μ := Tz.rf
  rw [p_X12_push_eq]
  refine pk_gd (fun _ => ?_)
  refine pk_bvy (fun μ1 ez1 => ?_)
  have z1 : Tz μ μ1 := by rw [ez1]; exact z0.sF (pz_a (by decide) (by decide))
  refine pk_gd (fun _ => ?_)
  refine pk_bvy (fun μ2 ez2 => ?_)
  have z2 : Tz μ μ2 := by rw [ez2]; exact z1.sF (pz_a (by decide) (by decide))
  refine pk_gd (fun _ => ?_)
  refine pk_bvy (fun μ3 ez3 => ?_)
  have z3 : Tz μ μ3 := by rw [ez3]; exact z2.sF (pz_a (by decide) (by decide))
  refine pk_bvy (fun μ4 ez4 => ?_)
  have z4 : Tz μ μ4 := by rw [ez4]; exact z3.sF (pz_f (by decide))
  exact pk_some z4
theorem w_X12_come (a1 : Int32) (μ : Mem) : pk (p_X12_come a1 μ) (fun q => Tz μ q) := by
  have z0 : Tz μ μ := Tz.rf
  rw [p_X12_come_eq]
  refine pk_gd (fun _ => ?_)
  refine pk_bvy (fun μ1 ez1 => ?_)
  have z1 : Tz μ μ1 := by rw [ez1]; exact z0.sF (pz_a (by decide) (by decide))
  refine pk_bvy (fun μ2 ez2 => ?_)
  have z2 : Tz μ μ2 := by rw [ez2]; exact z1.sF (pz_f (by decide))
  exact pk_some z2
theorem w_X12_gone (μ : Mem) : pk (p_X12_gone μ) (fun q => Tz μ q.2) := by
  have z0 : Tz μ μ := Tz.rf
  rw [p_X12_gone_eq]
  refine pk_bvy (fun μ1 ez1 => ?_)
  have z1 : Tz μ μ1 := by rw [ez1]; exact z0.sF (pz_f (by decide))
  refine pk_gd (fun _ => ?_)
  exact pk_some z1
theorem w_X12_begin (a1 : Int32) (μ : Mem) : pk (p_X12_begin a1 μ) (fun q => Tz μ q) := by
  have z0 : Tz μ μ := Tz.rf
  rw [p_X12_begin_eq]
  refine pk_gd (fun _ => ?_)
  refine pk_bvy (fun μ1 ez1 => ?_)
  have z1 : Tz μ μ1 := by rw [ez1]; exact z0.sF (pz_f (by decide))
  refine pk_bvy (fun μ3 ez2 => ?_)
  have z2 : Tz μ μ3 := by rw [ez2]; exact z1.sF (pz_f (by decide))
  refine pk_bvy (fun μ4 ez3 => ?_)
  have z3 : Tz μ μ4 := by rw [ez3]; exact z2.sF (pz_f (by decide))
  refine pk_bvy (fun μ5 ez4 => ?_)
  have z4 : Tz μ μ5 := by rw [ez4]; exact z3.sF (pz_f (by decide))
  refine pk_bvy (fun μ6 ez5 => ?_)
  have z5 : Tz μ μ6 := by rw [ez5]; exact z4.sF (pz_f (by decide))
  exact pk_some z5
theorem w_X12_workBelow_b38 : ∀ (n : Nat) (a1 : Int32) (a3 : Int32) (μ : Mem), pk (p_X12_workBelow_b38  n a1 a3 μ) (fun q => Tz μ q) := by
  intro n
  induction n with
  | zero => intro a1 a3 μ r e; rw [p_X12_workBelow_b38_z] at e; cases e
  | succ n ih =>
    intro a1 a3 μ
    have z0 : Tz μ μ := Tz.rf
    rw [p_X12_workBelow_b38_s]
    refine pk_gd (fun _ => ?_)
    refine pk_ite (fun _ => ?_) (fun _ => ?_)
    · exact pk_some z0
    · refine pk_gd (fun _ => ?_)
      refine pk_bvy (fun v4 _ => ?_)
      refine pk_gd (fun _ => ?_)
      refine pk_gd (fun _ => ?_)
      refine pk_bvy (fun v5 _ => ?_)
      refine pk_gd (fun _ => ?_)
      refine pk_bvy (fun μ6 ez1 => ?_)
      have z1 : Tz μ μ6 := by rw [ez1]; exact z0.sF (pz_a (by decide) (by decide))
      refine pk_gd (fun _ => ?_)
      refine pk_gd (fun _ => ?_)
      refine pk_bvy (fun μ7 ez2 => ?_)
      have z2 : Tz μ μ7 := by rw [ez2]; exact z1.sF (pz_a (by decide) (by decide))
      refine pk_bvy (fun v8 _ => ?_)
      exact pk_mono (ih a1 v8 μ7) (fun _ hq => z2.tr hq)
theorem w_X12_workBelow_b6 : ∀ (n : Nat) (a1 : Int32) (a2 : Int32) (a3 : Int32) (μ : Mem), pk (p_X12_workBelow_b6  n a1 a2 a3 μ) (fun q => Tz μ q) := by
  intro n
  induction n with
  | zero => intro a1 a2 a3 μ r e; rw [p_X12_workBelow_b6_z] at e; cases e
  | succ n ih =>
    intro a1 a2 a3 μ
    have z0 : Tz μ μ := Tz.rf
    rw [p_X12_workBelow_b6_s]
    refine pk_gd (fun _ => ?_)
    refine pk_ite (fun _ => ?_) (fun _ => ?_)
    · exact pk_mono (w_X12_workBelow_b38 FUEL a1 (0 : Int32) μ) (fun _ hq => z0.tr hq)
    · refine pk_bw (w_X12_push (0 : Int32) a2 (0 : Int32) μ) (fun μ9 ez1 => ?_)
      have z1 : Tz μ μ9 := z0.tr ez1
      refine pk_gd (fun _ => ?_)
      refine pk_bvy (fun v11 _ => ?_)
      refine pk_bvy (fun v12 _ => ?_)
      exact pk_mono (ih a1 v11 v12 μ9) (fun _ hq => z1.tr hq)
theorem w_X12_workBelow (a1 : Int32) (μ : Mem) : pk (p_X12_workBelow a1 μ) (fun q => Tz μ q) := by
  have z0 : Tz μ μ := Tz.rf
  rw [p_X12_workBelow_eq]
  refine pk_bvy (fun v1 _ => ?_)
  exact pk_mono (w_X12_workBelow_b6 FUEL a1 v1 (0 : Int32) μ) (fun _ hq => z0.tr hq)
theorem w_X12_work_b16 (a1 : Int32) (a2 : Int32) (μ : Mem) : pk (p_X12_work_b16 a1 a2 μ) (fun q => Tz μ q) := by
  have z0 : Tz μ μ := Tz.rf
  rw [p_X12_work_b16_eq]
  refine pk_gd (fun _ => ?_)
  refine pk_bd (w_X12_node a2 (μ.1 8 a1.toNatClampNeg) μ) (fun r4 μ3 ez1 => ?_)
  have z1 : Tz μ μ3 := z0.tr ez1
  refine pk_bw (w_X12_come r4 μ3) (fun μ5 ez2 => ?_)
  have z2 : Tz μ μ5 := z1.tr ez2
  exact pk_some z2
theorem w_X12_work_b86 (a1 : Int32) (k0 : Int32) (μ : Mem) : pk (p_X12_work_b86 a1 k0 μ) (fun q => Tz μ q) := by
  have z0 : Tz μ μ := Tz.rf
  rw [p_X12_work_b86_eq]
  refine pk_bw (w_X12_push k0 a1 (0 : Int32) μ) (fun μ11 ez1 => ?_)
  have z1 : Tz μ μ11 := z0.tr ez1
  refine pk_bw (w_X12_push (0 : Int32) (a1 + (1 : Int32)) (0 : Int32) μ11) (fun μ13 ez2 => ?_)
  have z2 : Tz μ μ13 := z1.tr ez2
  exact pk_some z2
theorem w_X12_work_b74 (a1 : Int32) (a2 : Int32) (μ : Mem) : pk (p_X12_work_b74 a1 a2 μ) (fun q => Tz μ q) := by
  have z0 : Tz μ μ := Tz.rf
  rw [p_X12_work_b74_eq]
  refine pk_ite (fun _ => ?_) (fun _ => ?_)
  · exact pk_mono (w_X12_work_b86 a1 (2 : Int32) μ) (fun _ hq => z0.tr hq)
  · exact pk_mono (w_X12_work_b86 a1 (3 : Int32) μ) (fun _ hq => z0.tr hq)
theorem w_X12_work (a1 : Int32) (μ : Mem) : pk (p_X12_work a1 μ) (fun q => Tz μ q) := by
  have z0 : Tz μ μ := Tz.rf
  rw [p_X12_work_eq]
  refine pk_gd (fun _ => ?_)
  refine pk_bvy (fun v1 _ => ?_)
  refine pk_ite (fun _ => ?_) (fun _ => ?_)
  · exact pk_mono (w_X12_work_b16 a1 v1 μ) (fun _ hq => z0.tr hq)
  · refine pk_ite (fun _ => ?_) (fun _ => ?_)
    · exact pk_mono (w_X12_work_b16 a1 v1 μ) (fun _ hq => z0.tr hq)
    · refine pk_ite (fun _ => ?_) (fun _ => ?_)
      · refine pk_gd (fun _ => ?_)
        refine pk_gd (fun _ => ?_)
        refine pk_bw (w_X12_come (μ.1 41 ((μ.1 0 67) + (μ.1 8 a1.toNatClampNeg)).toNatClampNeg) μ) (fun μ20 ez1 => ?_)
        have z1 : Tz μ μ20 := z0.tr ez1
        exact pk_some z1
      · refine pk_ite (fun _ => ?_) (fun _ => ?_)
        · exact pk_mono (w_X12_work_b74 a1 v1 μ) (fun _ hq => z0.tr hq)
        · refine pk_ite (fun _ => ?_) (fun _ => ?_)
          · exact pk_mono (w_X12_work_b74 a1 v1 μ) (fun _ hq => z0.tr hq)
          · refine pk_bw (w_X12_push (1 : Int32) a1 (0 : Int32) μ) (fun μ16 ez2 => ?_)
            have z2 : Tz μ μ16 := z0.tr ez2
            refine pk_bw (w_X12_workBelow a1 μ16) (fun μ18 ez3 => ?_)
            have z3 : Tz μ μ18 := z2.tr ez3
            exact pk_some z3
theorem w_X12_item (a1 : Int32) (μ : Mem) : pk (p_X12_item a1 μ) (fun q => Tz μ q.2) := by
  have z0 : Tz μ μ := Tz.rf
  rw [p_X12_item_eq]
  refine pk_gd (fun _ => ?_)
  refine pk_bvy (fun μ1 ez1 => ?_)
  have z1 : Tz μ μ1 := by rw [ez1]; exact z0.sF (pz_a (by decide) (by decide))
  refine pk_gd (fun _ => ?_)
  refine pk_bvy (fun μ2 ez2 => ?_)
  have z2 : Tz μ μ2 := by rw [ez2]; exact z1.sF (pz_a (by decide) (by decide))
  refine pk_gd (fun _ => ?_)
  refine pk_bvy (fun μ3 ez3 => ?_)
  have z3 : Tz μ μ3 := by rw [ez3]; exact z2.sF (pz_a (by decide) (by decide))
  refine pk_gd (fun _ => ?_)
  refine pk_bvy (fun μ4 ez4 => ?_)
  have z4 : Tz μ μ4 := by rw [ez4]; exact z3.sF (pz_a (by decide) (by decide))
  refine pk_gd (fun _ => ?_)
  refine pk_bvy (fun μ5 ez5 => ?_)
  have z5 : Tz μ μ5 := by rw [ez5]; exact z4.sF (pz_a (by decide) (by decide))
  refine pk_bvy (fun μ6 ez6 => ?_)
  have z6 : Tz μ μ6 := by rw [ez6]; exact z5.sF (pz_f (by decide))
  exact pk_some z6
theorem w_X12_countInstruction (a1 : Int32) (a2 : Int32) (μ : Mem) : pk (p_X12_countInstruction a1 a2 μ) (fun q => Tz μ q) := by
  have z0 : Tz μ μ := Tz.rf
  rw [p_X12_countInstruction_eq]
  refine pk_ite (fun _ => ?_) (fun _ => ?_)
  · refine pk_bvy (fun μ6 ez1 => ?_)
    have z1 : Tz μ μ6 := by rw [ez1]; exact z0.sF (pz_f (by decide))
    exact pk_some z1
  · refine pk_bvy (fun μ2 ez2 => ?_)
    have z2 : Tz μ μ2 := by rw [ez2]; exact z0.sF (pz_f (by decide))
    refine pk_ite (fun _ => ?_) (fun _ => ?_)
    · exact pk_some z2
    · refine pk_gd (fun _ => ?_)
      refine pk_bvy (fun μ4 ez3 => ?_)
      have z3 : Tz μ μ4 := by rw [ez3]; exact z2.sF (pz_a (by decide) (by decide))
      refine pk_bvy (fun μ5 ez4 => ?_)
      have z4 : Tz μ μ5 := by rw [ez4]; exact z3.sF (pz_f (by decide))
      exact pk_some z4
theorem w_X12_instruction (a1 : Int32) (a2 : Int32) (μ : Mem) : pk (p_X12_instruction a1 a2 μ) (fun q => Tz μ q.2) := by
  have z0 : Tz μ μ := Tz.rf
  rw [p_X12_instruction_eq]
  refine pk_bd (w_X12_item a1 μ) (fun r2 μ1 ez1 => ?_)
  have z1 : Tz μ μ1 := z0.tr ez1
  refine pk_bw (w_X12_countInstruction r2 a2 μ1) (fun μ3 ez2 => ?_)
  have z2 : Tz μ μ3 := z1.tr ez2
  exact pk_some z2
theorem w_X12_operand (a1 : Int32) (a2 : Int32) (μ : Mem) : pk (p_X12_operand a1 a2 μ) (fun q => Tz μ q) := by
  have z0 : Tz μ μ := Tz.rf
  rw [p_X12_operand_eq]
  refine pk_gd (fun _ => ?_)
  refine pk_gd (fun _ => ?_)
  refine pk_bvy (fun μ1 ez1 => ?_)
  have z1 : Tz μ μ1 := by rw [ez1]; exact z0.sF (pz_a (by decide) (by decide))
  refine pk_gd (fun _ => ?_)
  refine pk_gd (fun _ => ?_)
  refine pk_bvy (fun μ2 ez2 => ?_)
  have z2 : Tz μ μ2 := by rw [ez2]; exact z1.sF (pz_a (by decide) (by decide))
  refine pk_bvy (fun μ3 ez3 => ?_)
  have z3 : Tz μ μ3 := by rw [ez3]; exact z2.sF (pz_f (by decide))
  refine pk_gd (fun _ => ?_)
  refine pk_gd (fun _ => ?_)
  refine pk_bvy (fun μ4 ez4 => ?_)
  have z4 : Tz μ μ4 := by rw [ez4]; exact z3.sF (pz_a (by decide) (by decide))
  exact pk_some z4
theorem w_X12_registerOf (a1 : Int32) (μ : Mem) : pk (p_X12_registerOf a1 μ) (fun q => Tz μ q.2) := by
  have z0 : Tz μ μ := Tz.rf
  rw [p_X12_registerOf_eq]
  refine pk_gd (fun _ => ?_)
  refine pk_bd (w_X12_node (3 : Int32) (μ.1 47 a1.toNatClampNeg) μ) (fun r2 μ1 ez1 => ?_)
  have z1 : Tz μ μ1 := z0.tr ez1
  exact pk_some z1
theorem w_X12_doSign_b72 (a1 : Int32) (a2 : Int32) (a3 : Int32) (μ : Mem) : pk (p_X12_doSign_b72 a1 a2 a3 μ) (fun q => Tz μ q) := by
  have z0 : Tz μ μ := Tz.rf
  rw [p_X12_doSign_b72_eq]
  refine pk_bd (w_X12_instruction (0 : Int32) (1 : Int32) μ) (fun r13 μ12 ez1 => ?_)
  have z1 : Tz μ μ12 := z0.tr ez1
  refine pk_ite (fun _ => ?_) (fun _ => ?_)
  · refine pk_gd (fun _ => ?_)
    refine pk_bvy (fun μ15 ez2 => ?_)
    have z2 : Tz μ μ15 := by rw [ez2]; exact z1.sF (pz_a (by decide) (by decide))
    refine pk_bw (w_X12_operand r13 a3 μ15) (fun μ16 ez3 => ?_)
    have z3 : Tz μ μ16 := z2.tr ez3
    refine pk_bw (w_X12_operand r13 a2 μ16) (fun μ18 ez4 => ?_)
    have z4 : Tz μ μ18 := z3.tr ez4
    refine pk_bd (w_X12_registerOf r13 μ18) (fun r21 μ20 ez5 => ?_)
    have z5 : Tz μ μ20 := z4.tr ez5
    refine pk_bw (w_X12_come r21 μ20) (fun μ22 ez6 => ?_)
    have z6 : Tz μ μ22 := z5.tr ez6
    exact pk_some z6
  · exact pk_some z1
theorem w_X12_doSign (a1 : Int32) (μ : Mem) : pk (p_X12_doSign a1 μ) (fun q => Tz μ q) := by
  have z0 : Tz μ μ := Tz.rf
  rw [p_X12_doSign_eq]
  refine pk_bd (w_X12_gone μ) (fun r2 μ1 ez1 => ?_)
  have z1 : Tz μ μ1 := z0.tr ez1
  refine pk_bd (w_X12_num r2 μ1) (fun r4 μ3 ez2 => ?_)
  have z2 : Tz μ μ3 := z1.tr ez2
  refine pk_bd (w_X12_gone μ3) (fun r6 μ5 ez3 => ?_)
  have z3 : Tz μ μ5 := z2.tr ez3
  refine pk_bd (w_X12_num r6 μ5) (fun r8 μ7 ez4 => ?_)
  have z4 : Tz μ μ7 := z3.tr ez4
  refine pk_bd (w_X12_isKnown r8 μ7) (fun r10 μ9 ez5 => ?_)
  have z5 : Tz μ μ9 := z4.tr ez5
  refine pk_ite (fun _ => ?_) (fun _ => ?_)
  · exact pk_mono (w_X12_doSign_b72 a1 r4 r8 μ9) (fun _ hq => z5.tr hq)
  · refine pk_bd (w_X12_isKnown r4 μ9) (fun r25 μ24 ez6 => ?_)
    have z6 : Tz μ μ24 := z5.tr ez6
    refine pk_ite (fun _ => ?_) (fun _ => ?_)
    · exact pk_mono (w_X12_doSign_b72 a1 r4 r8 μ24) (fun _ hq => z6.tr hq)
    · refine pk_gd (fun _ => ?_)
      refine pk_gd (fun _ => ?_)
      refine pk_gd (fun _ => ?_)
      refine pk_gd (fun _ => ?_)
      refine pk_bw (w_X12_join a1 (μ24.1 30 r8.toNatClampNeg) (μ24.1 31 r8.toNatClampNeg) (μ24.1 30 r4.toNatClampNeg) (μ24.1 31 r4.toNatClampNeg) μ24) (fun μ27 ez7 => ?_)
      have z7 : Tz μ μ27 := z6.tr ez7
      refine pk_bd (w_X12_given μ27) (fun r30 μ29 ez8 => ?_)
      have z8 : Tz μ μ29 := z7.tr ez8
      refine pk_bw (w_X12_come r30 μ29) (fun μ31 ez9 => ?_)
      have z9 : Tz μ μ31 := z8.tr ez9
      exact pk_some z9
theorem w_X12_doOne_b56 (a1 : Int32) (a2 : Int32) (μ : Mem) : pk (p_X12_doOne_b56 a1 a2 μ) (fun q => Tz μ q) := by
  have z0 : Tz μ μ := Tz.rf
  rw [p_X12_doOne_b56_eq]
  refine pk_bd (w_X12_isKnown a2 μ) (fun r6 μ5 ez1 => ?_)
  have z1 : Tz μ μ5 := z0.tr ez1
  refine pk_ite (fun _ => ?_) (fun _ => ?_)
  · refine pk_bd (w_X12_instruction ((1 : Int32) + a1) (1 : Int32) μ5) (fun r23 μ22 ez2 => ?_)
    have z2 : Tz μ μ22 := z1.tr ez2
    refine pk_ite (fun _ => ?_) (fun _ => ?_)
    · refine pk_bw (w_X12_operand r23 a2 μ22) (fun μ25 ez3 => ?_)
      have z3 : Tz μ μ25 := z2.tr ez3
      refine pk_bd (w_X12_registerOf r23 μ25) (fun r28 μ27 ez4 => ?_)
      have z4 : Tz μ μ27 := z3.tr ez4
      refine pk_bw (w_X12_come r28 μ27) (fun μ29 ez5 => ?_)
      have z5 : Tz μ μ29 := z4.tr ez5
      exact pk_some z5
    · exact pk_some z2
  · refine pk_ite (fun _ => ?_) (fun _ => ?_)
    · refine pk_bw (w_X12_come a2 μ5) (fun μ20 ez6 => ?_)
      have z6 : Tz μ μ20 := z1.tr ez6
      exact pk_some z6
    · refine pk_ite (fun _ => ?_) (fun _ => ?_)
      · refine pk_bd (w_X12_node (0 : Int32) (0 : Int32) μ5) (fun r17 μ16 ez7 => ?_)
        have z7 : Tz μ μ16 := z1.tr ez7
        refine pk_bw (w_X12_come r17 μ16) (fun μ18 ez8 => ?_)
        have z8 : Tz μ μ18 := z7.tr ez8
        exact pk_some z8
      · refine pk_gd (fun _ => ?_)
        refine pk_gd (fun _ => ?_)
        refine pk_bw (w_X12_turn a1 (μ5.1 30 a2.toNatClampNeg) (μ5.1 31 a2.toNatClampNeg) μ5) (fun μ10 ez9 => ?_)
        have z9 : Tz μ μ10 := z1.tr ez9
        refine pk_bd (w_X12_given μ10) (fun r13 μ12 ez10 => ?_)
        have z10 : Tz μ μ12 := z9.tr ez10
        refine pk_bw (w_X12_come r13 μ12) (fun μ14 ez11 => ?_)
        have z11 : Tz μ μ14 := z10.tr ez11
        exact pk_some z11
theorem w_X12_doOne_b45 (a1 : Int32) (a2 : Int32) (μ : Mem) : pk (p_X12_doOne_b45 a1 a2 μ) (fun q => Tz μ q) := by
  have z0 : Tz μ μ := Tz.rf
  rw [p_X12_doOne_b45_eq]
  refine pk_ite (fun _ => ?_) (fun _ => ?_)
  · exact pk_mono (w_X12_doOne_b56 a1 a2 μ) (fun _ hq => z0.tr hq)
  · refine pk_bd (w_X12_num a2 μ) (fun r32 μ31 ez1 => ?_)
    have z1 : Tz μ μ31 := z0.tr ez1
    exact pk_mono (w_X12_doOne_b56 a1 r32 μ31) (fun _ hq => z1.tr hq)
theorem w_X12_doOne (a1 : Int32) (μ : Mem) : pk (p_X12_doOne a1 μ) (fun q => Tz μ q) := by
  have z0 : Tz μ μ := Tz.rf
  rw [p_X12_doOne_eq]
  refine pk_bd (w_X12_gone μ) (fun r2 μ1 ez1 => ?_)
  have z1 : Tz μ μ1 := z0.tr ez1
  refine pk_ite (fun _ => ?_) (fun _ => ?_)
  · exact pk_mono (w_X12_doOne_b45 a1 r2 μ1) (fun _ hq => z1.tr hq)
  · refine pk_gd (fun _ => ?_)
    refine pk_ite (fun _ => ?_) (fun _ => ?_)
    · refine pk_ite (fun _ => ?_) (fun _ => ?_)
      · refine pk_gd (fun _ => ?_)
        refine pk_bw (w_X12_come (μ1.1 31 r2.toNatClampNeg) μ1) (fun μ37 ez2 => ?_)
        have z2 : Tz μ μ37 := z1.tr ez2
        exact pk_some z2
      · refine pk_gd (fun _ => ?_)
        refine pk_bw (w_X12_come (μ1.1 32 r2.toNatClampNeg) μ1) (fun μ35 ez3 => ?_)
        have z3 : Tz μ μ35 := z1.tr ez3
        exact pk_some z3
    · exact pk_mono (w_X12_doOne_b45 a1 r2 μ1) (fun _ hq => z1.tr hq)
theorem w_X12_doPair (μ : Mem) : pk (p_X12_doPair μ) (fun q => Tz μ q) := by
  have z0 : Tz μ μ := Tz.rf
  rw [p_X12_doPair_eq]
  refine pk_bd (w_X12_gone μ) (fun r2 μ1 ez1 => ?_)
  have z1 : Tz μ μ1 := z0.tr ez1
  refine pk_bd (w_X12_gone μ1) (fun r4 μ3 ez2 => ?_)
  have z2 : Tz μ μ3 := z1.tr ez2
  refine pk_bd (w_X12_pair r4 r2 μ3) (fun r6 μ5 ez3 => ?_)
  have z3 : Tz μ μ5 := z2.tr ez3
  refine pk_gd (fun _ => ?_)
  refine pk_ite (fun _ => ?_) (fun _ => ?_)
  · refine pk_bw (w_X12_come r6 μ5) (fun μ8 ez4 => ?_)
    have z4 : Tz μ μ8 := z3.tr ez4
    exact pk_some z4
  · refine pk_ite (fun _ => ?_) (fun _ => ?_)
    · refine pk_bvy (fun μ11 ez5 => ?_)
      have z5 : Tz μ μ11 := by rw [ez5]; exact z3.sF (pz_f (by decide))
      refine pk_bw (w_X12_come r6 μ11) (fun μ12 ez6 => ?_)
      have z6 : Tz μ μ12 := z5.tr ez6
      exact pk_some z6
    · refine pk_bvy (fun μ14 ez7 => ?_)
      have z7 : Tz μ μ14 := by rw [ez7]; exact z3.sF (pz_f (by decide))
      refine pk_bw (w_X12_come r6 μ14) (fun μ15 ez8 => ?_)
      have z8 : Tz μ μ15 := z7.tr ez8
      exact pk_some z8
theorem w_X12_show (a1 : Int32) (μ : Mem) : pk (p_X12_show a1 μ) (fun q => Tz μ q) := by
  have z0 : Tz μ μ := Tz.rf
  rw [p_X12_show_eq]
  refine pk_ite (fun _ => ?_) (fun _ => ?_)
  · refine pk_bvy (fun μ2 ez1 => ?_)
    have z1 : Tz μ μ2 := by rw [ez1]; exact z0.sF (pz_f (by decide))
    exact pk_some z1
  · refine pk_gd (fun _ => ?_)
    refine pk_gd (fun _ => ?_)
    refine pk_bvy (fun μ3 ez2 => ?_)
    have z2 : Tz μ μ3 := by rw [ez2]; exact z0.sF (pz_a (by decide) (by decide))
    refine pk_gd (fun _ => ?_)
    refine pk_gd (fun _ => ?_)
    refine pk_bvy (fun μ4 ez3 => ?_)
    have z3 : Tz μ μ4 := by rw [ez3]; exact z2.sF (pz_a (by decide) (by decide))
    refine pk_bvy (fun μ5 ez4 => ?_)
    have z4 : Tz μ μ5 := by rw [ez4]; exact z3.sF (pz_f (by decide))
    exact pk_some z4
theorem w_X12_doOut (μ : Mem) : pk (p_X12_doOut μ) (fun q => Tz μ q) := by
  have z0 : Tz μ μ := Tz.rf
  rw [p_X12_doOut_eq]
  refine pk_bd (w_X12_gone μ) (fun r2 μ1 ez1 => ?_)
  have z1 : Tz μ μ1 := z0.tr ez1
  refine pk_bd (w_X12_num r2 μ1) (fun r4 μ3 ez2 => ?_)
  have z2 : Tz μ μ3 := z1.tr ez2
  refine pk_ite (fun _ => ?_) (fun _ => ?_)
  · refine pk_bw (w_X12_show r4 μ3) (fun μ6 ez3 => ?_)
    have z3 : Tz μ μ6 := z2.tr ez3
    refine pk_bw (w_X12_come r2 μ6) (fun μ8 ez4 => ?_)
    have z4 : Tz μ μ8 := z3.tr ez4
    exact pk_some z4
  · refine pk_bd (w_X12_instruction (7 : Int32) (0 : Int32) μ3) (fun r11 μ10 ez5 => ?_)
    have z5 : Tz μ μ10 := z2.tr ez5
    refine pk_ite (fun _ => ?_) (fun _ => ?_)
    · refine pk_bw (w_X12_operand r11 r4 μ10) (fun μ13 ez6 => ?_)
      have z6 : Tz μ μ13 := z5.tr ez6
      refine pk_bw (w_X12_come r2 μ13) (fun μ15 ez7 => ?_)
      have z7 : Tz μ μ15 := z6.tr ez7
      exact pk_some z7
    · exact pk_some z5
theorem w_X12_holdAt (a1 : Int32) (a2 : Int32) (μ : Mem) : pk (p_X12_holdAt a1 a2 μ) (fun q => Tz μ q) := by
  have z0 : Tz μ μ := Tz.rf
  rw [p_X12_holdAt_eq]
  refine pk_ite (fun _ => ?_) (fun _ => ?_)
  · refine pk_gd (fun _ => ?_)
    refine pk_gd (fun _ => ?_)
    refine pk_bw (w_X12_give (1 : Int32) (s_X12_floatOf (μ.1 30 a2.toNatClampNeg) (μ.1 31 a2.toNatClampNeg)) μ) (fun μ2 ez1 => ?_)
    have z1 : Tz μ μ2 := z0.tr ez1
    exact pk_some z1
  · refine pk_gd (fun _ => ?_)
    refine pk_gd (fun _ => ?_)
    refine pk_bsy (fun r4 => ?_)
    refine pk_bw (w_X12_give (0 : Int32) r4 μ) (fun μ5 ez2 => ?_)
    have z2 : Tz μ μ5 := z0.tr ez2
    exact pk_some z2
theorem w_X12_doPut_b54 (a1 : Int32) (a2 : Int32) (a3 : Int32) (μ : Mem) : pk (p_X12_doPut_b54 a1 a2 a3 μ) (fun q => Tz μ q) := by
  have z0 : Tz μ μ := Tz.rf
  rw [p_X12_doPut_b54_eq]
  refine pk_bd (w_X12_isKnown a2 μ) (fun r9 μ8 ez1 => ?_)
  have z1 : Tz μ μ8 := z0.tr ez1
  refine pk_ite (fun _ => ?_) (fun _ => ?_)
  · refine pk_bd (w_X12_registerOf a3 μ8) (fun r24 μ23 ez2 => ?_)
    have z2 : Tz μ μ23 := z1.tr ez2
    refine pk_bw (w_X12_come r24 μ23) (fun μ25 ez3 => ?_)
    have z3 : Tz μ μ25 := z2.tr ez3
    exact pk_some z3
  · refine pk_bw (w_X12_holdAt a1 a2 μ8) (fun μ11 ez4 => ?_)
    have z4 : Tz μ μ11 := z1.tr ez4
    refine pk_ite (fun _ => ?_) (fun _ => ?_)
    · refine pk_gd (fun _ => ?_)
      refine pk_bvy (fun μ18 ez5 => ?_)
      have z5 : Tz μ μ18 := by rw [ez5]; exact z4.sF (pz_a (by decide) (by decide))
      refine pk_bd (w_X12_given μ18) (fun r20 μ19 ez6 => ?_)
      have z6 : Tz μ μ19 := z5.tr ez6
      refine pk_bw (w_X12_come r20 μ19) (fun μ21 ez7 => ?_)
      have z7 : Tz μ μ21 := z6.tr ez7
      exact pk_some z7
    · refine pk_bd (w_X12_given μ11) (fun r15 μ14 ez8 => ?_)
      have z8 : Tz μ μ14 := z4.tr ez8
      refine pk_bw (w_X12_come r15 μ14) (fun μ16 ez9 => ?_)
      have z9 : Tz μ μ16 := z8.tr ez9
      exact pk_some z9
theorem w_X12_doPut_b27 (a1 : Int32) (a2 : Int32) (k0 : Int32) (μ : Mem) : pk (p_X12_doPut_b27 a1 a2 k0 μ) (fun q => Tz μ q) := by
  have z0 : Tz μ μ := Tz.rf
  rw [p_X12_doPut_b27_eq]
  refine pk_ite (fun _ => ?_) (fun _ => ?_)
  · refine pk_ite (fun _ => ?_) (fun _ => ?_)
    · exact pk_mono (w_X12_doPut_b54 a1 a2 k0 μ) (fun _ hq => z0.tr hq)
    · refine pk_gd (fun _ => ?_)
      refine pk_bvy (fun μ27 ez1 => ?_)
      have z1 : Tz μ μ27 := by rw [ez1]; exact z0.sF (pz_a (by decide) (by decide))
      refine pk_bw (w_X12_operand k0 a2 μ27) (fun μ28 ez2 => ?_)
      have z2 : Tz μ μ28 := z1.tr ez2
      exact pk_mono (w_X12_doPut_b54 a1 a2 k0 μ28) (fun _ hq => z2.tr hq)
  · exact pk_some z0
theorem w_X12_doPut (a1 : Int32) (μ : Mem) : pk (p_X12_doPut a1 μ) (fun q => Tz μ q) := by
  have z0 : Tz μ μ := Tz.rf
  rw [p_X12_doPut_eq]
  refine pk_bd (w_X12_gone μ) (fun r2 μ1 ez1 => ?_)
  have z1 : Tz μ μ1 := z0.tr ez1
  refine pk_bd (w_X12_num r2 μ1) (fun r4 μ3 ez2 => ?_)
  have z2 : Tz μ μ3 := z1.tr ez2
  refine pk_ite (fun _ => ?_) (fun _ => ?_)
  · exact pk_mono (w_X12_doPut_b27 a1 r4 (-1 : Int32) μ3) (fun _ hq => z2.tr hq)
  · refine pk_bd (w_X12_instruction (8 : Int32) (1 : Int32) μ3) (fun r31 μ30 ez3 => ?_)
    have z3 : Tz μ μ30 := z2.tr ez3
    exact pk_mono (w_X12_doPut_b27 a1 r4 r31 μ30) (fun _ hq => z3.tr hq)
theorem w_X12_doGet (a1 : Int32) (μ : Mem) : pk (p_X12_doGet a1 μ) (fun q => Tz μ q) := by
  have z0 : Tz μ μ := Tz.rf
  rw [p_X12_doGet_eq]
  refine pk_ite (fun _ => ?_) (fun _ => ?_)
  · refine pk_ite (fun _ => ?_) (fun _ => ?_)
    · refine pk_gd (fun _ => ?_)
      refine pk_bd (w_X12_node (1 : Int32) (μ.1 42 a1.toNatClampNeg) μ) (fun r12 μ11 ez1 => ?_)
      have z1 : Tz μ μ11 := z0.tr ez1
      refine pk_bw (w_X12_come r12 μ11) (fun μ13 ez2 => ?_)
      have z2 : Tz μ μ13 := z1.tr ez2
      exact pk_some z2
    · refine pk_gd (fun _ => ?_)
      refine pk_bd (w_X12_node (0 : Int32) (μ.1 42 a1.toNatClampNeg) μ) (fun r16 μ15 ez3 => ?_)
      have z3 : Tz μ μ15 := z0.tr ez3
      refine pk_bw (w_X12_come r16 μ15) (fun μ17 ez4 => ?_)
      have z4 : Tz μ μ17 := z3.tr ez4
      exact pk_some z4
  · refine pk_bd (w_X12_instruction (9 : Int32) (1 : Int32) μ) (fun r3 μ2 ez5 => ?_)
    have z5 : Tz μ μ2 := z0.tr ez5
    refine pk_ite (fun _ => ?_) (fun _ => ?_)
    · refine pk_gd (fun _ => ?_)
      refine pk_bvy (fun μ5 ez6 => ?_)
      have z6 : Tz μ μ5 := by rw [ez6]; exact z5.sF (pz_a (by decide) (by decide))
      refine pk_bd (w_X12_registerOf r3 μ5) (fun r7 μ6 ez7 => ?_)
      have z7 : Tz μ μ6 := z6.tr ez7
      refine pk_bw (w_X12_come r7 μ6) (fun μ8 ez8 => ?_)
      have z8 : Tz μ μ8 := z7.tr ez8
      exact pk_some z8
    · exact pk_some z5
theorem w_X12_enter_b13 : ∀ (n : Nat) (a1 : Int32) (a2 : Int32) (μ : Mem), pk (p_X12_enter_b13  n a1 a2 μ) (fun q => Tz μ q) := by
  intro n
  induction n with
  | zero => intro a1 a2 μ r e; rw [p_X12_enter_b13_z] at e; cases e
  | succ n ih =>
    intro a1 a2 μ
    have z0 : Tz μ μ := Tz.rf
    rw [p_X12_enter_b13_s]
    refine pk_gd (fun _ => ?_)
    refine pk_ite (fun _ => ?_) (fun _ => ?_)
    · refine pk_bw (w_X12_push (5 : Int32) (0 : Int32) (0 : Int32) μ) (fun μ3 ez1 => ?_)
      have z1 : Tz μ μ3 := z0.tr ez1
      refine pk_gd (fun _ => ?_)
      refine pk_bw (w_X12_push (0 : Int32) (μ3.1 5 a1.toNatClampNeg) (0 : Int32) μ3) (fun μ5 ez2 => ?_)
      have z2 : Tz μ μ5 := z1.tr ez2
      exact pk_some z2
    · refine pk_gd (fun _ => ?_)
      refine pk_gd (fun _ => ?_)
      refine pk_gd (fun _ => ?_)
      refine pk_bvy (fun μ7 ez3 => ?_)
      have z3 : Tz μ μ7 := by rw [ez3]; exact z0.sF (pz_a (by decide) (by decide))
      refine pk_bvy (fun v8 _ => ?_)
      exact pk_mono (ih a1 v8 μ7) (fun _ hq => z3.tr hq)
theorem w_X12_enter (a1 : Int32) (μ : Mem) : pk (p_X12_enter a1 μ) (fun q => Tz μ q) := by
  have z0 : Tz μ μ := Tz.rf
  rw [p_X12_enter_eq]
  refine pk_bvy (fun μ1 ez1 => ?_)
  have z1 : Tz μ μ1 := by rw [ez1]; exact z0.sF (pz_f (by decide))
  exact pk_mono (w_X12_enter_b13 FUEL a1 (0 : Int32) μ1) (fun _ hq => z1.tr hq)
theorem w_X12_layMade_b95 (K36 : Int32 → Mem → Option Mem) (hK36 : ∀ (y0 : Int32) (y1 : Mem), pk (K36 y0 y1) (fun q => Tz y1 q)) (a2 : Int32) (a3 : Int32) (k0 : Int32) (k1 : Int32) (μ : Mem) : pk (p_X12_layMade_b95 K36 a2 a3 k0 k1 μ) (fun q => Tz μ q) := by
  have z0 : Tz μ μ := Tz.rf
  rw [p_X12_layMade_b95_eq]
  refine pk_gd (fun _ => ?_)
  refine pk_bvy (fun μ9 ez1 => ?_)
  have z1 : Tz μ μ9 := by rw [ez1]; exact z0.sF (pz_a (by decide) (by decide))
  refine pk_gd (fun _ => ?_)
  refine pk_bvy (fun μ10 ez2 => ?_)
  have z2 : Tz μ μ10 := by rw [ez2]; exact z1.sF (pz_a (by decide) (by decide))
  refine pk_bvy (fun μ11 ez3 => ?_)
  have z3 : Tz μ μ11 := by rw [ez3]; exact z2.sF (pz_f (by decide))
  refine pk_gd (fun _ => ?_)
  refine pk_ite (fun _ => ?_) (fun _ => ?_)
  · refine pk_gd (fun _ => ?_)
    refine pk_gd (fun _ => ?_)
    refine pk_bvy (fun μ13 ez4 => ?_)
    have z4 : Tz μ μ13 := by rw [ez4]; exact z3.sF (pz_a (by decide) (by decide))
    refine pk_gd (fun _ => ?_)
    refine pk_gd (fun _ => ?_)
    refine pk_bvy (fun μ14 ez5 => ?_)
    have z5 : Tz μ μ14 := by rw [ez5]; exact z4.sF (pz_a (by decide) (by decide))
    refine pk_bvy (fun v15 _ => ?_)
    exact pk_mono (hK36 v15 μ14) (fun _ hq => z5.tr hq)
  · exact pk_mono (hK36 a2 μ11) (fun _ hq => z3.tr hq)
theorem w_X12_layMade_b36 : ∀ (n : Nat) (a2 : Int32) (μ : Mem), pk (p_X12_layMade_b36  n a2 μ) (fun q => Tz μ q) := by
  intro n
  induction n with
  | zero => intro a2 μ r e; rw [p_X12_layMade_b36_z] at e; cases e
  | succ n ih =>
    intro a2 μ
    have z0 : Tz μ μ := Tz.rf
    rw [p_X12_layMade_b36_s]
    refine pk_ite (fun _ => ?_) (fun _ => ?_)
    · exact pk_some z0
    · refine pk_bvy (fun v5 _ => ?_)
      refine pk_gd (fun _ => ?_)
      refine pk_bvy (fun v6 _ => ?_)
      refine pk_gd (fun _ => ?_)
      refine pk_gd (fun _ => ?_)
      refine pk_bvy (fun μ7 ez1 => ?_)
      have z1 : Tz μ μ7 := by rw [ez1]; exact z0.sF (pz_a (by decide) (by decide))
      refine pk_gd (fun _ => ?_)
      refine pk_ite (fun _ => ?_) (fun _ => ?_)
      · exact pk_mono (w_X12_layMade_b95 (p_X12_layMade_b36  n) ih v5 v6 (0 : Int32) (μ7.1 0 118) μ7) (fun _ hq => z1.tr hq)
      · refine pk_gd (fun _ => ?_)
        exact pk_mono (w_X12_layMade_b95 (p_X12_layMade_b36  n) ih v5 v6 (μ7.1 31 v6.toNatClampNeg) (μ7.1 0 118) μ7) (fun _ hq => z1.tr hq)
theorem w_X12_layMade_b11 : ∀ (n : Nat) (a2 : Int32) (a3 : Int32) (μ : Mem), pk (p_X12_layMade_b11  n a2 a3 μ) (fun q => Tz μ q) := by
  intro n
  induction n with
  | zero => intro a2 a3 μ r e; rw [p_X12_layMade_b11_z] at e; cases e
  | succ n ih =>
    intro a2 a3 μ
    have z0 : Tz μ μ := Tz.rf
    rw [p_X12_layMade_b11_s]
    refine pk_ite (fun _ => ?_) (fun _ => ?_)
    · exact pk_mono (w_X12_layMade_b36 FUEL a2 μ) (fun _ hq => z0.tr hq)
    · refine pk_gd (fun _ => ?_)
      refine pk_gd (fun _ => ?_)
      refine pk_bvy (fun μ16 ez1 => ?_)
      have z1 : Tz μ μ16 := by rw [ez1]; exact z0.sF (pz_a (by decide) (by decide))
      refine pk_bvy (fun v17 _ => ?_)
      refine pk_bvy (fun v18 _ => ?_)
      exact pk_mono (ih v17 v18 μ16) (fun _ hq => z1.tr hq)
theorem w_X12_layMade (a1 : Int32) (μ : Mem) : pk (p_X12_layMade a1 μ) (fun q => Tz μ q) := by
  have z0 : Tz μ μ := Tz.rf
  rw [p_X12_layMade_eq]
  refine pk_bvy (fun μ1 ez1 => ?_)
  have z1 : Tz μ μ1 := by rw [ez1]; exact z0.sF (pz_f (by decide))
  refine pk_bvy (fun v2 _ => ?_)
  exact pk_mono (w_X12_layMade_b11 FUEL (0 : Int32) v2 μ1) (fun _ hq => z1.tr hq)
theorem w_X12_behindPart_b21 (K4 : Nat → Int32 → Int32 → Mem → Option (Int32 × Mem)) (hK4 : ∀ (y0 : Nat) (y1 : Int32) (y2 : Int32) (y3 : Mem), pk (K4 y0 y1 y2 y3) (fun q => Tz y3 q.2)) (a0 : Nat) (a3 : Int32) (k0 : Int32) (k1 : Int32) (μ : Mem) : pk (p_X12_behindPart_b21 K4 a0 a3 k0 k1 μ) (fun q => Tz μ q.2) := by
  have z0 : Tz μ μ := Tz.rf
  rw [p_X12_behindPart_b21_eq]
  refine pk_bvy (fun v3 _ => ?_)
  refine pk_bvy (fun v4 _ => ?_)
  exact pk_mono (hK4 a0 v3 v4 μ) (fun _ hq => z0.tr hq)
theorem w_X12_behindPart_b4 : ∀ (n : Nat) (a0 : Nat) (a2 : Int32) (a3 : Int32) (μ : Mem), pk (p_X12_behindPart_b4  n a0 a2 a3 μ) (fun q => Tz μ q.2) := by
  intro n
  induction n with
  | zero => intro a0 a2 a3 μ r e; rw [p_X12_behindPart_b4_z] at e; cases e
  | succ n ih =>
    intro a0 a2 a3 μ
    have z0 : Tz μ μ := Tz.rf
    rw [p_X12_behindPart_b4_s]
    refine pk_ite (fun _ => ?_) (fun _ => ?_)
    · exact pk_some z0
    · refine pk_gd (fun _ => ?_)
      refine pk_ite (fun _ => ?_) (fun _ => ?_)
      · exact pk_mono (w_X12_behindPart_b21 (p_X12_behindPart_b4  n) ih a0 a3 (1 : Int32) a2 μ) (fun _ hq => z0.tr hq)
      · exact pk_mono (w_X12_behindPart_b21 (p_X12_behindPart_b4  n) ih a0 a3 (-1 : Int32) a2 μ) (fun _ hq => z0.tr hq)
theorem w_X12_behindPart (a0 : Nat) (a1 : Int32) (μ : Mem) : pk (p_X12_behindPart a0 a1 μ) (fun q => Tz μ q.2) := by
  have z0 : Tz μ μ := Tz.rf
  rw [p_X12_behindPart_eq]
  exact pk_mono (w_X12_behindPart_b4 FUEL a0 (1 : Int32) a1 μ) (fun _ hq => z0.tr hq)
theorem w_X12_growBy_b264 (K11 : Int32 → Int32 → Int32 → Mem → Option Mem) (hK11 : ∀ (y0 : Int32) (y1 : Int32) (y2 : Int32) (y3 : Mem), pk (K11 y0 y1 y2 y3) (fun q => Tz y3 q)) (a3 : Int32) (a4 : Int32) (a8 : Int32) (μ : Mem) : pk (p_X12_growBy_b264 K11 a3 a4 a8 μ) (fun q => Tz μ q) := by
  have z0 : Tz μ μ := Tz.rf
  rw [p_X12_growBy_b264_eq]
  refine pk_bd (w_X12_behindPart 60 a3 μ) (fun r27 μ26 ez1 => ?_)
  have z1 : Tz μ μ26 := z0.tr ez1
  exact pk_mono (hK11 a8 r27 a4 μ26) (fun _ hq => z1.tr hq)
theorem w_X12_growBy_b201 (K11 : Int32 → Int32 → Int32 → Mem → Option Mem) (hK11 : ∀ (y0 : Int32) (y1 : Int32) (y2 : Int32) (y3 : Mem), pk (K11 y0 y1 y2 y3) (fun q => Tz y3 q)) : ∀ (n : Nat) (a3 : Int32) (a4 : Int32) (a7 : Int32) (a8 : Int32) (a9 : Int32) (μ : Mem), pk (p_X12_growBy_b201 K11 n a3 a4 a7 a8 a9 μ) (fun q => Tz μ q) := by
  intro n
  induction n with
  | zero => intro a3 a4 a7 a8 a9 μ r e; rw [p_X12_growBy_b201_z] at e; cases e
  | succ n ih =>
    intro a3 a4 a7 a8 a9 μ
    have z0 : Tz μ μ := Tz.rf
    rw [p_X12_growBy_b201_s]
    refine pk_ite (fun _ => ?_) (fun _ => ?_)
    · exact pk_mono (w_X12_growBy_b264 K11 hK11 a3 a4 a8 μ) (fun _ hq => z0.tr hq)
    · refine pk_ite (fun _ => ?_) (fun _ => ?_)
      · refine pk_gd (fun _ => ?_)
        refine pk_gd (fun _ => ?_)
        refine pk_bvy (fun μ29 ez1 => ?_)
        have z1 : Tz μ μ29 := by rw [ez1]; exact z0.sF (pz_a (by decide) (by decide))
        refine pk_gd (fun _ => ?_)
        refine pk_gd (fun _ => ?_)
        refine pk_bvy (fun μ30 ez2 => ?_)
        have z2 : Tz μ μ30 := by rw [ez2]; exact z1.sF (pz_a (by decide) (by decide))
        refine pk_gd (fun _ => ?_)
        refine pk_gd (fun _ => ?_)
        refine pk_bvy (fun μ31 ez3 => ?_)
        have z3 : Tz μ μ31 := by rw [ez3]; exact z2.sF (pz_a (by decide) (by decide))
        refine pk_bvy (fun v32 _ => ?_)
        refine pk_bvy (fun v33 _ => ?_)
        exact pk_mono (ih a3 v32 a7 a8 v33 μ31) (fun _ hq => z3.tr hq)
      · exact pk_mono (w_X12_growBy_b264 K11 hK11 a3 a4 a8 μ) (fun _ hq => z0.tr hq)
theorem w_X12_growBy_b186 (K11 : Int32 → Int32 → Int32 → Mem → Option Mem) (hK11 : ∀ (y0 : Int32) (y1 : Int32) (y2 : Int32) (y3 : Mem), pk (K11 y0 y1 y2 y3) (fun q => Tz y3 q)) (a2 : Int32) (a3 : Int32) (a4 : Int32) (a7 : Int32) (μ : Mem) : pk (p_X12_growBy_b186 K11 a2 a3 a4 a7 μ) (fun q => Tz μ q) := by
  have z0 : Tz μ μ := Tz.rf
  rw [p_X12_growBy_b186_eq]
  refine pk_bd (w_X12_behindPart 67 a2 μ) (fun r23 μ22 ez1 => ?_)
  have z1 : Tz μ μ22 := z0.tr ez1
  refine pk_bvy (fun v24 _ => ?_)
  exact pk_mono (w_X12_growBy_b201 K11 hK11 FUEL a3 a4 a7 r23 v24 μ22) (fun _ hq => z1.tr hq)
theorem w_X12_growBy_b165 (K11 : Int32 → Int32 → Int32 → Mem → Option Mem) (hK11 : ∀ (y0 : Int32) (y1 : Int32) (y2 : Int32) (y3 : Mem), pk (K11 y0 y1 y2 y3) (fun q => Tz y3 q)) (a2 : Int32) (a3 : Int32) (a4 : Int32) (a5 : Int32) (a6 : Int32) (a7 : Int32) (μ : Mem) : pk (p_X12_growBy_b165 K11 a2 a3 a4 a5 a6 a7 μ) (fun q => Tz μ q) := by
  have z0 : Tz μ μ := Tz.rf
  rw [p_X12_growBy_b165_eq]
  refine pk_ite (fun _ => ?_) (fun _ => ?_)
  · refine pk_ite (fun _ => ?_) (fun _ => ?_)
    · refine pk_bvy (fun v35 _ => ?_)
      refine pk_bvy (fun v36 _ => ?_)
      exact pk_mono (hK11 v35 v36 a4 μ) (fun _ hq => z0.tr hq)
    · exact pk_mono (w_X12_growBy_b186 K11 hK11 a2 a3 a4 a7 μ) (fun _ hq => z0.tr hq)
  · exact pk_mono (w_X12_growBy_b186 K11 hK11 a2 a3 a4 a7 μ) (fun _ hq => z0.tr hq)
theorem w_X12_growBy_b133 (K11 : Int32 → Int32 → Int32 → Mem → Option Mem) (hK11 : ∀ (y0 : Int32) (y1 : Int32) (y2 : Int32) (y3 : Mem), pk (K11 y0 y1 y2 y3) (fun q => Tz y3 q)) (a2 : Int32) (a3 : Int32) (a4 : Int32) (a5 : Int32) (a6 : Int32) (a7 : Int32) (k0 : Int32) (k1 : Int32) (μ : Mem) : pk (p_X12_growBy_b133 K11 a2 a3 a4 a5 a6 a7 k0 k1 μ) (fun q => Tz μ q) := by
  have z0 : Tz μ μ := Tz.rf
  rw [p_X12_growBy_b133_eq]
  refine pk_gd (fun _ => ?_)
  refine pk_bvy (fun μ17 ez1 => ?_)
  have z1 : Tz μ μ17 := by rw [ez1]; exact z0.sF (pz_a (by decide) (by decide))
  refine pk_gd (fun _ => ?_)
  refine pk_gd (fun _ => ?_)
  refine pk_bvy (fun μ18 ez2 => ?_)
  have z2 : Tz μ μ18 := by rw [ez2]; exact z1.sF (pz_a (by decide) (by decide))
  refine pk_bvy (fun v19 _ => ?_)
  refine pk_ite (fun _ => ?_) (fun _ => ?_)
  · exact pk_mono (w_X12_growBy_b165 K11 hK11 a2 a3 v19 a5 a6 a7 μ18) (fun _ hq => z2.tr hq)
  · refine pk_bvy (fun μ37 ez3 => ?_)
    have z3 : Tz μ μ37 := by rw [ez3]; exact z2.sF (pz_f (by decide))
    exact pk_mono (w_X12_growBy_b165 K11 hK11 a2 a3 v19 a5 a6 a7 μ37) (fun _ hq => z3.tr hq)
theorem w_X12_growBy_b111 (K11 : Int32 → Int32 → Int32 → Mem → Option Mem) (hK11 : ∀ (y0 : Int32) (y1 : Int32) (y2 : Int32) (y3 : Mem), pk (K11 y0 y1 y2 y3) (fun q => Tz y3 q)) (a2 : Int32) (a3 : Int32) (a4 : Int32) (a5 : Int32) (a6 : Int32) (a7 : Int32) (k0 : Int32) (k1 : Int32) (μ : Mem) : pk (p_X12_growBy_b111 K11 a2 a3 a4 a5 a6 a7 k0 k1 μ) (fun q => Tz μ q) := by
  have z0 : Tz μ μ := Tz.rf
  rw [p_X12_growBy_b111_eq]
  refine pk_gd (fun _ => ?_)
  refine pk_bvy (fun μ15 ez1 => ?_)
  have z1 : Tz μ μ15 := by rw [ez1]; exact z0.sF (pz_a (by decide) (by decide))
  refine pk_ite (fun _ => ?_) (fun _ => ?_)
  · refine pk_gd (fun _ => ?_)
    exact pk_mono (w_X12_growBy_b133 K11 hK11 a2 a3 a4 a5 a6 a7 (μ15.1 68 a2.toNatClampNeg) a4 μ15) (fun _ hq => z1.tr hq)
  · exact pk_mono (w_X12_growBy_b133 K11 hK11 a2 a3 a4 a5 a6 a7 (0 : Int32) a4 μ15) (fun _ hq => z1.tr hq)
theorem w_X12_growBy_b92 (K11 : Int32 → Int32 → Int32 → Mem → Option Mem) (hK11 : ∀ (y0 : Int32) (y1 : Int32) (y2 : Int32) (y3 : Mem), pk (K11 y0 y1 y2 y3) (fun q => Tz y3 q)) (a2 : Int32) (a3 : Int32) (a4 : Int32) (a5 : Int32) (a6 : Int32) (k0 : Int32) (μ : Mem) : pk (p_X12_growBy_b92 K11 a2 a3 a4 a5 a6 k0 μ) (fun q => Tz μ q) := by
  have z0 : Tz μ μ := Tz.rf
  rw [p_X12_growBy_b92_eq]
  refine pk_ite (fun _ => ?_) (fun _ => ?_)
  · exact pk_mono (w_X12_growBy_b111 K11 hK11 a2 a3 a4 a5 a6 k0 a5 a4 μ) (fun _ hq => z0.tr hq)
  · exact pk_mono (w_X12_growBy_b111 K11 hK11 a2 a3 a4 a5 a6 k0 (3 : Int32) a4 μ) (fun _ hq => z0.tr hq)
theorem w_X12_growBy_b91 (K11 : Int32 → Int32 → Int32 → Mem → Option Mem) (hK11 : ∀ (y0 : Int32) (y1 : Int32) (y2 : Int32) (y3 : Mem), pk (K11 y0 y1 y2 y3) (fun q => Tz y3 q)) (a2 : Int32) (a3 : Int32) (a4 : Int32) (a5 : Int32) (a6 : Int32) (μ : Mem) : pk (p_X12_growBy_b91 K11 a2 a3 a4 a5 a6 μ) (fun q => Tz μ q) := by
  have z0 : Tz μ μ := Tz.rf
  rw [p_X12_growBy_b91_eq]
  exact pk_mono (w_X12_growBy_b92 K11 hK11 a2 a3 a4 a5 a6 (0 : Int32) μ) (fun _ hq => z0.tr hq)
theorem w_X12_growBy_b87 (K11 : Int32 → Int32 → Int32 → Mem → Option Mem) (hK11 : ∀ (y0 : Int32) (y1 : Int32) (y2 : Int32) (y3 : Mem), pk (K11 y0 y1 y2 y3) (fun q => Tz y3 q)) (a2 : Int32) (a3 : Int32) (a4 : Int32) (a5 : Int32) (a6 : Int32) (μ : Mem) : pk (p_X12_growBy_b87 K11 a2 a3 a4 a5 a6 μ) (fun q => Tz μ q) := by
  have z0 : Tz μ μ := Tz.rf
  rw [p_X12_growBy_b87_eq]
  exact pk_mono (w_X12_growBy_b92 K11 hK11 a2 a3 a4 a5 a6 (1 : Int32) μ) (fun _ hq => z0.tr hq)
theorem w_X12_growBy_b73 (K11 : Int32 → Int32 → Int32 → Mem → Option Mem) (hK11 : ∀ (y0 : Int32) (y1 : Int32) (y2 : Int32) (y3 : Mem), pk (K11 y0 y1 y2 y3) (fun q => Tz y3 q)) (a2 : Int32) (a3 : Int32) (a4 : Int32) (a5 : Int32) (a6 : Int32) (μ : Mem) : pk (p_X12_growBy_b73 K11 a2 a3 a4 a5 a6 μ) (fun q => Tz μ q) := by
  have z0 : Tz μ μ := Tz.rf
  rw [p_X12_growBy_b73_eq]
  refine pk_ite (fun _ => ?_) (fun _ => ?_)
  · refine pk_ite (fun _ => ?_) (fun _ => ?_)
    · exact pk_mono (w_X12_growBy_b91 K11 hK11 a2 a3 a4 a5 a6 μ) (fun _ hq => z0.tr hq)
    · exact pk_mono (w_X12_growBy_b87 K11 hK11 a2 a3 a4 a5 a6 μ) (fun _ hq => z0.tr hq)
  · exact pk_mono (w_X12_growBy_b91 K11 hK11 a2 a3 a4 a5 a6 μ) (fun _ hq => z0.tr hq)
theorem w_X12_growBy_b11 : ∀ (n : Nat) (a2 : Int32) (a3 : Int32) (a4 : Int32) (μ : Mem), pk (p_X12_growBy_b11  n a2 a3 a4 μ) (fun q => Tz μ q) := by
  intro n
  induction n with
  | zero => intro a2 a3 a4 μ r e; rw [p_X12_growBy_b11_z] at e; cases e
  | succ n ih =>
    intro a2 a3 a4 μ
    have z0 : Tz μ μ := Tz.rf
    rw [p_X12_growBy_b11_s]
    refine pk_ite (fun _ => ?_) (fun _ => ?_)
    · refine pk_bvy (fun μ3 ez1 => ?_)
      have z1 : Tz μ μ3 := by rw [ez1]; exact z0.sF (pz_f (by decide))
      refine pk_bw (w_X12_copy 70 (0 : Int32) a4 67 (0 : Int32) μ3 ⟨by decide, by decide⟩) (fun μ4 ez2 => ?_)
      have z2 : Tz μ μ4 := z1.tr ez2
      refine pk_bw (w_X12_copy 71 (0 : Int32) a4 68 (0 : Int32) μ4 ⟨by decide, by decide⟩) (fun μ6 ez3 => ?_)
      have z3 : Tz μ μ6 := z2.tr ez3
      refine pk_bw (w_X12_copy 72 (0 : Int32) a4 69 (0 : Int32) μ6 ⟨by decide, by decide⟩) (fun μ8 ez4 => ?_)
      have z4 : Tz μ μ8 := z3.tr ez4
      exact pk_some z4
    · refine pk_gd (fun _ => ?_)
      refine pk_bvy (fun v10 _ => ?_)
      refine pk_gd (fun _ => ?_)
      refine pk_bvy (fun v11 _ => ?_)
      refine pk_ite (fun _ => ?_) (fun _ => ?_)
      · exact pk_mono (w_X12_growBy_b73 (p_X12_growBy_b11  n) ih a2 a3 a4 v10 v11 μ) (fun _ hq => z0.tr hq)
      · refine pk_ite (fun _ => ?_) (fun _ => ?_)
        · exact pk_mono (w_X12_growBy_b73 (p_X12_growBy_b11  n) ih a2 a3 a4 v10 v11 μ) (fun _ hq => z0.tr hq)
        · refine pk_gd (fun _ => ?_)
          refine pk_gd (fun _ => ?_)
          refine pk_bsy (fun r40 => ?_)
          refine pk_ite (fun _ => ?_) (fun _ => ?_)
          · exact pk_mono (w_X12_growBy_b73 (p_X12_growBy_b11  n) ih a2 a3 a4 v10 v11 μ) (fun _ hq => z0.tr hq)
          · exact pk_mono (w_X12_growBy_b87 (p_X12_growBy_b11  n) ih a2 a3 a4 v10 v11 μ) (fun _ hq => z0.tr hq)
theorem w_X12_growBy (a1 : Int32) (μ : Mem) : pk (p_X12_growBy a1 μ) (fun q => Tz μ q) := by
  have z0 : Tz μ μ := Tz.rf
  rw [p_X12_growBy_eq]
  refine pk_bvy (fun v1 _ => ?_)
  exact pk_mono (w_X12_growBy_b11 FUEL (0 : Int32) v1 (0 : Int32) μ) (fun _ hq => z0.tr hq)
theorem w_X12_isPattern_b27 : ∀ (n : Nat) (a1 : Int32) (a3 : Int32) (μ : Mem), pk (p_X12_isPattern_b27  n a1 a3 μ) (fun q => Tz μ q.2) := by
  intro n
  induction n with
  | zero => intro a1 a3 μ r e; rw [p_X12_isPattern_b27_z] at e; cases e
  | succ n ih =>
    intro a1 a3 μ
    have z0 : Tz μ μ := Tz.rf
    rw [p_X12_isPattern_b27_s]
    refine pk_ite (fun _ => ?_) (fun _ => ?_)
    · exact pk_some z0
    · refine pk_gd (fun _ => ?_)
      refine pk_gd (fun _ => ?_)
      refine pk_ite (fun _ => ?_) (fun _ => ?_)
      · refine pk_gd (fun _ => ?_)
        refine pk_gd (fun _ => ?_)
        refine pk_ite (fun _ => ?_) (fun _ => ?_)
        · refine pk_bvy (fun v6 _ => ?_)
          exact pk_mono (ih a1 v6 μ) (fun _ hq => z0.tr hq)
        · exact pk_some z0
      · exact pk_some z0
theorem w_X12_isPattern (a1 : Int32) (a2 : Int32) (μ : Mem) : pk (p_X12_isPattern a1 a2 μ) (fun q => Tz μ q.2) := by
  have z0 : Tz μ μ := Tz.rf
  rw [p_X12_isPattern_eq]
  refine pk_gd (fun _ => ?_)
  refine pk_ite (fun _ => ?_) (fun _ => ?_)
  · refine pk_gd (fun _ => ?_)
    refine pk_ite (fun _ => ?_) (fun _ => ?_)
    · exact pk_mono (w_X12_isPattern_b27 FUEL a1 (0 : Int32) μ) (fun _ hq => z0.tr hq)
    · exact pk_some z0
  · exact pk_some z0
theorem w_X12_variantBy_b2 : ∀ (n : Nat) (a1 : Int32) (a2 : Int32) (μ : Mem), pk (p_X12_variantBy_b2  n a1 a2 μ) (fun q => Tz μ q.2) := by
  intro n
  induction n with
  | zero => intro a1 a2 μ r e; rw [p_X12_variantBy_b2_z] at e; cases e
  | succ n ih =>
    intro a1 a2 μ
    have z0 : Tz μ μ := Tz.rf
    rw [p_X12_variantBy_b2_s]
    refine pk_ite (fun _ => ?_) (fun _ => ?_)
    · exact pk_some z0
    · refine pk_bd (w_X12_isPattern a2 a1 μ) (fun r3 μ2 ez1 => ?_)
      have z1 : Tz μ μ2 := z0.tr ez1
      refine pk_ite (fun _ => ?_) (fun _ => ?_)
      · refine pk_bvy (fun v5 _ => ?_)
        exact pk_mono (ih a1 v5 μ2) (fun _ hq => z1.tr hq)
      · exact pk_some z1
theorem w_X12_variantBy (a1 : Int32) (μ : Mem) : pk (p_X12_variantBy a1 μ) (fun q => Tz μ q.2) := by
  have z0 : Tz μ μ := Tz.rf
  rw [p_X12_variantBy_eq]
  exact pk_mono (w_X12_variantBy_b2 FUEL a1 (0 : Int32) μ) (fun _ hq => z0.tr hq)
theorem w_X12_variantsOf_b28 (K4 : Int32 → Int32 → Int32 → Mem → Option (Int32 × Mem)) (hK4 : ∀ (y0 : Int32) (y1 : Int32) (y2 : Int32) (y3 : Mem), pk (K4 y0 y1 y2 y3) (fun q => Tz y3 q.2)) (a1 : Int32) (a3 : Int32) (k0 : Int32) (k1 : Int32) (μ : Mem) : pk (p_X12_variantsOf_b28 K4 a1 a3 k0 k1 μ) (fun q => Tz μ q.2) := by
  have z0 : Tz μ μ := Tz.rf
  rw [p_X12_variantsOf_b28_eq]
  refine pk_bvy (fun v3 _ => ?_)
  refine pk_bvy (fun v4 _ => ?_)
  exact pk_mono (hK4 a1 v3 v4 μ) (fun _ hq => z0.tr hq)
theorem w_X12_variantsOf_b4 : ∀ (n : Nat) (a1 : Int32) (a2 : Int32) (a3 : Int32) (μ : Mem), pk (p_X12_variantsOf_b4  n a1 a2 a3 μ) (fun q => Tz μ q.2) := by
  intro n
  induction n with
  | zero => intro a1 a2 a3 μ r e; rw [p_X12_variantsOf_b4_z] at e; cases e
  | succ n ih =>
    intro a1 a2 a3 μ
    have z0 : Tz μ μ := Tz.rf
    rw [p_X12_variantsOf_b4_s]
    refine pk_ite (fun _ => ?_) (fun _ => ?_)
    · exact pk_some z0
    · refine pk_gd (fun _ => ?_)
      refine pk_ite (fun _ => ?_) (fun _ => ?_)
      · exact pk_mono (w_X12_variantsOf_b28 (p_X12_variantsOf_b4  n) ih a1 a3 (1 : Int32) a2 μ) (fun _ hq => z0.tr hq)
      · exact pk_mono (w_X12_variantsOf_b28 (p_X12_variantsOf_b4  n) ih a1 a3 (0 : Int32) a2 μ) (fun _ hq => z0.tr hq)
theorem w_X12_variantsOf (a1 : Int32) (μ : Mem) : pk (p_X12_variantsOf a1 μ) (fun q => Tz μ q.2) := by
  have z0 : Tz μ μ := Tz.rf
  rw [p_X12_variantsOf_eq]
  exact pk_mono (w_X12_variantsOf_b4 FUEL a1 (0 : Int32) (0 : Int32) μ) (fun _ hq => z0.tr hq)
theorem w_X12_starsMade_b28 (K4 : Int32 → Int32 → Mem → Option (Int32 × Mem)) (hK4 : ∀ (y0 : Int32) (y1 : Int32) (y2 : Mem), pk (K4 y0 y1 y2) (fun q => Tz y2 q.2)) (a2 : Int32) (k0 : Int32) (k1 : Int32) (μ : Mem) : pk (p_X12_starsMade_b28 K4 a2 k0 k1 μ) (fun q => Tz μ q.2) := by
  have z0 : Tz μ μ := Tz.rf
  rw [p_X12_starsMade_b28_eq]
  refine pk_bvy (fun v3 _ => ?_)
  refine pk_bvy (fun v4 _ => ?_)
  exact pk_mono (hK4 v3 v4 μ) (fun _ hq => z0.tr hq)
theorem w_X12_starsMade_b4 : ∀ (n : Nat) (a1 : Int32) (a2 : Int32) (μ : Mem), pk (p_X12_starsMade_b4  n a1 a2 μ) (fun q => Tz μ q.2) := by
  intro n
  induction n with
  | zero => intro a1 a2 μ r e; rw [p_X12_starsMade_b4_z] at e; cases e
  | succ n ih =>
    intro a1 a2 μ
    have z0 : Tz μ μ := Tz.rf
    rw [p_X12_starsMade_b4_s]
    refine pk_ite (fun _ => ?_) (fun _ => ?_)
    · exact pk_some z0
    · refine pk_gd (fun _ => ?_)
      refine pk_ite (fun _ => ?_) (fun _ => ?_)
      · exact pk_mono (w_X12_starsMade_b28 (p_X12_starsMade_b4  n) ih a2 (1 : Int32) a1 μ) (fun _ hq => z0.tr hq)
      · exact pk_mono (w_X12_starsMade_b28 (p_X12_starsMade_b4  n) ih a2 (0 : Int32) a1 μ) (fun _ hq => z0.tr hq)
theorem w_X12_starsMade (μ : Mem) : pk (p_X12_starsMade μ) (fun q => Tz μ q.2) := by
  have z0 : Tz μ μ := Tz.rf
  rw [p_X12_starsMade_eq]
  exact pk_mono (w_X12_starsMade_b4 FUEL (0 : Int32) (0 : Int32) μ) (fun _ hq => z0.tr hq)
theorem w_X12_layStars_b2 : ∀ (n : Nat) (a1 : Int32) (a2 : Int32) (μ : Mem), pk (p_X12_layStars_b2  n a1 a2 μ) (fun q => Tz μ q) := by
  intro n
  induction n with
  | zero => intro a1 a2 μ r e; rw [p_X12_layStars_b2_z] at e; cases e
  | succ n ih =>
    intro a1 a2 μ
    have z0 : Tz μ μ := Tz.rf
    rw [p_X12_layStars_b2_s]
    refine pk_ite (fun _ => ?_) (fun _ => ?_)
    · refine pk_bvy (fun μ2 ez1 => ?_)
      have z1 : Tz μ μ2 := by rw [ez1]; exact z0.sF (pz_f (by decide))
      exact pk_some z1
    · refine pk_gd (fun _ => ?_)
      refine pk_bvy (fun μ3 ez2 => ?_)
      have z2 : Tz μ μ3 := by rw [ez2]; exact z0.sF (pz_a (by decide) (by decide))
      refine pk_gd (fun _ => ?_)
      refine pk_bvy (fun μ4 ez3 => ?_)
      have z3 : Tz μ μ4 := by rw [ez3]; exact z2.sF (pz_a (by decide) (by decide))
      refine pk_gd (fun _ => ?_)
      refine pk_gd (fun _ => ?_)
      refine pk_bvy (fun μ5 ez4 => ?_)
      have z4 : Tz μ μ5 := by rw [ez4]; exact z3.sF (pz_a (by decide) (by decide))
      refine pk_bvy (fun v6 _ => ?_)
      exact pk_mono (ih a1 v6 μ5) (fun _ hq => z4.tr hq)
theorem w_X12_layStars (a1 : Int32) (μ : Mem) : pk (p_X12_layStars a1 μ) (fun q => Tz μ q) := by
  have z0 : Tz μ μ := Tz.rf
  rw [p_X12_layStars_eq]
  exact pk_mono (w_X12_layStars_b2 FUEL a1 (0 : Int32) μ) (fun _ hq => z0.tr hq)
theorem w_X12_newVariant (a1 : Int32) (a2 : Int32) (μ : Mem) : pk (p_X12_newVariant a1 a2 μ) (fun q => Tz μ q.2) := by
  have z0 : Tz μ μ := Tz.rf
  rw [p_X12_newVariant_eq]
  refine pk_ite (fun _ => ?_) (fun _ => ?_)
  · refine pk_bvy (fun μ14 ez1 => ?_)
    have z1 : Tz μ μ14 := by rw [ez1]; exact z0.sF (pz_f (by decide))
    exact pk_some z1
  · refine pk_bvy (fun v2 _ => ?_)
    refine pk_bvy (fun μ3 ez2 => ?_)
    have z2 : Tz μ μ3 := by rw [ez2]; exact z0.sF (pz_f (by decide))
    refine pk_gd (fun _ => ?_)
    refine pk_bvy (fun μ4 ez3 => ?_)
    have z3 : Tz μ μ4 := by rw [ez3]; exact z2.sF (pz_a (by decide) (by decide))
    refine pk_gd (fun _ => ?_)
    refine pk_bvy (fun μ5 ez4 => ?_)
    have z4 : Tz μ μ5 := by rw [ez4]; exact z3.sF (pz_a (by decide) (by decide))
    refine pk_gd (fun _ => ?_)
    refine pk_bvy (fun μ6 ez5 => ?_)
    have z5 : Tz μ μ6 := by rw [ez5]; exact z4.sF (pz_a (by decide) (by decide))
    refine pk_bd (w_X12_starsMade μ6) (fun r8 μ7 ez6 => ?_)
    have z6 : Tz μ μ7 := z5.tr ez6
    refine pk_gd (fun _ => ?_)
    refine pk_bvy (fun μ9 ez7 => ?_)
    have z7 : Tz μ μ9 := by rw [ez7]; exact z6.sF (pz_a (by decide) (by decide))
    refine pk_bw (w_X12_copy 67 (0 : Int32) (μ9.1 0 118) 60 ((210 : Int32) * v2) μ9 ⟨by decide, by decide⟩) (fun μ10 ez8 => ?_)
    have z8 : Tz μ μ10 := z7.tr ez8
    refine pk_bw (w_X12_copy 68 (0 : Int32) (μ10.1 0 118) 61 ((210 : Int32) * v2) μ10 ⟨by decide, by decide⟩) (fun μ12 ez9 => ?_)
    have z9 : Tz μ μ12 := z8.tr ez9
    exact pk_some z9
theorem w_X12_liftPair (a1 : Int32) (a2 : Int32) (μ : Mem) : pk (p_X12_liftPair a1 a2 μ) (fun q => Tz μ q.2) := by
  have z0 : Tz μ μ := Tz.rf
  rw [p_X12_liftPair_eq]
  refine pk_bd (w_X12_instruction (10 : Int32) (1 : Int32) μ) (fun r2 μ1 ez1 => ?_)
  have z1 : Tz μ μ1 := z0.tr ez1
  refine pk_ite (fun _ => ?_) (fun _ => ?_)
  · refine pk_bw (w_X12_operand r2 a1 μ1) (fun μ4 ez2 => ?_)
    have z2 : Tz μ μ4 := z1.tr ez2
    refine pk_bw (w_X12_operand r2 a2 μ4) (fun μ6 ez3 => ?_)
    have z3 : Tz μ μ6 := z2.tr ez3
    refine pk_bd (w_X12_registerOf r2 μ6) (fun r9 μ8 ez4 => ?_)
    have z4 : Tz μ μ8 := z3.tr ez4
    exact pk_some z4
  · exact pk_some z1
theorem w_X12_lift_b139 (a1 : Int32) (μ : Mem) : pk (p_X12_lift_b139 a1 μ) (fun q => Tz μ q.2) := by
  have z0 : Tz μ μ := Tz.rf
  rw [p_X12_lift_b139_eq]
  refine pk_ite (fun _ => ?_) (fun _ => ?_)
  · refine pk_gd (fun _ => ?_)
    exact pk_some z0
  · exact pk_some z0
theorem w_X12_lift_b136 (K11 : Int32 → Int32 → Int32 → Mem → Option (Int32 × Mem)) (hK11 : ∀ (y0 : Int32) (y1 : Int32) (y2 : Int32) (y3 : Mem), pk (K11 y0 y1 y2 y3) (fun q => Tz y3 q.2)) (a1 : Int32) (a2 : Int32) (a3 : Int32) (μ : Mem) : pk (p_X12_lift_b136 K11 a1 a2 a3 μ) (fun q => Tz μ q.2) := by
  have z0 : Tz μ μ := Tz.rf
  rw [p_X12_lift_b136_eq]
  exact pk_mono (hK11 a1 a2 a3 μ) (fun _ hq => z0.tr hq)
theorem w_X12_lift_b11 : ∀ (n : Nat) (a1 : Int32) (a2 : Int32) (a3 : Int32) (μ : Mem), pk (p_X12_lift_b11  n a1 a2 a3 μ) (fun q => Tz μ q.2) := by
  intro n
  induction n with
  | zero => intro a1 a2 a3 μ r e; rw [p_X12_lift_b11_z] at e; cases e
  | succ n ih =>
    intro a1 a2 a3 μ
    have z0 : Tz μ μ := Tz.rf
    rw [p_X12_lift_b11_s]
    refine pk_ite (fun _ => ?_) (fun _ => ?_)
    · exact pk_mono (w_X12_lift_b139 a1 μ) (fun _ hq => z0.tr hq)
    · refine pk_ite (fun _ => ?_) (fun _ => ?_)
      · refine pk_bvy (fun v5 _ => ?_)
        refine pk_gd (fun _ => ?_)
        refine pk_bvy (fun v6 _ => ?_)
        refine pk_ite (fun _ => ?_) (fun _ => ?_)
        · refine pk_gd (fun _ => ?_)
          refine pk_ite (fun _ => ?_) (fun _ => ?_)
          · refine pk_gd (fun _ => ?_)
            refine pk_bvy (fun μ11 ez1 => ?_)
            have z1 : Tz μ μ11 := by rw [ez1]; exact z0.sF (pz_a (by decide) (by decide))
            refine pk_gd (fun _ => ?_)
            refine pk_gd (fun _ => ?_)
            refine pk_bvy (fun μ12 ez2 => ?_)
            have z2 : Tz μ μ12 := by rw [ez2]; exact z1.sF (pz_a (by decide) (by decide))
            refine pk_gd (fun _ => ?_)
            refine pk_gd (fun _ => ?_)
            refine pk_bvy (fun μ13 ez3 => ?_)
            have z3 : Tz μ μ13 := by rw [ez3]; exact z2.sF (pz_a (by decide) (by decide))
            refine pk_bvy (fun v14 _ => ?_)
            exact pk_mono (w_X12_lift_b136 (p_X12_lift_b11  n) ih a1 a2 v14 μ13) (fun _ hq => z3.tr hq)
          · refine pk_gd (fun _ => ?_)
            refine pk_bvy (fun μ9 ez4 => ?_)
            have z4 : Tz μ μ9 := by rw [ez4]; exact z0.sF (pz_a (by decide) (by decide))
            refine pk_bvy (fun v10 _ => ?_)
            exact pk_mono (w_X12_lift_b136 (p_X12_lift_b11  n) ih a1 v10 v5 μ9) (fun _ hq => z4.tr hq)
        · refine pk_bvy (fun v15 _ => ?_)
          refine pk_gd (fun _ => ?_)
          refine pk_gd (fun _ => ?_)
          refine pk_bd (w_X12_liftPair (μ.1 56 v15.toNatClampNeg) (μ.1 56 (v15 + (1 : Int32)).toNatClampNeg) μ) (fun r17 μ16 ez5 => ?_)
          have z5 : Tz μ μ16 := z0.tr ez5
          refine pk_gd (fun _ => ?_)
          refine pk_bvy (fun μ18 ez6 => ?_)
          have z6 : Tz μ μ18 := by rw [ez6]; exact z5.sF (pz_a (by decide) (by decide))
          refine pk_bvy (fun v19 _ => ?_)
          exact pk_mono (w_X12_lift_b136 (p_X12_lift_b11  n) ih a1 v19 v5 μ18) (fun _ hq => z6.tr hq)
      · exact pk_mono (w_X12_lift_b139 a1 μ) (fun _ hq => z0.tr hq)
theorem w_X12_lift (a1 : Int32) (μ : Mem) : pk (p_X12_lift a1 μ) (fun q => Tz μ q.2) := by
  have z0 : Tz μ μ := Tz.rf
  rw [p_X12_lift_eq]
  refine pk_gd (fun _ => ?_)
  refine pk_bvy (fun μ1 ez1 => ?_)
  have z1 : Tz μ μ1 := by rw [ez1]; exact z0.sF (pz_a (by decide) (by decide))
  exact pk_mono (w_X12_lift_b11 FUEL a1 (0 : Int32) (1 : Int32) μ1) (fun _ hq => z1.tr hq)
theorem w_X12_leaveCall_b222 : ∀ (n : Nat) (a4 : Int32) (a5 : Int32) (a6 : Int32) (μ : Mem), pk (p_X12_leaveCall_b222  n a4 a5 a6 μ) (fun q => Tz μ q) := by
  intro n
  induction n with
  | zero => intro a4 a5 a6 μ r e; rw [p_X12_leaveCall_b222_z] at e; cases e
  | succ n ih =>
    intro a4 a5 a6 μ
    have z0 : Tz μ μ := Tz.rf
    rw [p_X12_leaveCall_b222_s]
    refine pk_ite (fun _ => ?_) (fun _ => ?_)
    · refine pk_bd (w_X12_registerOf a5 μ) (fun r17 μ16 ez1 => ?_)
      have z1 : Tz μ μ16 := z0.tr ez1
      refine pk_bw (w_X12_come r17 μ16) (fun μ18 ez2 => ?_)
      have z2 : Tz μ μ18 := z1.tr ez2
      exact pk_some z2
    · refine pk_gd (fun _ => ?_)
      refine pk_bw (w_X12_operand a5 (μ.1 69 a6.toNatClampNeg) μ) (fun μ20 ez3 => ?_)
      have z3 : Tz μ μ20 := z0.tr ez3
      refine pk_bvy (fun v22 _ => ?_)
      exact pk_mono (ih a4 a5 v22 μ20) (fun _ hq => z3.tr hq)
theorem w_X12_leaveCall_b186 (a3 : Int32) (a4 : Int32) (μ : Mem) : pk (p_X12_leaveCall_b186 a3 a4 μ) (fun q => Tz μ q) := by
  have z0 : Tz μ μ := Tz.rf
  rw [p_X12_leaveCall_b186_eq]
  refine pk_ite (fun _ => ?_) (fun _ => ?_)
  · refine pk_bd (w_X12_instruction (11 : Int32) (1 : Int32) μ) (fun r12 μ11 ez1 => ?_)
    have z1 : Tz μ μ11 := z0.tr ez1
    refine pk_ite (fun _ => ?_) (fun _ => ?_)
    · refine pk_gd (fun _ => ?_)
      refine pk_bvy (fun μ14 ez2 => ?_)
      have z2 : Tz μ μ14 := by rw [ez2]; exact z1.sF (pz_a (by decide) (by decide))
      exact pk_mono (w_X12_leaveCall_b222 FUEL a4 r12 (0 : Int32) μ14) (fun _ hq => z2.tr hq)
    · exact pk_some z1
  · exact pk_some z0
theorem w_X12_leaveCall_b180 (K129 : Int32 → Int32 → Int32 → Mem → Option Mem) (hK129 : ∀ (y0 : Int32) (y1 : Int32) (y2 : Int32) (y3 : Mem), pk (K129 y0 y1 y2 y3) (fun q => Tz y3 q)) (a3 : Int32) (a4 : Int32) (a5 : Int32) (μ : Mem) : pk (p_X12_leaveCall_b180 K129 a3 a4 a5 μ) (fun q => Tz μ q) := by
  have z0 : Tz μ μ := Tz.rf
  rw [p_X12_leaveCall_b180_eq]
  refine pk_bvy (fun v29 _ => ?_)
  exact pk_mono (hK129 a3 a4 v29 μ) (fun _ hq => z0.tr hq)
theorem w_X12_leaveCall_b129 : ∀ (n : Nat) (a3 : Int32) (a4 : Int32) (a5 : Int32) (μ : Mem), pk (p_X12_leaveCall_b129  n a3 a4 a5 μ) (fun q => Tz μ q) := by
  intro n
  induction n with
  | zero => intro a3 a4 a5 μ r e; rw [p_X12_leaveCall_b129_z] at e; cases e
  | succ n ih =>
    intro a3 a4 a5 μ
    have z0 : Tz μ μ := Tz.rf
    rw [p_X12_leaveCall_b129_s]
    refine pk_ite (fun _ => ?_) (fun _ => ?_)
    · exact pk_mono (w_X12_leaveCall_b186 a3 a4 μ) (fun _ hq => z0.tr hq)
    · refine pk_ite (fun _ => ?_) (fun _ => ?_)
      · refine pk_gd (fun _ => ?_)
        refine pk_ite (fun _ => ?_) (fun _ => ?_)
        · refine pk_gd (fun _ => ?_)
          refine pk_bd (w_X12_lift (μ.1 69 a5.toNatClampNeg) μ) (fun r26 μ25 ez1 => ?_)
          have z1 : Tz μ μ25 := z0.tr ez1
          refine pk_gd (fun _ => ?_)
          refine pk_bvy (fun μ27 ez2 => ?_)
          have z2 : Tz μ μ27 := by rw [ez2]; exact z1.sF (pz_a (by decide) (by decide))
          refine pk_bvy (fun v28 _ => ?_)
          exact pk_mono (w_X12_leaveCall_b180 (p_X12_leaveCall_b129  n) ih a3 v28 a5 μ27) (fun _ hq => z2.tr hq)
        · exact pk_mono (w_X12_leaveCall_b180 (p_X12_leaveCall_b129  n) ih a3 a4 a5 μ) (fun _ hq => z0.tr hq)
      · exact pk_mono (w_X12_leaveCall_b186 a3 a4 μ) (fun _ hq => z0.tr hq)
theorem w_X12_leaveCall_b123 (a3 : Int32) (μ : Mem) : pk (p_X12_leaveCall_b123 a3 μ) (fun q => Tz μ q) := by
  have z0 : Tz μ μ := Tz.rf
  rw [p_X12_leaveCall_b123_eq]
  exact pk_mono (w_X12_leaveCall_b129 FUEL a3 (0 : Int32) (0 : Int32) μ) (fun _ hq => z0.tr hq)
theorem w_X12_leaveCall_b108 (a1 : Int32) (a3 : Int32) (μ : Mem) : pk (p_X12_leaveCall_b108 a1 a3 μ) (fun q => Tz μ q) := by
  have z0 : Tz μ μ := Tz.rf
  rw [p_X12_leaveCall_b108_eq]
  refine pk_ite (fun _ => ?_) (fun _ => ?_)
  · refine pk_bd (w_X12_newVariant a1 (μ.1 0 111) μ) (fun r31 μ30 ez1 => ?_)
    have z1 : Tz μ μ30 := z0.tr ez1
    exact pk_mono (w_X12_leaveCall_b123 r31 μ30) (fun _ hq => z1.tr hq)
  · exact pk_mono (w_X12_leaveCall_b123 a3 μ) (fun _ hq => z0.tr hq)
theorem w_X12_leaveCall_b87 (a1 : Int32) (a2 : Int32) (μ : Mem) : pk (p_X12_leaveCall_b87 a1 a2 μ) (fun q => Tz μ q) := by
  have z0 : Tz μ μ := Tz.rf
  rw [p_X12_leaveCall_b87_eq]
  refine pk_bw (w_X12_layStars a2 μ) (fun μ35 ez1 => ?_)
  have z1 : Tz μ μ35 := z0.tr ez1
  refine pk_bvy (fun μ37 ez2 => ?_)
  have z2 : Tz μ μ37 := by rw [ez2]; exact z1.sF (pz_f (by decide))
  refine pk_bd (w_X12_variantBy a1 μ37) (fun r39 μ38 ez3 => ?_)
  have z3 : Tz μ μ38 := z2.tr ez3
  exact pk_mono (w_X12_leaveCall_b108 a1 r39 μ38) (fun _ hq => z3.tr hq)
theorem w_X12_leaveCall_b30 (K10 : Int32 → Int32 → Int32 → Mem → Option Mem) (hK10 : ∀ (y0 : Int32) (y1 : Int32) (y2 : Int32) (y3 : Mem), pk (K10 y0 y1 y2 y3) (fun q => Tz y3 q)) (a1 : Int32) (a2 : Int32) (a3 : Int32) (μ : Mem) : pk (p_X12_leaveCall_b30 K10 a1 a2 a3 μ) (fun q => Tz μ q) := by
  have z0 : Tz μ μ := Tz.rf
  rw [p_X12_leaveCall_b30_eq]
  refine pk_gd (fun _ => ?_)
  refine pk_bvy (fun v45 _ => ?_)
  exact pk_mono (hK10 a1 a2 v45 μ) (fun _ hq => z0.tr hq)
theorem w_X12_leaveCall_b10 : ∀ (n : Nat) (a1 : Int32) (a2 : Int32) (a3 : Int32) (μ : Mem), pk (p_X12_leaveCall_b10  n a1 a2 a3 μ) (fun q => Tz μ q) := by
  intro n
  induction n with
  | zero => intro a1 a2 a3 μ r e; rw [p_X12_leaveCall_b10_z] at e; cases e
  | succ n ih =>
    intro a1 a2 a3 μ
    have z0 : Tz μ μ := Tz.rf
    rw [p_X12_leaveCall_b10_s]
    refine pk_ite (fun _ => ?_) (fun _ => ?_)
    · refine pk_bd (w_X12_variantBy a1 μ) (fun r6 μ5 ez1 => ?_)
      have z1 : Tz μ μ5 := z0.tr ez1
      refine pk_ite (fun _ => ?_) (fun _ => ?_)
      · refine pk_bd (w_X12_variantsOf a1 μ5) (fun r33 μ32 ez2 => ?_)
        have z2 : Tz μ μ32 := z1.tr ez2
        refine pk_gd (fun _ => ?_)
        refine pk_ite (fun _ => ?_) (fun _ => ?_)
        · exact pk_mono (w_X12_leaveCall_b87 a1 a2 μ32) (fun _ hq => z2.tr hq)
        · refine pk_gd (fun _ => ?_)
          refine pk_ite (fun _ => ?_) (fun _ => ?_)
          · exact pk_mono (w_X12_leaveCall_b87 a1 a2 μ32) (fun _ hq => z2.tr hq)
          · refine pk_bd (w_X12_starsMade μ32) (fun r42 μ41 ez3 => ?_)
            have z3 : Tz μ μ41 := z2.tr ez3
            refine pk_ite (fun _ => ?_) (fun _ => ?_)
            · exact pk_mono (w_X12_leaveCall_b108 a1 r6 μ41) (fun _ hq => z3.tr hq)
            · exact pk_mono (w_X12_leaveCall_b87 a1 a2 μ41) (fun _ hq => z3.tr hq)
      · exact pk_mono (w_X12_leaveCall_b108 a1 r6 μ5) (fun _ hq => z1.tr hq)
    · refine pk_gd (fun _ => ?_)
      refine pk_ite (fun _ => ?_) (fun _ => ?_)
      · refine pk_bw (w_X12_growBy a3 μ) (fun μ46 ez4 => ?_)
        have z4 : Tz μ μ46 := z0.tr ez4
        exact pk_mono (w_X12_leaveCall_b30 (p_X12_leaveCall_b10  n) ih a1 a2 a3 μ46) (fun _ hq => z4.tr hq)
      · exact pk_mono (w_X12_leaveCall_b30 (p_X12_leaveCall_b10  n) ih a1 a2 a3 μ) (fun _ hq => z0.tr hq)
theorem w_X12_leaveCall (a1 : Int32) (a2 : Int32) (μ : Mem) : pk (p_X12_leaveCall a1 a2 μ) (fun q => Tz μ q) := by
  have z0 : Tz μ μ := Tz.rf
  rw [p_X12_leaveCall_eq]
  refine pk_bw (w_X12_layMade a2 μ) (fun μ1 ez1 => ?_)
  have z1 : Tz μ μ1 := z0.tr ez1
  refine pk_bvy (fun v3 _ => ?_)
  exact pk_mono (w_X12_leaveCall_b10 FUEL a1 a2 v3 μ1) (fun _ hq => z1.tr hq)
theorem w_X12_thinkCall (a1 : Int32) (a2 : Int32) (μ : Mem) : pk (p_X12_thinkCall a1 a2 μ) (fun q => Tz μ q) := by
  have z0 : Tz μ μ := Tz.rf
  rw [p_X12_thinkCall_eq]
  refine pk_ite (fun _ => ?_) (fun _ => ?_)
  · refine pk_bd (w_X12_instruction (12 : Int32) (1 : Int32) μ) (fun r15 μ14 ez1 => ?_)
    have z1 : Tz μ μ14 := z0.tr ez1
    refine pk_ite (fun _ => ?_) (fun _ => ?_)
    · refine pk_bd (w_X12_registerOf r15 μ14) (fun r18 μ17 ez2 => ?_)
      have z2 : Tz μ μ17 := z1.tr ez2
      refine pk_bw (w_X12_come r18 μ17) (fun μ19 ez3 => ?_)
      have z3 : Tz μ μ19 := z2.tr ez3
      exact pk_some z3
    · exact pk_some z1
  · refine pk_ite (fun _ => ?_) (fun _ => ?_)
    · refine pk_gd (fun _ => ?_)
      refine pk_ite (fun _ => ?_) (fun _ => ?_)
      · refine pk_bw (w_X12_leaveCall a1 a2 μ) (fun μ6 ez4 => ?_)
        have z4 : Tz μ μ6 := z0.tr ez4
        exact pk_some z4
      · refine pk_ite (fun _ => ?_) (fun _ => ?_)
        · refine pk_bvy (fun μ13 ez5 => ?_)
          have z5 : Tz μ μ13 := by rw [ez5]; exact z0.sF (pz_f (by decide))
          exact pk_some z5
        · refine pk_bvy (fun μ9 ez6 => ?_)
          have z6 : Tz μ μ9 := by rw [ez6]; exact z0.sF (pz_f (by decide))
          refine pk_bvy (fun μ10 ez7 => ?_)
          have z7 : Tz μ μ10 := by rw [ez7]; exact z6.sF (pz_f (by decide))
          refine pk_bw (w_X12_enter a1 μ10) (fun μ11 ez8 => ?_)
          have z8 : Tz μ μ11 := z7.tr ez8
          exact pk_some z8
    · refine pk_bw (w_X12_leaveCall a1 a2 μ) (fun μ3 ez9 => ?_)
      have z9 : Tz μ μ3 := z0.tr ez9
      exact pk_some z9
theorem w_X12_beginsCall_b18 (μ : Mem) : pk (p_X12_beginsCall_b18 μ) (fun q => Tz μ q.2) := by
  have z0 : Tz μ μ := Tz.rf
  rw [p_X12_beginsCall_b18_eq]
  refine pk_ite (fun _ => ?_) (fun _ => ?_)
  · refine pk_bvy (fun μ4 ez1 => ?_)
    have z1 : Tz μ μ4 := by rw [ez1]; exact z0.sF (pz_f (by decide))
    exact pk_some z1
  · refine pk_bvy (fun μ3 ez2 => ?_)
    have z2 : Tz μ μ3 := by rw [ez2]; exact z0.sF (pz_f (by decide))
    exact pk_some z2
theorem w_X12_beginsCall (μ : Mem) : pk (p_X12_beginsCall μ) (fun q => Tz μ q.2) := by
  have z0 : Tz μ μ := Tz.rf
  rw [p_X12_beginsCall_eq]
  refine pk_ite (fun _ => ?_) (fun _ => ?_)
  · exact pk_mono (w_X12_beginsCall_b18 μ) (fun _ hq => z0.tr hq)
  · refine pk_ite (fun _ => ?_) (fun _ => ?_)
    · exact pk_mono (w_X12_beginsCall_b18 μ) (fun _ hq => z0.tr hq)
    · refine pk_bvy (fun μ6 ez1 => ?_)
      have z1 : Tz μ μ6 := by rw [ez1]; exact z0.sF (pz_f (by decide))
      refine pk_bvy (fun μ7 ez2 => ?_)
      have z2 : Tz μ μ7 := by rw [ez2]; exact z1.sF (pz_f (by decide))
      refine pk_ite (fun _ => ?_) (fun _ => ?_)
      · refine pk_bvy (fun μ9 ez3 => ?_)
        have z3 : Tz μ μ9 := by rw [ez3]; exact z2.sF (pz_f (by decide))
        exact pk_some z3
      · refine pk_bvy (fun μ10 ez4 => ?_)
        have z4 : Tz μ μ10 := by rw [ez4]; exact z2.sF (pz_f (by decide))
        exact pk_some z4
theorem w_X12_doCall_b4 : ∀ (n : Nat) (a1 : Int32) (a2 : Int32) (a3 : Int32) (μ : Mem), pk (p_X12_doCall_b4  n a1 a2 a3 μ) (fun q => Tz μ q) := by
  intro n
  induction n with
  | zero => intro a1 a2 a3 μ r e; rw [p_X12_doCall_b4_z] at e; cases e
  | succ n ih =>
    intro a1 a2 a3 μ
    have z0 : Tz μ μ := Tz.rf
    rw [p_X12_doCall_b4_s]
    refine pk_ite (fun _ => ?_) (fun _ => ?_)
    · refine pk_bd (w_X12_functionOf a1 a2 μ) (fun r4 μ3 ez1 => ?_)
      have z1 : Tz μ μ3 := z0.tr ez1
      refine pk_ite (fun _ => ?_) (fun _ => ?_)
      · refine pk_ite (fun _ => ?_) (fun _ => ?_)
        · refine pk_bvy (fun μ12 ez2 => ?_)
          have z2 : Tz μ μ12 := by rw [ez2]; exact z1.sF (pz_f (by decide))
          exact pk_some z2
        · refine pk_bd (w_X12_beginsCall μ3) (fun r8 μ7 ez3 => ?_)
          have z3 : Tz μ μ7 := z1.tr ez3
          refine pk_ite (fun _ => ?_) (fun _ => ?_)
          · exact pk_some z3
          · refine pk_bw (w_X12_enter r4 μ7) (fun μ10 ez4 => ?_)
            have z4 : Tz μ μ10 := z3.tr ez4
            exact pk_some z4
      · refine pk_bw (w_X12_thinkCall r4 a2 μ3) (fun μ13 ez5 => ?_)
        have z5 : Tz μ μ13 := z1.tr ez5
        exact pk_some z5
    · refine pk_bd (w_X12_gone μ) (fun r16 μ15 ez6 => ?_)
      have z6 : Tz μ μ15 := z0.tr ez6
      refine pk_gd (fun _ => ?_)
      refine pk_bvy (fun μ17 ez7 => ?_)
      have z7 : Tz μ μ17 := by rw [ez7]; exact z6.sF (pz_a (by decide) (by decide))
      refine pk_bvy (fun v18 _ => ?_)
      exact pk_mono (ih a1 a2 v18 μ17) (fun _ hq => z7.tr hq)
theorem w_X12_doCall (a1 : Int32) (a2 : Int32) (μ : Mem) : pk (p_X12_doCall a1 a2 μ) (fun q => Tz μ q) := by
  have z0 : Tz μ μ := Tz.rf
  rw [p_X12_doCall_eq]
  refine pk_bvy (fun v1 _ => ?_)
  exact pk_mono (w_X12_doCall_b4 FUEL a1 a2 v1 μ) (fun _ hq => z0.tr hq)
theorem w_X12_doThing (a1 : Int32) (μ : Mem) : pk (p_X12_doThing a1 μ) (fun q => Tz μ q) := by
  have z0 : Tz μ μ := Tz.rf
  rw [p_X12_doThing_eq]
  refine pk_gd (fun _ => ?_)
  refine pk_ite (fun _ => ?_) (fun _ => ?_)
  · refine pk_bw (w_X12_doPair μ) (fun μ3 ez1 => ?_)
    have z1 : Tz μ μ3 := z0.tr ez1
    exact pk_some z1
  · refine pk_ite (fun _ => ?_) (fun _ => ?_)
    · refine pk_gd (fun _ => ?_)
      refine pk_gd (fun _ => ?_)
      refine pk_bw (w_X12_doCall (μ.1 8 a1.toNatClampNeg) (μ.1 9 a1.toNatClampNeg) μ) (fun μ6 ez2 => ?_)
      have z2 : Tz μ μ6 := z0.tr ez2
      exact pk_some z2
    · refine pk_ite (fun _ => ?_) (fun _ => ?_)
      · refine pk_gd (fun _ => ?_)
        refine pk_gd (fun _ => ?_)
        refine pk_bw (w_X12_doCall (μ.1 8 a1.toNatClampNeg) (μ.1 9 a1.toNatClampNeg) μ) (fun μ9 ez3 => ?_)
        have z3 : Tz μ μ9 := z0.tr ez3
        exact pk_some z3
      · refine pk_ite (fun _ => ?_) (fun _ => ?_)
        · refine pk_gd (fun _ => ?_)
          refine pk_bw (w_X12_doSign (μ.1 8 a1.toNatClampNeg) μ) (fun μ12 ez4 => ?_)
          have z4 : Tz μ μ12 := z0.tr ez4
          exact pk_some z4
        · refine pk_ite (fun _ => ?_) (fun _ => ?_)
          · refine pk_gd (fun _ => ?_)
            refine pk_bw (w_X12_doOne (μ.1 8 a1.toNatClampNeg) μ) (fun μ15 ez5 => ?_)
            have z5 : Tz μ μ15 := z0.tr ez5
            exact pk_some z5
          · refine pk_ite (fun _ => ?_) (fun _ => ?_)
            · refine pk_gd (fun _ => ?_)
              refine pk_gd (fun _ => ?_)
              refine pk_bw (w_X12_doCall (μ.1 8 a1.toNatClampNeg) (μ.1 9 a1.toNatClampNeg) μ) (fun μ18 ez6 => ?_)
              have z6 : Tz μ μ18 := z0.tr ez6
              exact pk_some z6
            · refine pk_ite (fun _ => ?_) (fun _ => ?_)
              · refine pk_bw (w_X12_doOut μ) (fun μ21 ez7 => ?_)
                have z7 : Tz μ μ21 := z0.tr ez7
                exact pk_some z7
              · refine pk_ite (fun _ => ?_) (fun _ => ?_)
                · refine pk_gd (fun _ => ?_)
                  refine pk_bw (w_X12_doPut (μ.1 8 a1.toNatClampNeg) μ) (fun μ24 ez8 => ?_)
                  have z8 : Tz μ μ24 := z0.tr ez8
                  exact pk_some z8
                · refine pk_ite (fun _ => ?_) (fun _ => ?_)
                  · refine pk_gd (fun _ => ?_)
                    refine pk_bw (w_X12_doGet (μ.1 8 a1.toNatClampNeg) μ) (fun μ27 ez9 => ?_)
                    have z9 : Tz μ μ27 := z0.tr ez9
                    exact pk_some z9
                  · refine pk_gd (fun _ => ?_)
                    refine pk_gd (fun _ => ?_)
                    refine pk_bw (w_X12_doCall (μ.1 8 a1.toNatClampNeg) (μ.1 9 a1.toNatClampNeg) μ) (fun μ29 ez10 => ?_)
                    have z10 : Tz μ μ29 := z0.tr ez10
                    exact pk_some z10
theorem w_X12_choose (a1 : Int32) (μ : Mem) : pk (p_X12_choose a1 μ) (fun q => Tz μ q) := by
  have z0 : Tz μ μ := Tz.rf
  rw [p_X12_choose_eq]
  refine pk_bd (w_X12_gone μ) (fun r2 μ1 ez1 => ?_)
  have z1 : Tz μ μ1 := z0.tr ez1
  refine pk_bd (w_X12_num r2 μ1) (fun r4 μ3 ez2 => ?_)
  have z2 : Tz μ μ3 := z1.tr ez2
  refine pk_gd (fun _ => ?_)
  refine pk_bvy (fun v5 _ => ?_)
  refine pk_bd (w_X12_isKnown r4 μ3) (fun r7 μ6 ez3 => ?_)
  have z3 : Tz μ μ6 := z2.tr ez3
  refine pk_ite (fun _ => ?_) (fun _ => ?_)
  · refine pk_bd (w_X12_item (6 : Int32) μ6) (fun r10 μ9 ez4 => ?_)
    have z4 : Tz μ μ9 := z3.tr ez4
    refine pk_bw (w_X12_operand r10 r4 μ9) (fun μ11 ez5 => ?_)
    have z5 : Tz μ μ11 := z4.tr ez5
    refine pk_bvy (fun μ13 ez6 => ?_)
    have z6 : Tz μ μ13 := by rw [ez6]; exact z5.sF (pz_f (by decide))
    refine pk_gd (fun _ => ?_)
    refine pk_bw (w_X12_push (6 : Int32) r10 (μ13.1 10 v5.toNatClampNeg) μ13) (fun μ14 ez7 => ?_)
    have z7 : Tz μ μ14 := z6.tr ez7
    refine pk_bw (w_X12_push (0 : Int32) v5 (0 : Int32) μ14) (fun μ16 ez8 => ?_)
    have z8 : Tz μ μ16 := z7.tr ez8
    exact pk_some z8
  · refine pk_gd (fun _ => ?_)
    refine pk_gd (fun _ => ?_)
    refine pk_ite (fun _ => ?_) (fun _ => ?_)
    · refine pk_gd (fun _ => ?_)
      refine pk_bw (w_X12_push (0 : Int32) (μ6.1 10 v5.toNatClampNeg) (0 : Int32) μ6) (fun μ19 ez9 => ?_)
      have z9 : Tz μ μ19 := z3.tr ez9
      exact pk_some z9
    · refine pk_bw (w_X12_push (0 : Int32) v5 (0 : Int32) μ6) (fun μ21 ez10 => ?_)
      have z10 : Tz μ μ21 := z3.tr ez10
      exact pk_some z10
theorem w_X12_bindVar (a1 : Int32) (μ : Mem) : pk (p_X12_bindVar a1 μ) (fun q => Tz μ q) := by
  have z0 : Tz μ μ := Tz.rf
  rw [p_X12_bindVar_eq]
  refine pk_bd (w_X12_gone μ) (fun r2 μ1 ez1 => ?_)
  have z1 : Tz μ μ1 := z0.tr ez1
  refine pk_gd (fun _ => ?_)
  refine pk_gd (fun _ => ?_)
  refine pk_gd (fun _ => ?_)
  refine pk_bw (w_X12_push (4 : Int32) (μ1.1 8 a1.toNatClampNeg) (μ1.1 41 ((μ1.1 0 67) + (μ1.1 8 a1.toNatClampNeg)).toNatClampNeg) μ1) (fun μ3 ez2 => ?_)
  have z2 : Tz μ μ3 := z1.tr ez2
  refine pk_gd (fun _ => ?_)
  refine pk_gd (fun _ => ?_)
  refine pk_bvy (fun μ5 ez3 => ?_)
  have z3 : Tz μ μ5 := by rw [ez3]; exact z2.sF (pz_a (by decide) (by decide))
  refine pk_gd (fun _ => ?_)
  refine pk_bw (w_X12_push (0 : Int32) (μ5.1 10 (a1 + (1 : Int32)).toNatClampNeg) (0 : Int32) μ5) (fun μ6 ez4 => ?_)
  have z4 : Tz μ μ6 := z3.tr ez4
  exact pk_some z4
theorem w_X12_leave (μ : Mem) : pk (p_X12_leave μ) (fun q => Tz μ q) := by
  have z0 : Tz μ μ := Tz.rf
  rw [p_X12_leave_eq]
  refine pk_bvy (fun μ1 ez1 => ?_)
  have z1 : Tz μ μ1 := by rw [ez1]; exact z0.sF (pz_f (by decide))
  refine pk_ite (fun _ => ?_) (fun _ => ?_)
  · refine pk_bvy (fun μ3 ez2 => ?_)
    have z2 : Tz μ μ3 := by rw [ez2]; exact z1.sF (pz_f (by decide))
    exact pk_some z2
  · refine pk_bvy (fun μ4 ez3 => ?_)
    have z3 : Tz μ μ4 := by rw [ez3]; exact z1.sF (pz_f (by decide))
    exact pk_some z3
theorem w_X12_mark (a1 : Int32) (a2 : Int32) (μ : Mem) : pk (p_X12_mark a1 a2 μ) (fun q => Tz μ q.2) := by
  have z0 : Tz μ μ := Tz.rf
  rw [p_X12_mark_eq]
  refine pk_bd (w_X12_gone μ) (fun r2 μ1 ez1 => ?_)
  have z1 : Tz μ μ1 := z0.tr ez1
  refine pk_bd (w_X12_lift r2 μ1) (fun r4 μ3 ez2 => ?_)
  have z2 : Tz μ μ3 := z1.tr ez2
  refine pk_ite (fun _ => ?_) (fun _ => ?_)
  · refine pk_bd (w_X12_item a1 μ3) (fun r7 μ6 ez3 => ?_)
    have z3 : Tz μ μ6 := z2.tr ez3
    refine pk_gd (fun _ => ?_)
    refine pk_bvy (fun μ8 ez4 => ?_)
    have z4 : Tz μ μ8 := by rw [ez4]; exact z3.sF (pz_a (by decide) (by decide))
    refine pk_bw (w_X12_operand r7 r4 μ8) (fun μ9 ez5 => ?_)
    have z5 : Tz μ μ9 := z4.tr ez5
    exact pk_some z5
  · exact pk_some z2
theorem w_X12_otherwise (a1 : Int32) (a2 : Int32) (μ : Mem) : pk (p_X12_otherwise a1 a2 μ) (fun q => Tz μ q) := by
  have z0 : Tz μ μ := Tz.rf
  rw [p_X12_otherwise_eq]
  refine pk_bd (w_X12_mark (13 : Int32) a1 μ) (fun r2 μ1 ez1 => ?_)
  have z1 : Tz μ μ1 := z0.tr ez1
  refine pk_ite (fun _ => ?_) (fun _ => ?_)
  · refine pk_gd (fun _ => ?_)
    refine pk_bvy (fun μ4 ez2 => ?_)
    have z2 : Tz μ μ4 := by rw [ez2]; exact z1.sF (pz_a (by decide) (by decide))
    refine pk_bw (w_X12_push (7 : Int32) a1 r2 μ4) (fun μ5 ez3 => ?_)
    have z3 : Tz μ μ5 := z2.tr ez3
    refine pk_bw (w_X12_push (0 : Int32) a2 (0 : Int32) μ5) (fun μ7 ez4 => ?_)
    have z4 : Tz μ μ7 := z3.tr ez4
    exact pk_some z4
  · exact pk_some z1
theorem w_X12_whole_b104 (a1 : Int32) (a2 : Int32) (k0 : Int32) (μ : Mem) : pk (p_X12_whole_b104 a1 a2 k0 μ) (fun q => Tz μ q) := by
  have z0 : Tz μ μ := Tz.rf
  rw [p_X12_whole_b104_eq]
  refine pk_ite (fun _ => ?_) (fun _ => ?_)
  · refine pk_bd (w_X12_registerOf a1 μ) (fun r13 μ12 ez1 => ?_)
    have z1 : Tz μ μ12 := z0.tr ez1
    refine pk_bw (w_X12_come r13 μ12) (fun μ14 ez2 => ?_)
    have z2 : Tz μ μ14 := z1.tr ez2
    exact pk_some z2
  · refine pk_bw (w_X12_come a2 μ) (fun μ16 ez3 => ?_)
    have z3 : Tz μ μ16 := z0.tr ez3
    exact pk_some z3
theorem w_X12_whole_b103 (a1 : Int32) (a2 : Int32) (μ : Mem) : pk (p_X12_whole_b103 a1 a2 μ) (fun q => Tz μ q) := by
  have z0 : Tz μ μ := Tz.rf
  rw [p_X12_whole_b103_eq]
  exact pk_mono (w_X12_whole_b104 a1 a2 (0 : Int32) μ) (fun _ hq => z0.tr hq)
theorem w_X12_whole_b31 (a1 : Int32) (a2 : Int32) (a3 : Int32) (μ : Mem) : pk (p_X12_whole_b31 a1 a2 a3 μ) (fun q => Tz μ q) := by
  have z0 : Tz μ μ := Tz.rf
  rw [p_X12_whole_b31_eq]
  refine pk_ite (fun _ => ?_) (fun _ => ?_)
  · refine pk_gd (fun _ => ?_)
    refine pk_bvy (fun μ6 ez1 => ?_)
    have z1 : Tz μ μ6 := by rw [ez1]; exact z0.sF (pz_a (by decide) (by decide))
    refine pk_bvy (fun μ7 ez2 => ?_)
    have z2 : Tz μ μ7 := by rw [ez2]; exact z1.sF (pz_f (by decide))
    refine pk_bd (w_X12_isKnown a2 μ7) (fun r9 μ8 ez3 => ?_)
    have z3 : Tz μ μ8 := z2.tr ez3
    refine pk_ite (fun _ => ?_) (fun _ => ?_)
    · exact pk_mono (w_X12_whole_b103 a1 a2 μ8) (fun _ hq => z3.tr hq)
    · refine pk_gd (fun _ => ?_)
      refine pk_gd (fun _ => ?_)
      refine pk_ite (fun _ => ?_) (fun _ => ?_)
      · refine pk_gd (fun _ => ?_)
        refine pk_gd (fun _ => ?_)
        refine pk_ite (fun _ => ?_) (fun _ => ?_)
        · exact pk_mono (w_X12_whole_b104 a1 a2 (1 : Int32) μ8) (fun _ hq => z3.tr hq)
        · exact pk_mono (w_X12_whole_b103 a1 a2 μ8) (fun _ hq => z3.tr hq)
      · exact pk_mono (w_X12_whole_b103 a1 a2 μ8) (fun _ hq => z3.tr hq)
  · exact pk_some z0
theorem w_X12_whole (a1 : Int32) (μ : Mem) : pk (p_X12_whole a1 μ) (fun q => Tz μ q) := by
  have z0 : Tz μ μ := Tz.rf
  rw [p_X12_whole_eq]
  refine pk_gd (fun _ => ?_)
  refine pk_bvy (fun v1 _ => ?_)
  refine pk_bd (w_X12_mark (14 : Int32) a1 μ) (fun r3 μ2 ez1 => ?_)
  have z1 : Tz μ μ2 := z0.tr ez1
  refine pk_ite (fun _ => ?_) (fun _ => ?_)
  · refine pk_bw (w_X12_countInstruction a1 (1 : Int32) μ2) (fun μ20 ez2 => ?_)
    have z2 : Tz μ μ20 := z1.tr ez2
    exact pk_mono (w_X12_whole_b31 a1 v1 r3 μ20) (fun _ hq => z2.tr hq)
  · exact pk_mono (w_X12_whole_b31 a1 v1 r3 μ2) (fun _ hq => z1.tr hq)
theorem w_X12_goOne (a1 : Int32) (a2 : Int32) (a3 : Int32) (μ : Mem) : pk (p_X12_goOne a1 a2 a3 μ) (fun q => Tz μ q) := by
  have z0 : Tz μ μ := Tz.rf
  rw [p_X12_goOne_eq]
  refine pk_ite (fun _ => ?_) (fun _ => ?_)
  · refine pk_bw (w_X12_work a2 μ) (fun μ3 ez1 => ?_)
    have z1 : Tz μ μ3 := z0.tr ez1
    exact pk_some z1
  · refine pk_ite (fun _ => ?_) (fun _ => ?_)
    · refine pk_bw (w_X12_doThing a2 μ) (fun μ6 ez2 => ?_)
      have z2 : Tz μ μ6 := z0.tr ez2
      exact pk_some z2
    · refine pk_ite (fun _ => ?_) (fun _ => ?_)
      · refine pk_bw (w_X12_choose a2 μ) (fun μ9 ez3 => ?_)
        have z3 : Tz μ μ9 := z0.tr ez3
        exact pk_some z3
      · refine pk_ite (fun _ => ?_) (fun _ => ?_)
        · refine pk_bw (w_X12_bindVar a2 μ) (fun μ12 ez4 => ?_)
          have z4 : Tz μ μ12 := z0.tr ez4
          exact pk_some z4
        · refine pk_ite (fun _ => ?_) (fun _ => ?_)
          · refine pk_gd (fun _ => ?_)
            refine pk_bvy (fun μ15 ez5 => ?_)
            have z5 : Tz μ μ15 := by rw [ez5]; exact z0.sF (pz_a (by decide) (by decide))
            exact pk_some z5
          · refine pk_ite (fun _ => ?_) (fun _ => ?_)
            · refine pk_bw (w_X12_leave μ) (fun μ17 ez6 => ?_)
              have z6 : Tz μ μ17 := z0.tr ez6
              exact pk_some z6
            · refine pk_ite (fun _ => ?_) (fun _ => ?_)
              · refine pk_bw (w_X12_otherwise a2 a3 μ) (fun μ20 ez7 => ?_)
                have z7 : Tz μ μ20 := z0.tr ez7
                exact pk_some z7
              · refine pk_bw (w_X12_whole a2 μ) (fun μ22 ez8 => ?_)
                have z8 : Tz μ μ22 := z0.tr ez8
                exact pk_some z8
theorem w_X12_goAll_b0 : ∀ (n : Nat) (μ : Mem), pk (p_X12_goAll_b0  n μ) (fun q => Tz μ q) := by
  intro n
  induction n with
  | zero => intro μ r e; rw [p_X12_goAll_b0_z] at e; cases e
  | succ n ih =>
    intro μ
    have z0 : Tz μ μ := Tz.rf
    rw [p_X12_goAll_b0_s]
    refine pk_ite (fun _ => ?_) (fun _ => ?_)
    · exact pk_some z0
    · refine pk_ite (fun _ => ?_) (fun _ => ?_)
      · refine pk_bvy (fun μ3 ez1 => ?_)
        have z1 : Tz μ μ3 := by rw [ez1]; exact z0.sF (pz_f (by decide))
        refine pk_gd (fun _ => ?_)
        refine pk_gd (fun _ => ?_)
        refine pk_gd (fun _ => ?_)
        refine pk_bw (w_X12_goOne (μ3.1 37 (μ3.1 0 65).toNatClampNeg) (μ3.1 38 (μ3.1 0 65).toNatClampNeg) (μ3.1 39 (μ3.1 0 65).toNatClampNeg) μ3) (fun μ4 ez2 => ?_)
        have z2 : Tz μ μ4 := z1.tr ez2
        exact pk_mono (ih μ4) (fun _ hq => z2.tr hq)
      · exact pk_some z0
theorem w_X12_goAll (μ : Mem) : pk (p_X12_goAll μ) (fun q => Tz μ q) := by
  have z0 : Tz μ μ := Tz.rf
  rw [p_X12_goAll_eq]
  exact pk_mono (w_X12_goAll_b0 FUEL μ) (fun _ hq => z0.tr hq)
theorem w_X12_makeVariant_b137 : ∀ (n : Nat) (a1 : Int32) (a3 : Int32) (a4 : Int32) (μ : Mem), pk (p_X12_makeVariant_b137  n a1 a3 a4 μ) (fun q => Tz μ q) := by
  intro n
  induction n with
  | zero => intro a1 a3 a4 μ r e; rw [p_X12_makeVariant_b137_z] at e; cases e
  | succ n ih =>
    intro a1 a3 a4 μ
    have z0 : Tz μ μ := Tz.rf
    rw [p_X12_makeVariant_b137_s]
    refine pk_gd (fun _ => ?_)
    refine pk_ite (fun _ => ?_) (fun _ => ?_)
    · refine pk_gd (fun _ => ?_)
      refine pk_bw (w_X12_push (0 : Int32) (μ.1 5 a3.toNatClampNeg) (0 : Int32) μ) (fun μ14 ez1 => ?_)
      have z1 : Tz μ μ14 := z0.tr ez1
      refine pk_bw (w_X12_goAll μ14) (fun μ16 ez2 => ?_)
      have z2 : Tz μ μ16 := z1.tr ez2
      refine pk_ite (fun _ => ?_) (fun _ => ?_)
      · refine pk_bd (w_X12_gone μ16) (fun r20 μ19 ez3 => ?_)
        have z3 : Tz μ μ19 := z2.tr ez3
        refine pk_bd (w_X12_lift r20 μ19) (fun r22 μ21 ez4 => ?_)
        have z4 : Tz μ μ21 := z3.tr ez4
        refine pk_gd (fun _ => ?_)
        refine pk_bvy (fun μ23 ez5 => ?_)
        have z5 : Tz μ μ23 := by rw [ez5]; exact z4.sF (pz_a (by decide) (by decide))
        refine pk_gd (fun _ => ?_)
        refine pk_bvy (fun μ24 ez6 => ?_)
        have z6 : Tz μ μ24 := by rw [ez6]; exact z5.sF (pz_a (by decide) (by decide))
        refine pk_gd (fun _ => ?_)
        refine pk_gd (fun _ => ?_)
        refine pk_bvy (fun μ25 ez7 => ?_)
        have z7 : Tz μ μ25 := by rw [ez7]; exact z6.sF (pz_a (by decide) (by decide))
        refine pk_gd (fun _ => ?_)
        refine pk_gd (fun _ => ?_)
        refine pk_bvy (fun μ26 ez8 => ?_)
        have z8 : Tz μ μ26 := by rw [ez8]; exact z7.sF (pz_a (by decide) (by decide))
        refine pk_bvy (fun μ27 ez9 => ?_)
        have z9 : Tz μ μ27 := by rw [ez9]; exact z8.sF (pz_f (by decide))
        refine pk_gd (fun _ => ?_)
        refine pk_bvy (fun μ28 ez10 => ?_)
        have z10 : Tz μ μ28 := by rw [ez10]; exact z9.sF (pz_a (by decide) (by decide))
        exact pk_some z10
      · exact pk_some z2
    · refine pk_gd (fun _ => ?_)
      refine pk_bd (w_X12_unbuild μ) (fun r30 μ29 ez11 => ?_)
      have z11 : Tz μ μ29 := z0.tr ez11
      refine pk_gd (fun _ => ?_)
      refine pk_bvy (fun μ31 ez12 => ?_)
      have z12 : Tz μ μ31 := by rw [ez12]; exact z11.sF (pz_a (by decide) (by decide))
      refine pk_bvy (fun v32 _ => ?_)
      exact pk_mono (ih a1 a3 v32 μ31) (fun _ hq => z12.tr hq)
theorem w_X12_makeVariant_b118 (K61 : Int32 → Int32 → Int32 → Mem → Option Mem) (hK61 : ∀ (y0 : Int32) (y1 : Int32) (y2 : Int32) (y3 : Mem), pk (K61 y0 y1 y2 y3) (fun q => Tz y3 q)) (a1 : Int32) (a2 : Int32) (a3 : Int32) (k0 : Int32) (k1 : Int32) (μ : Mem) : pk (p_X12_makeVariant_b118 K61 a1 a2 a3 k0 k1 μ) (fun q => Tz μ q) := by
  have z0 : Tz μ μ := Tz.rf
  rw [p_X12_makeVariant_b118_eq]
  refine pk_bw (w_X12_buildOne k1 k0 μ) (fun μ37 ez1 => ?_)
  have z1 : Tz μ μ37 := z0.tr ez1
  refine pk_bvy (fun v39 _ => ?_)
  exact pk_mono (hK61 a1 a2 v39 μ37) (fun _ hq => z1.tr hq)
theorem w_X12_makeVariant_b91 (K61 : Int32 → Int32 → Int32 → Mem → Option Mem) (hK61 : ∀ (y0 : Int32) (y1 : Int32) (y2 : Int32) (y3 : Mem), pk (K61 y0 y1 y2 y3) (fun q => Tz y3 q)) (a1 : Int32) (a3 : Int32) (a4 : Int32) (k0 : Int32) (k1 : Int32) (μ : Mem) : pk (p_X12_makeVariant_b91 K61 a1 a3 a4 k0 k1 μ) (fun q => Tz μ q) := by
  have z0 : Tz μ μ := Tz.rf
  rw [p_X12_makeVariant_b91_eq]
  refine pk_bvy (fun v35 _ => ?_)
  refine pk_ite (fun _ => ?_) (fun _ => ?_)
  · exact pk_mono (w_X12_makeVariant_b118 K61 hK61 a1 v35 a3 v35 a4 μ) (fun _ hq => z0.tr hq)
  · refine pk_gd (fun _ => ?_)
    exact pk_mono (w_X12_makeVariant_b118 K61 hK61 a1 v35 a3 (μ.1 61 (((210 : Int32) * a1) + a3).toNatClampNeg) a4 μ) (fun _ hq => z0.tr hq)
theorem w_X12_makeVariant_b61 : ∀ (n : Nat) (a1 : Int32) (a2 : Int32) (a3 : Int32) (μ : Mem), pk (p_X12_makeVariant_b61  n a1 a2 a3 μ) (fun q => Tz μ q) := by
  intro n
  induction n with
  | zero => intro a1 a2 a3 μ r e; rw [p_X12_makeVariant_b61_z] at e; cases e
  | succ n ih =>
    intro a1 a2 a3 μ
    have z0 : Tz μ μ := Tz.rf
    rw [p_X12_makeVariant_b61_s]
    refine pk_ite (fun _ => ?_) (fun _ => ?_)
    · refine pk_gd (fun _ => ?_)
      refine pk_bvy (fun v12 _ => ?_)
      exact pk_mono (w_X12_makeVariant_b137 FUEL a1 v12 (0 : Int32) μ) (fun _ hq => z0.tr hq)
    · refine pk_gd (fun _ => ?_)
      refine pk_bvy (fun v33 _ => ?_)
      refine pk_ite (fun _ => ?_) (fun _ => ?_)
      · exact pk_mono (w_X12_makeVariant_b91 (p_X12_makeVariant_b61  n) ih a1 a3 v33 (1 : Int32) a2 μ) (fun _ hq => z0.tr hq)
      · exact pk_mono (w_X12_makeVariant_b91 (p_X12_makeVariant_b61  n) ih a1 a3 v33 (0 : Int32) a2 μ) (fun _ hq => z0.tr hq)
theorem w_X12_makeVariant (a1 : Int32) (μ : Mem) : pk (p_X12_makeVariant a1 μ) (fun q => Tz μ q) := by
  have z0 : Tz μ μ := Tz.rf
  rw [p_X12_makeVariant_eq]
  refine pk_bw (w_X12_begin (1 : Int32) μ) (fun μ1 ez1 => ?_)
  have z1 : Tz μ μ1 := z0.tr ez1
  refine pk_bvy (fun μ3 ez2 => ?_)
  have z2 : Tz μ μ3 := by rw [ez2]; exact z1.sF (pz_f (by decide))
  refine pk_bvy (fun μ4 ez3 => ?_)
  have z3 : Tz μ μ4 := by rw [ez3]; exact z2.sF (pz_f (by decide))
  refine pk_bvy (fun μ5 ez4 => ?_)
  have z4 : Tz μ μ5 := by rw [ez4]; exact z3.sF (pz_f (by decide))
  refine pk_gd (fun _ => ?_)
  refine pk_bvy (fun μ6 ez5 => ?_)
  have z5 : Tz μ μ6 := by rw [ez5]; exact z4.sF (pz_f (by decide))
  refine pk_gd (fun _ => ?_)
  refine pk_bvy (fun μ7 ez6 => ?_)
  have z6 : Tz μ μ7 := by rw [ez6]; exact z5.sF (pz_a (by decide) (by decide))
  refine pk_gd (fun _ => ?_)
  refine pk_bvy (fun v8 _ => ?_)
  refine pk_bvy (fun μ9 ez7 => ?_)
  have z7 : Tz μ μ9 := by rw [ez7]; exact z6.sF (pz_f (by decide))
  refine pk_gd (fun _ => ?_)
  refine pk_bvy (fun v10 _ => ?_)
  exact pk_mono (w_X12_makeVariant_b61 FUEL a1 v8 v10 μ9) (fun _ hq => z7.tr hq)
theorem w_X12_buildTask_b84 : ∀ (n : Nat) (a3 : Int32) (μ : Mem), pk (p_X12_buildTask_b84  n a3 μ) (fun q => Tz μ q) := by
  intro n
  induction n with
  | zero => intro a3 μ r e; rw [p_X12_buildTask_b84_z] at e; cases e
  | succ n ih =>
    intro a3 μ
    have z0 : Tz μ μ := Tz.rf
    rw [p_X12_buildTask_b84_s]
    refine pk_ite (fun _ => ?_) (fun _ => ?_)
    · exact pk_some z0
    · refine pk_bd (w_X12_unbuild μ) (fun r7 μ6 ez1 => ?_)
      have z1 : Tz μ μ6 := z0.tr ez1
      refine pk_gd (fun _ => ?_)
      refine pk_bvy (fun μ8 ez2 => ?_)
      have z2 : Tz μ μ8 := by rw [ez2]; exact z1.sF (pz_a (by decide) (by decide))
      refine pk_bvy (fun v9 _ => ?_)
      exact pk_mono (ih v9 μ8) (fun _ hq => z2.tr hq)
theorem w_X12_buildTask_b76 (K17 : Int32 → Int32 → Int32 → Mem → Option Mem) (hK17 : ∀ (y0 : Int32) (y1 : Int32) (y2 : Int32) (y3 : Mem), pk (K17 y0 y1 y2 y3) (fun q => Tz y3 q)) (a1 : Int32) (a2 : Int32) (a3 : Int32) (μ : Mem) : pk (p_X12_buildTask_b76 K17 a1 a2 a3 μ) (fun q => Tz μ q) := by
  have z0 : Tz μ μ := Tz.rf
  rw [p_X12_buildTask_b76_eq]
  refine pk_bvy (fun v17 _ => ?_)
  exact pk_mono (hK17 a1 a2 v17 μ) (fun _ hq => z0.tr hq)
theorem w_X12_buildTask_b73 (K17 : Int32 → Int32 → Int32 → Mem → Option Mem) (hK17 : ∀ (y0 : Int32) (y1 : Int32) (y2 : Int32) (y3 : Mem), pk (K17 y0 y1 y2 y3) (fun q => Tz y3 q)) (a1 : Int32) (a2 : Int32) (a3 : Int32) (k0 : Int32) (μ : Mem) : pk (p_X12_buildTask_b73 K17 a1 a2 a3 k0 μ) (fun q => Tz μ q) := by
  have z0 : Tz μ μ := Tz.rf
  rw [p_X12_buildTask_b73_eq]
  refine pk_bw (w_X12_build k0 μ) (fun μ15 ez1 => ?_)
  have z1 : Tz μ μ15 := z0.tr ez1
  exact pk_mono (w_X12_buildTask_b76 K17 hK17 a1 a2 a3 μ15) (fun _ hq => z1.tr hq)
theorem w_X12_buildTask_b17 : ∀ (n : Nat) (a1 : Int32) (a2 : Int32) (a3 : Int32) (μ : Mem), pk (p_X12_buildTask_b17  n a1 a2 a3 μ) (fun q => Tz μ q) := by
  intro n
  induction n with
  | zero => intro a1 a2 a3 μ r e; rw [p_X12_buildTask_b17_z] at e; cases e
  | succ n ih =>
    intro a1 a2 a3 μ
    have z0 : Tz μ μ := Tz.rf
    rw [p_X12_buildTask_b17_s]
    refine pk_ite (fun _ => ?_) (fun _ => ?_)
    · exact pk_mono (w_X12_buildTask_b84 FUEL (0 : Int32) μ) (fun _ hq => z0.tr hq)
    · refine pk_gd (fun _ => ?_)
      refine pk_ite (fun _ => ?_) (fun _ => ?_)
      · refine pk_bvy (fun v11 _ => ?_)
        refine pk_ite (fun _ => ?_) (fun _ => ?_)
        · refine pk_bd (w_X12_node (3 : Int32) v11 μ) (fun r14 μ13 ez1 => ?_)
          have z1 : Tz μ μ13 := z0.tr ez1
          exact pk_mono (w_X12_buildTask_b73 (p_X12_buildTask_b17  n) ih a1 v11 a3 r14 μ13) (fun _ hq => z1.tr hq)
        · refine pk_gd (fun _ => ?_)
          exact pk_mono (w_X12_buildTask_b73 (p_X12_buildTask_b17  n) ih a1 v11 a3 (μ.1 36 v11.toNatClampNeg) μ) (fun _ hq => z0.tr hq)
      · refine pk_gd (fun _ => ?_)
        refine pk_gd (fun _ => ?_)
        refine pk_bw (w_X12_buildOne (μ.1 25 a3.toNatClampNeg) (μ.1 26 a3.toNatClampNeg) μ) (fun μ18 ez2 => ?_)
        have z2 : Tz μ μ18 := z0.tr ez2
        exact pk_mono (w_X12_buildTask_b76 (p_X12_buildTask_b17  n) ih a1 a2 a3 μ18) (fun _ hq => z2.tr hq)
theorem w_X12_buildTask (a1 : Int32) (μ : Mem) : pk (p_X12_buildTask a1 μ) (fun q => Tz μ q) := by
  have z0 : Tz μ μ := Tz.rf
  rw [p_X12_buildTask_eq]
  refine pk_bvy (fun v1 _ => ?_)
  refine pk_bvy (fun μ2 ez1 => ?_)
  have z1 : Tz μ μ2 := by rw [ez1]; exact z0.sF (pz_f (by decide))
  refine pk_bvy (fun v3 _ => ?_)
  exact pk_mono (w_X12_buildTask_b17 FUEL a1 v1 v3 μ2) (fun _ hq => z1.tr hq)
theorem w_X12_specialiseNow_b92 : ∀ (n : Nat) (a3 : Int32) (μ : Mem), pk (p_X12_specialiseNow_b92  n a3 μ) (fun q => Tz μ q) := by
  intro n
  induction n with
  | zero => intro a3 μ r e; rw [p_X12_specialiseNow_b92_z] at e; cases e
  | succ n ih =>
    intro a3 μ
    have z0 : Tz μ μ := Tz.rf
    rw [p_X12_specialiseNow_b92_s]
    refine pk_ite (fun _ => ?_) (fun _ => ?_)
    · exact pk_some z0
    · refine pk_ite (fun _ => ?_) (fun _ => ?_)
      · refine pk_bvy (fun μ21 ez1 => ?_)
        have z1 : Tz μ μ21 := by rw [ez1]; exact z0.sF (pz_f (by decide))
        refine pk_bw (w_X12_makeVariant a3 μ21) (fun μ22 ez2 => ?_)
        have z2 : Tz μ μ22 := z1.tr ez2
        refine pk_bvy (fun v24 _ => ?_)
        exact pk_mono (ih v24 μ22) (fun _ hq => z2.tr hq)
      · exact pk_some z0
theorem w_X12_specialiseNow (μ : Mem) : pk (p_X12_specialiseNow μ) (fun q => Tz μ q) := by
  have z0 : Tz μ μ := Tz.rf
  rw [p_X12_specialiseNow_eq]
  refine pk_bvy (fun μ1 ez1 => ?_)
  have z1 : Tz μ μ1 := by rw [ez1]; exact z0.sF (pz_f (by decide))
  refine pk_bvy (fun μ2 ez2 => ?_)
  have z2 : Tz μ μ2 := by rw [ez2]; exact z1.sF (pz_f (by decide))
  refine pk_bvy (fun μ3 ez3 => ?_)
  have z3 : Tz μ μ3 := by rw [ez3]; exact z2.sF (pz_f (by decide))
  refine pk_bvy (fun μ4 ez4 => ?_)
  have z4 : Tz μ μ4 := by rw [ez4]; exact z3.sF (pz_f (by decide))
  refine pk_bvy (fun μ5 ez5 => ?_)
  have z5 : Tz μ μ5 := by rw [ez5]; exact z4.sF (pz_f (by decide))
  refine pk_bvy (fun μ6 ez6 => ?_)
  have z6 : Tz μ μ6 := by rw [ez6]; exact z5.sF (pz_f (by decide))
  refine pk_bvy (fun μ7 ez7 => ?_)
  have z7 : Tz μ μ7 := by rw [ez7]; exact z6.sF (pz_f (by decide))
  refine pk_bvy (fun μ8 ez8 => ?_)
  have z8 : Tz μ μ8 := by rw [ez8]; exact z7.sF (pz_f (by decide))
  refine pk_bvy (fun μ9 ez9 => ?_)
  have z9 : Tz μ μ9 := by rw [ez9]; exact z8.sF (pz_f (by decide))
  refine pk_bd (w_X12_functionOf (μ9.1 0 42) (μ9.1 0 43) μ9) (fun r11 μ10 ez10 => ?_)
  have z10 : Tz μ μ10 := z9.tr ez10
  refine pk_ite (fun _ => ?_) (fun _ => ?_)
  · refine pk_bvy (fun μ25 ez11 => ?_)
    have z11 : Tz μ μ25 := by rw [ez11]; exact z10.sF (pz_f (by decide))
    exact pk_some z11
  · refine pk_bw (w_X12_buildTask (0 : Int32) μ10) (fun μ13 ez12 => ?_)
    have z12 : Tz μ μ13 := z10.tr ez12
    refine pk_bw (w_X12_layMade (μ13.1 0 43) μ13) (fun μ15 ez13 => ?_)
    have z13 : Tz μ μ15 := z12.tr ez13
    refine pk_bd (w_X12_newVariant r11 (-1 : Int32) μ15) (fun r18 μ17 ez14 => ?_)
    have z14 : Tz μ μ17 := z13.tr ez14
    exact pk_mono (w_X12_specialiseNow_b92 FUEL (0 : Int32) μ17) (fun _ hq => z14.tr hq)
theorem w_X12_specialise_b17 (k0 : Int32) (μ : Mem) : pk (p_X12_specialise_b17 k0 μ) (fun q => Tz μ q.2) := by
  have z0 : Tz μ μ := Tz.rf
  rw [p_X12_specialise_b17_eq]
  refine pk_gd (fun _ => ?_)
  refine pk_bvy (fun μ4 ez1 => ?_)
  have z1 : Tz μ μ4 := by rw [ez1]; exact z0.sF (pz_f (by decide))
  refine pk_ite (fun _ => ?_) (fun _ => ?_)
  · exact pk_some z1
  · exact pk_some z1
theorem w_X12_specialise (μ : Mem) : pk (p_X12_specialise μ) (fun q => Tz μ q.2) := by
  have z0 : Tz μ μ := Tz.rf
  rw [p_X12_specialise_eq]
  refine pk_bw (w_X12_specialiseNow μ) (fun μ1 ez1 => ?_)
  have z1 : Tz μ μ1 := z0.tr ez1
  refine pk_ite (fun _ => ?_) (fun _ => ?_)
  · exact pk_mono (w_X12_specialise_b17 (1 : Int32) μ1) (fun _ hq => z1.tr hq)
  · exact pk_mono (w_X12_specialise_b17 (0 : Int32) μ1) (fun _ hq => z1.tr hq)
theorem w_X12_countKind_b38 (K10 : Int32 → Int32 → Int32 → Int32 → Mem → Option (Int32 × Mem)) (hK10 : ∀ (y0 : Int32) (y1 : Int32) (y2 : Int32) (y3 : Int32) (y4 : Mem), pk (K10 y0 y1 y2 y3 y4) (fun q => Tz y4 q.2)) (a1 : Int32) (a2 : Int32) (a4 : Int32) (k0 : Int32) (k1 : Int32) (μ : Mem) : pk (p_X12_countKind_b38 K10 a1 a2 a4 k0 k1 μ) (fun q => Tz μ q.2) := by
  have z0 : Tz μ μ := Tz.rf
  rw [p_X12_countKind_b38_eq]
  refine pk_bvy (fun v4 _ => ?_)
  refine pk_bvy (fun v5 _ => ?_)
  exact pk_mono (hK10 a1 a2 v4 v5 μ) (fun _ hq => z0.tr hq)
theorem w_X12_countKind_b10 : ∀ (n : Nat) (a1 : Int32) (a2 : Int32) (a3 : Int32) (a4 : Int32) (μ : Mem), pk (p_X12_countKind_b10  n a1 a2 a3 a4 μ) (fun q => Tz μ q.2) := by
  intro n
  induction n with
  | zero => intro a1 a2 a3 a4 μ r e; rw [p_X12_countKind_b10_z] at e; cases e
  | succ n ih =>
    intro a1 a2 a3 a4 μ
    have z0 : Tz μ μ := Tz.rf
    rw [p_X12_countKind_b10_s]
    refine pk_gd (fun _ => ?_)
    refine pk_ite (fun _ => ?_) (fun _ => ?_)
    · exact pk_some z0
    · refine pk_gd (fun _ => ?_)
      refine pk_ite (fun _ => ?_) (fun _ => ?_)
      · exact pk_mono (w_X12_countKind_b38 (p_X12_countKind_b10  n) ih a1 a2 a4 (1 : Int32) a3 μ) (fun _ hq => z0.tr hq)
      · exact pk_mono (w_X12_countKind_b38 (p_X12_countKind_b10  n) ih a1 a2 a4 (0 : Int32) a3 μ) (fun _ hq => z0.tr hq)
theorem w_X12_countKind (a1 : Int32) (a2 : Int32) (μ : Mem) : pk (p_X12_countKind a1 a2 μ) (fun q => Tz μ q.2) := by
  have z0 : Tz μ μ := Tz.rf
  rw [p_X12_countKind_eq]
  refine pk_gd (fun _ => ?_)
  refine pk_bvy (fun v1 _ => ?_)
  exact pk_mono (w_X12_countKind_b10 FUEL a1 a2 (0 : Int32) v1 μ) (fun _ hq => z0.tr hq)
theorem w_X12_countAll_b4 : ∀ (n : Nat) (a1 : Int32) (a2 : Int32) (a3 : Int32) (μ : Mem), pk (p_X12_countAll_b4  n a1 a2 a3 μ) (fun q => Tz μ q.2) := by
  intro n
  induction n with
  | zero => intro a1 a2 a3 μ r e; rw [p_X12_countAll_b4_z] at e; cases e
  | succ n ih =>
    intro a1 a2 a3 μ
    have z0 : Tz μ μ := Tz.rf
    rw [p_X12_countAll_b4_s]
    refine pk_ite (fun _ => ?_) (fun _ => ?_)
    · exact pk_some z0
    · refine pk_bd (w_X12_countKind a3 a1 μ) (fun r3 μ2 ez1 => ?_)
      have z1 : Tz μ μ2 := z0.tr ez1
      refine pk_bvy (fun v4 _ => ?_)
      refine pk_bvy (fun v5 _ => ?_)
      exact pk_mono (ih a1 v4 v5 μ2) (fun _ hq => z1.tr hq)
theorem w_X12_countAll (a1 : Int32) (μ : Mem) : pk (p_X12_countAll a1 μ) (fun q => Tz μ q.2) := by
  have z0 : Tz μ μ := Tz.rf
  rw [p_X12_countAll_eq]
  exact pk_mono (w_X12_countAll_b4 FUEL a1 (0 : Int32) (0 : Int32) μ) (fun _ hq => z0.tr hq)
theorem w_X12_residue (a1 : Int32) (μ : Mem) : pk (p_X12_residue a1 μ) (fun q => Tz μ q.2) := by
  have z0 : Tz μ μ := Tz.rf
  rw [p_X12_residue_eq]
  refine pk_ite (fun _ => ?_) (fun _ => ?_)
  · exact pk_some z0
  · refine pk_ite (fun _ => ?_) (fun _ => ?_)
    · exact pk_some z0
    · refine pk_ite (fun _ => ?_) (fun _ => ?_)
      · exact pk_some z0
      · refine pk_ite (fun _ => ?_) (fun _ => ?_)
        · exact pk_some z0
        · refine pk_ite (fun _ => ?_) (fun _ => ?_)
          · refine pk_bd (w_X12_countAll (11 : Int32) μ) (fun r8 μ7 ez1 => ?_)
            have z1 : Tz μ μ7 := z0.tr ez1
            exact pk_some z1
          · refine pk_ite (fun _ => ?_) (fun _ => ?_)
            · refine pk_bd (w_X12_countAll (7 : Int32) μ) (fun r11 μ10 ez2 => ?_)
              have z2 : Tz μ μ10 := z0.tr ez2
              exact pk_some z2
            · refine pk_ite (fun _ => ?_) (fun _ => ?_)
              · refine pk_bd (w_X12_countAll (8 : Int32) μ) (fun r14 μ13 ez3 => ?_)
                have z3 : Tz μ μ13 := z0.tr ez3
                refine pk_bd (w_X12_countAll (9 : Int32) μ13) (fun r16 μ15 ez4 => ?_)
                have z4 : Tz μ μ15 := z3.tr ez4
                exact pk_some z4
              · refine pk_ite (fun _ => ?_) (fun _ => ?_)
                · refine pk_bd (w_X12_countAll (10 : Int32) μ) (fun r19 μ18 ez5 => ?_)
                  have z5 : Tz μ μ18 := z0.tr ez5
                  exact pk_some z5
                · refine pk_ite (fun _ => ?_) (fun _ => ?_)
                  · refine pk_bd (w_X12_countAll (6 : Int32) μ) (fun r22 μ21 ez6 => ?_)
                    have z6 : Tz μ μ21 := z0.tr ez6
                    exact pk_some z6
                  · refine pk_ite (fun _ => ?_) (fun _ => ?_)
                    · exact pk_some z0
                    · refine pk_ite (fun _ => ?_) (fun _ => ?_)
                      · exact pk_some z0
                      · exact pk_some z0
theorem w_X12_isVariant (a1 : Int32) (μ : Mem) : pk (p_X12_isVariant a1 μ) (fun q => Tz μ q.2) := by
  have z0 : Tz μ μ := Tz.rf
  rw [p_X12_isVariant_eq]
  refine pk_ite (fun _ => ?_) (fun _ => ?_)
  · exact pk_some z0
  · refine pk_ite (fun _ => ?_) (fun _ => ?_)
    · exact pk_some z0
    · exact pk_some z0
theorem w_X12_knownIn_b42 (K8 : Int32 → Int32 → Int32 → Mem → Option (Int32 × Mem)) (hK8 : ∀ (y0 : Int32) (y1 : Int32) (y2 : Int32) (y3 : Mem), pk (K8 y0 y1 y2 y3) (fun q => Tz y3 q.2)) (a1 : Int32) (a3 : Int32) (k0 : Int32) (k1 : Int32) (μ : Mem) : pk (p_X12_knownIn_b42 K8 a1 a3 k0 k1 μ) (fun q => Tz μ q.2) := by
  have z0 : Tz μ μ := Tz.rf
  rw [p_X12_knownIn_b42_eq]
  refine pk_bvy (fun v4 _ => ?_)
  refine pk_bvy (fun v5 _ => ?_)
  exact pk_mono (hK8 a1 v4 v5 μ) (fun _ hq => z0.tr hq)
theorem w_X12_knownIn_b8 : ∀ (n : Nat) (a1 : Int32) (a2 : Int32) (a3 : Int32) (μ : Mem), pk (p_X12_knownIn_b8  n a1 a2 a3 μ) (fun q => Tz μ q.2) := by
  intro n
  induction n with
  | zero => intro a1 a2 a3 μ r e; rw [p_X12_knownIn_b8_z] at e; cases e
  | succ n ih =>
    intro a1 a2 a3 μ
    have z0 : Tz μ μ := Tz.rf
    rw [p_X12_knownIn_b8_s]
    refine pk_gd (fun _ => ?_)
    refine pk_ite (fun _ => ?_) (fun _ => ?_)
    · exact pk_some z0
    · refine pk_gd (fun _ => ?_)
      refine pk_ite (fun _ => ?_) (fun _ => ?_)
      · exact pk_mono (w_X12_knownIn_b42 (p_X12_knownIn_b8  n) ih a1 a3 (0 : Int32) a2 μ) (fun _ hq => z0.tr hq)
      · exact pk_mono (w_X12_knownIn_b42 (p_X12_knownIn_b8  n) ih a1 a3 (1 : Int32) a2 μ) (fun _ hq => z0.tr hq)
theorem w_X12_knownIn (a1 : Int32) (μ : Mem) : pk (p_X12_knownIn a1 μ) (fun q => Tz μ q.2) := by
  have z0 : Tz μ μ := Tz.rf
  rw [p_X12_knownIn_eq]
  refine pk_bvy (fun v1 _ => ?_)
  exact pk_mono (w_X12_knownIn_b8 FUEL a1 (0 : Int32) v1 μ) (fun _ hq => z0.tr hq)
theorem w_X12_callsOf_b39 (K4 : Int32 → Int32 → Int32 → Mem → Option (Int32 × Mem)) (hK4 : ∀ (y0 : Int32) (y1 : Int32) (y2 : Int32) (y3 : Mem), pk (K4 y0 y1 y2 y3) (fun q => Tz y3 q.2)) (a1 : Int32) (a3 : Int32) (k0 : Int32) (k1 : Int32) (μ : Mem) : pk (p_X12_callsOf_b39 K4 a1 a3 k0 k1 μ) (fun q => Tz μ q.2) := by
  have z0 : Tz μ μ := Tz.rf
  rw [p_X12_callsOf_b39_eq]
  refine pk_bvy (fun v3 _ => ?_)
  refine pk_bvy (fun v4 _ => ?_)
  exact pk_mono (hK4 a1 v3 v4 μ) (fun _ hq => z0.tr hq)
theorem w_X12_callsOf_b38 (K4 : Int32 → Int32 → Int32 → Mem → Option (Int32 × Mem)) (hK4 : ∀ (y0 : Int32) (y1 : Int32) (y2 : Int32) (y3 : Mem), pk (K4 y0 y1 y2 y3) (fun q => Tz y3 q.2)) (a1 : Int32) (a3 : Int32) (k0 : Int32) (μ : Mem) : pk (p_X12_callsOf_b38 K4 a1 a3 k0 μ) (fun q => Tz μ q.2) := by
  have z0 : Tz μ μ := Tz.rf
  rw [p_X12_callsOf_b38_eq]
  exact pk_mono (w_X12_callsOf_b39 K4 hK4 a1 a3 (0 : Int32) k0 μ) (fun _ hq => z0.tr hq)
theorem w_X12_callsOf_b4 : ∀ (n : Nat) (a1 : Int32) (a2 : Int32) (a3 : Int32) (μ : Mem), pk (p_X12_callsOf_b4  n a1 a2 a3 μ) (fun q => Tz μ q.2) := by
  intro n
  induction n with
  | zero => intro a1 a2 a3 μ r e; rw [p_X12_callsOf_b4_z] at e; cases e
  | succ n ih =>
    intro a1 a2 a3 μ
    have z0 : Tz μ μ := Tz.rf
    rw [p_X12_callsOf_b4_s]
    refine pk_ite (fun _ => ?_) (fun _ => ?_)
    · exact pk_some z0
    · refine pk_gd (fun _ => ?_)
      refine pk_ite (fun _ => ?_) (fun _ => ?_)
      · refine pk_gd (fun _ => ?_)
        refine pk_ite (fun _ => ?_) (fun _ => ?_)
        · exact pk_mono (w_X12_callsOf_b39 (p_X12_callsOf_b4  n) ih a1 a3 (1 : Int32) a2 μ) (fun _ hq => z0.tr hq)
        · exact pk_mono (w_X12_callsOf_b38 (p_X12_callsOf_b4  n) ih a1 a3 a2 μ) (fun _ hq => z0.tr hq)
      · exact pk_mono (w_X12_callsOf_b38 (p_X12_callsOf_b4  n) ih a1 a3 a2 μ) (fun _ hq => z0.tr hq)
theorem w_X12_callsOf (a1 : Int32) (μ : Mem) : pk (p_X12_callsOf a1 μ) (fun q => Tz μ q.2) := by
  have z0 : Tz μ μ := Tz.rf
  rw [p_X12_callsOf_eq]
  exact pk_mono (w_X12_callsOf_b4 FUEL a1 (0 : Int32) (0 : Int32) μ) (fun _ hq => z0.tr hq)
theorem w_X12_instructionsOf (a1 : Int32) (μ : Mem) : pk (p_X12_instructionsOf a1 μ) (fun q => Tz μ q.2) := by
  have z0 : Tz μ μ := Tz.rf
  rw [p_X12_instructionsOf_eq]
  refine pk_gd (fun _ => ?_)
  refine pk_gd (fun _ => ?_)
  refine pk_bd (w_X12_countKind a1 (13 : Int32) μ) (fun r2 μ1 ez1 => ?_)
  have z1 : Tz μ μ1 := z0.tr ez1
  refine pk_bd (w_X12_countKind a1 (14 : Int32) μ1) (fun r4 μ3 ez2 => ?_)
  have z2 : Tz μ μ3 := z1.tr ez2
  exact pk_some z2
theorem w_X12_variant (a1 : Int32) (a2 : Int32) (μ : Mem) : pk (p_X12_variant a1 a2 μ) (fun q => Tz μ q.2) := by
  have z0 : Tz μ μ := Tz.rf
  rw [p_X12_variant_eq]
  refine pk_bd (w_X12_isVariant a1 μ) (fun r2 μ1 ez1 => ?_)
  have z1 : Tz μ μ1 := z0.tr ez1
  refine pk_ite (fun _ => ?_) (fun _ => ?_)
  · exact pk_some z1
  · refine pk_ite (fun _ => ?_) (fun _ => ?_)
    · refine pk_gd (fun _ => ?_)
      refine pk_gd (fun _ => ?_)
      exact pk_some z1
    · refine pk_ite (fun _ => ?_) (fun _ => ?_)
      · refine pk_gd (fun _ => ?_)
        exact pk_some z1
      · refine pk_ite (fun _ => ?_) (fun _ => ?_)
        · refine pk_gd (fun _ => ?_)
          exact pk_some z1
        · refine pk_ite (fun _ => ?_) (fun _ => ?_)
          · refine pk_bd (w_X12_instructionsOf a1 μ1) (fun r10 μ9 ez2 => ?_)
            have z2 : Tz μ μ9 := z1.tr ez2
            exact pk_some z2
          · refine pk_ite (fun _ => ?_) (fun _ => ?_)
            · refine pk_gd (fun _ => ?_)
              exact pk_some z1
            · refine pk_ite (fun _ => ?_) (fun _ => ?_)
              · refine pk_bd (w_X12_callsOf a1 μ1) (fun r14 μ13 ez3 => ?_)
                have z3 : Tz μ μ13 := z1.tr ez3
                exact pk_some z3
              · refine pk_ite (fun _ => ?_) (fun _ => ?_)
                · refine pk_bd (w_X12_knownIn a1 μ1) (fun r17 μ16 ez4 => ?_)
                  have z4 : Tz μ μ16 := z1.tr ez4
                  exact pk_some z4
                · exact pk_some z1
theorem w_X12_kinds (a1 : Int32) (a2 : Int32) (μ : Mem) : pk (p_X12_kinds a1 a2 μ) (fun q => Tz μ q.2) := by
  have z0 : Tz μ μ := Tz.rf
  rw [p_X12_kinds_eq]
  refine pk_bd (w_X12_isVariant a1 μ) (fun r2 μ1 ez1 => ?_)
  have z1 : Tz μ μ1 := z0.tr ez1
  refine pk_ite (fun _ => ?_) (fun _ => ?_)
  · exact pk_some z1
  · refine pk_ite (fun _ => ?_) (fun _ => ?_)
    · exact pk_some z1
    · refine pk_bd (w_X12_countKind a1 a2 μ1) (fun r6 μ5 ez2 => ?_)
      have z2 : Tz μ μ5 := z1.tr ez2
      exact pk_some z2
theorem w_X12_beginRun_b32 : ∀ (n : Nat) (a1 : Int32) (μ : Mem), pk (p_X12_beginRun_b32  n a1 μ) (fun q => Tz μ q) := by
  intro n
  induction n with
  | zero => intro a1 μ r e; rw [p_X12_beginRun_b32_z] at e; cases e
  | succ n ih =>
    intro a1 μ
    have z0 : Tz μ μ := Tz.rf
    rw [p_X12_beginRun_b32_s]
    refine pk_ite (fun _ => ?_) (fun _ => ?_)
    · refine pk_bw (w_X12_begin (0 : Int32) μ) (fun μ8 ez1 => ?_)
      have z1 : Tz μ μ8 := z0.tr ez1
      refine pk_bw (w_X12_buildLeaves μ8) (fun μ10 ez2 => ?_)
      have z2 : Tz μ μ10 := z1.tr ez2
      exact pk_some z2
    · refine pk_gd (fun _ => ?_)
      refine pk_bvy (fun μ12 ez3 => ?_)
      have z3 : Tz μ μ12 := by rw [ez3]; exact z0.sF (pz_a (by decide) (by decide))
      refine pk_bvy (fun v13 _ => ?_)
      exact pk_mono (ih v13 μ12) (fun _ hq => z3.tr hq)
theorem w_X12_beginRun (μ : Mem) : pk (p_X12_beginRun μ) (fun q => Tz μ q) := by
  have z0 : Tz μ μ := Tz.rf
  rw [p_X12_beginRun_eq]
  refine pk_bvy (fun μ1 ez1 => ?_)
  have z1 : Tz μ μ1 := by rw [ez1]; exact z0.sF (pz_f (by decide))
  refine pk_bvy (fun μ2 ez2 => ?_)
  have z2 : Tz μ μ2 := by rw [ez2]; exact z1.sF (pz_f (by decide))
  refine pk_bvy (fun μ3 ez3 => ?_)
  have z3 : Tz μ μ3 := by rw [ez3]; exact z2.sF (pz_f (by decide))
  refine pk_bvy (fun μ4 ez4 => ?_)
  have z4 : Tz μ μ4 := by rw [ez4]; exact z3.sF (pz_f (by decide))
  refine pk_bvy (fun μ5 ez5 => ?_)
  have z5 : Tz μ μ5 := by rw [ez5]; exact z4.sF (pz_f (by decide))
  refine pk_bvy (fun μ6 ez6 => ?_)
  have z6 : Tz μ μ6 := by rw [ez6]; exact z5.sF (pz_f (by decide))
  exact pk_mono (w_X12_beginRun_b32 FUEL (0 : Int32) μ6) (fun _ hq => z6.tr hq)
theorem w_X12_layRow_b66 (K9 : Int32 → Mem → Option Mem) (hK9 : ∀ (y0 : Int32) (y1 : Mem), pk (K9 y0 y1) (fun q => Tz y1 q)) (a2 : Int32) (a3 : Int32) (k0 : Int32) (k1 : Int32) (μ : Mem) : pk (p_X12_layRow_b66 K9 a2 a3 k0 k1 μ) (fun q => Tz μ q) := by
  have z0 : Tz μ μ := Tz.rf
  rw [p_X12_layRow_b66_eq]
  refine pk_gd (fun _ => ?_)
  refine pk_bvy (fun μ7 ez1 => ?_)
  have z1 : Tz μ μ7 := by rw [ez1]; exact z0.sF (pz_a (by decide) (by decide))
  refine pk_bvy (fun μ8 ez2 => ?_)
  have z2 : Tz μ μ8 := by rw [ez2]; exact z1.sF (pz_f (by decide))
  refine pk_gd (fun _ => ?_)
  refine pk_ite (fun _ => ?_) (fun _ => ?_)
  · refine pk_gd (fun _ => ?_)
    refine pk_gd (fun _ => ?_)
    refine pk_bvy (fun μ10 ez3 => ?_)
    have z3 : Tz μ μ10 := by rw [ez3]; exact z2.sF (pz_a (by decide) (by decide))
    refine pk_gd (fun _ => ?_)
    refine pk_gd (fun _ => ?_)
    refine pk_bvy (fun μ11 ez4 => ?_)
    have z4 : Tz μ μ11 := by rw [ez4]; exact z3.sF (pz_a (by decide) (by decide))
    refine pk_bvy (fun v12 _ => ?_)
    exact pk_mono (hK9 v12 μ11) (fun _ hq => z4.tr hq)
  · exact pk_mono (hK9 a2 μ8) (fun _ hq => z2.tr hq)
theorem w_X12_layRow_b9 : ∀ (n : Nat) (a2 : Int32) (μ : Mem), pk (p_X12_layRow_b9  n a2 μ) (fun q => Tz μ q) := by
  intro n
  induction n with
  | zero => intro a2 μ r e; rw [p_X12_layRow_b9_z] at e; cases e
  | succ n ih =>
    intro a2 μ
    have z0 : Tz μ μ := Tz.rf
    rw [p_X12_layRow_b9_s]
    refine pk_ite (fun _ => ?_) (fun _ => ?_)
    · exact pk_some z0
    · refine pk_bvy (fun v3 _ => ?_)
      refine pk_gd (fun _ => ?_)
      refine pk_bvy (fun v4 _ => ?_)
      refine pk_gd (fun _ => ?_)
      refine pk_gd (fun _ => ?_)
      refine pk_bvy (fun μ5 ez1 => ?_)
      have z1 : Tz μ μ5 := by rw [ez1]; exact z0.sF (pz_a (by decide) (by decide))
      refine pk_gd (fun _ => ?_)
      refine pk_ite (fun _ => ?_) (fun _ => ?_)
      · exact pk_mono (w_X12_layRow_b66 (p_X12_layRow_b9  n) ih v3 v4 (0 : Int32) (μ5.1 0 122) μ5) (fun _ hq => z1.tr hq)
      · refine pk_gd (fun _ => ?_)
        exact pk_mono (w_X12_layRow_b66 (p_X12_layRow_b9  n) ih v3 v4 (μ5.1 31 v4.toNatClampNeg) (μ5.1 0 122) μ5) (fun _ hq => z1.tr hq)
theorem w_X12_layRow (a1 : Int32) (μ : Mem) : pk (p_X12_layRow a1 μ) (fun q => Tz μ q) := by
  have z0 : Tz μ μ := Tz.rf
  rw [p_X12_layRow_eq]
  refine pk_gd (fun _ => ?_)
  refine pk_bvy (fun μ1 ez1 => ?_)
  have z1 : Tz μ μ1 := by rw [ez1]; exact z0.sF (pz_a (by decide) (by decide))
  exact pk_mono (w_X12_layRow_b9 FUEL (1 : Int32) μ1) (fun _ hq => z1.tr hq)
theorem w_X12_endRun_b75 (a1 : Int32) (k0 : Int32) (k1 : Int32) (μ : Mem) : pk (p_X12_endRun_b75 a1 k0 k1 μ) (fun q => Tz μ q) := by
  have z0 : Tz μ μ := Tz.rf
  rw [p_X12_endRun_b75_eq]
  refine pk_gd (fun _ => ?_)
  refine pk_bvy (fun μ7 ez1 => ?_)
  have z1 : Tz μ μ7 := by rw [ez1]; exact z0.sF (pz_a (by decide) (by decide))
  refine pk_gd (fun _ => ?_)
  refine pk_bvy (fun μ8 ez2 => ?_)
  have z2 : Tz μ μ8 := by rw [ez2]; exact z1.sF (pz_a (by decide) (by decide))
  refine pk_ite (fun _ => ?_) (fun _ => ?_)
  · refine pk_bw (w_X12_layRow a1 μ8) (fun μ10 ez3 => ?_)
    have z3 : Tz μ μ10 := z2.tr ez3
    exact pk_some z3
  · exact pk_some z2
theorem w_X12_endRun_b52 (a1 : Int32) (k0 : Int32) (k1 : Int32) (μ : Mem) : pk (p_X12_endRun_b52 a1 k0 k1 μ) (fun q => Tz μ q) := by
  have z0 : Tz μ μ := Tz.rf
  rw [p_X12_endRun_b52_eq]
  refine pk_gd (fun _ => ?_)
  refine pk_bvy (fun μ5 ez1 => ?_)
  have z1 : Tz μ μ5 := by rw [ez1]; exact z0.sF (pz_a (by decide) (by decide))
  refine pk_ite (fun _ => ?_) (fun _ => ?_)
  · refine pk_gd (fun _ => ?_)
    exact pk_mono (w_X12_endRun_b75 a1 (μ5.1 34 a1.toNatClampNeg) (4 : Int32) μ5) (fun _ hq => z1.tr hq)
  · exact pk_mono (w_X12_endRun_b75 a1 (0 : Int32) (4 : Int32) μ5) (fun _ hq => z1.tr hq)
theorem w_X12_endRun (a1 : Int32) (μ : Mem) : pk (p_X12_endRun a1 μ) (fun q => Tz μ q) := by
  have z0 : Tz μ μ := Tz.rf
  rw [p_X12_endRun_eq]
  refine pk_gd (fun _ => ?_)
  refine pk_bvy (fun μ1 ez1 => ?_)
  have z1 : Tz μ μ1 := by rw [ez1]; exact z0.sF (pz_a (by decide) (by decide))
  refine pk_gd (fun _ => ?_)
  refine pk_bvy (fun μ2 ez2 => ?_)
  have z2 : Tz μ μ2 := by rw [ez2]; exact z1.sF (pz_a (by decide) (by decide))
  refine pk_gd (fun _ => ?_)
  refine pk_bvy (fun μ3 ez3 => ?_)
  have z3 : Tz μ μ3 := by rw [ez3]; exact z2.sF (pz_a (by decide) (by decide))
  refine pk_ite (fun _ => ?_) (fun _ => ?_)
  · refine pk_gd (fun _ => ?_)
    exact pk_mono (w_X12_endRun_b52 a1 (μ3.1 33 a1.toNatClampNeg) (3 : Int32) μ3) (fun _ hq => z3.tr hq)
  · exact pk_mono (w_X12_endRun_b52 a1 (0 : Int32) (3 : Int32) μ3) (fun _ hq => z3.tr hq)
theorem w_X12_runTask_b99 (μ : Mem) : pk (p_X12_runTask_b99 μ) (fun q => Tz μ q) := by
  have z0 : Tz μ μ := Tz.rf
  rw [p_X12_runTask_b99_eq]
  refine pk_ite (fun _ => ?_) (fun _ => ?_)
  · refine pk_bd (w_X12_gone μ) (fun r14 μ13 ez1 => ?_)
    have z1 : Tz μ μ13 := z0.tr ez1
    refine pk_bw (w_X12_endRun r14 μ13) (fun μ15 ez2 => ?_)
    have z2 : Tz μ μ15 := z1.tr ez2
    exact pk_some z2
  · refine pk_bw (w_X12_endRun (-1 : Int32) μ) (fun μ11 ez3 => ?_)
    have z3 : Tz μ μ11 := z0.tr ez3
    exact pk_some z3
theorem w_X12_runTask_b76 (a1 : Int32) (μ : Mem) : pk (p_X12_runTask_b76 a1 μ) (fun q => Tz μ q) := by
  have z0 : Tz μ μ := Tz.rf
  rw [p_X12_runTask_b76_eq]
  refine pk_ite (fun _ => ?_) (fun _ => ?_)
  · refine pk_bd (w_X12_beginsCall μ) (fun r18 μ17 ez1 => ?_)
    have z1 : Tz μ μ17 := z0.tr ez1
    refine pk_ite (fun _ => ?_) (fun _ => ?_)
    · exact pk_mono (w_X12_runTask_b99 μ17) (fun _ hq => z1.tr hq)
    · refine pk_bw (w_X12_enter a1 μ17) (fun μ20 ez2 => ?_)
      have z2 : Tz μ μ20 := z1.tr ez2
      refine pk_bw (w_X12_goAll μ20) (fun μ22 ez3 => ?_)
      have z3 : Tz μ μ22 := z2.tr ez3
      exact pk_mono (w_X12_runTask_b99 μ22) (fun _ hq => z3.tr hq)
  · exact pk_mono (w_X12_runTask_b99 μ) (fun _ hq => z0.tr hq)
theorem w_X12_runTask_b40 (K11 : Int32 → Mem → Option Mem) (hK11 : ∀ (y0 : Int32) (y1 : Mem), pk (K11 y0 y1) (fun q => Tz y1 q)) (a1 : Int32) (μ : Mem) : pk (p_X12_runTask_b40 K11 a1 μ) (fun q => Tz μ q) := by
  have z0 : Tz μ μ := Tz.rf
  rw [p_X12_runTask_b40_eq]
  refine pk_bvy (fun v27 _ => ?_)
  exact pk_mono (hK11 v27 μ) (fun _ hq => z0.tr hq)
theorem w_X12_runTask_b11 : ∀ (n : Nat) (a1 : Int32) (μ : Mem), pk (p_X12_runTask_b11  n a1 μ) (fun q => Tz μ q) := by
  intro n
  induction n with
  | zero => intro a1 μ r e; rw [p_X12_runTask_b11_z] at e; cases e
  | succ n ih =>
    intro a1 μ
    have z0 : Tz μ μ := Tz.rf
    rw [p_X12_runTask_b11_s]
    refine pk_ite (fun _ => ?_) (fun _ => ?_)
    · refine pk_bd (w_X12_functionOf (μ.1 0 42) (μ.1 0 43) μ) (fun r7 μ6 ez1 => ?_)
      have z1 : Tz μ μ6 := z0.tr ez1
      refine pk_ite (fun _ => ?_) (fun _ => ?_)
      · refine pk_ite (fun _ => ?_) (fun _ => ?_)
        · refine pk_bvy (fun μ25 ez2 => ?_)
          have z2 : Tz μ μ25 := by rw [ez2]; exact z1.sF (pz_f (by decide))
          exact pk_mono (w_X12_runTask_b76 r7 μ25) (fun _ hq => z2.tr hq)
        · exact pk_mono (w_X12_runTask_b76 r7 μ6) (fun _ hq => z1.tr hq)
      · exact pk_mono (w_X12_runTask_b76 r7 μ6) (fun _ hq => z1.tr hq)
    · refine pk_gd (fun _ => ?_)
      refine pk_gd (fun _ => ?_)
      refine pk_ite (fun _ => ?_) (fun _ => ?_)
      · exact pk_mono (w_X12_runTask_b40 (p_X12_runTask_b11  n) ih a1 μ) (fun _ hq => z0.tr hq)
      · refine pk_bvy (fun μ28 ez3 => ?_)
        have z3 : Tz μ μ28 := by rw [ez3]; exact z0.sF (pz_f (by decide))
        exact pk_mono (w_X12_runTask_b40 (p_X12_runTask_b11  n) ih a1 μ28) (fun _ hq => z3.tr hq)
theorem w_X12_runTask (μ : Mem) : pk (p_X12_runTask μ) (fun q => Tz μ q) := by
  have z0 : Tz μ μ := Tz.rf
  rw [p_X12_runTask_eq]
  refine pk_bw (w_X12_beginRun μ) (fun μ1 ez1 => ?_)
  have z1 : Tz μ μ1 := z0.tr ez1
  refine pk_bw (w_X12_buildTask (1 : Int32) μ1) (fun μ3 ez2 => ?_)
  have z2 : Tz μ μ3 := z1.tr ez2
  exact pk_mono (w_X12_runTask_b11 FUEL (0 : Int32) μ3) (fun _ hq => z2.tr hq)
theorem w_X12_enterVariant (a1 : Int32) (a2 : Int32) (μ : Mem) : pk (p_X12_enterVariant a1 a2 μ) (fun q => Tz μ q) := by
  have z0 : Tz μ μ := Tz.rf
  rw [p_X12_enterVariant_eq]
  refine pk_gd (fun _ => ?_)
  refine pk_bvy (fun μ1 ez1 => ?_)
  have z1 : Tz μ μ1 := by rw [ez1]; exact z0.sF (pz_a (by decide) (by decide))
  refine pk_gd (fun _ => ?_)
  refine pk_bvy (fun μ2 ez2 => ?_)
  have z2 : Tz μ μ2 := by rw [ez2]; exact z1.sF (pz_a (by decide) (by decide))
  exact pk_some z2
theorem w_X12_valueOf (a1 : Int32) (μ : Mem) : pk (p_X12_valueOf a1 μ) (fun q => Tz μ q.2) := by
  have z0 : Tz μ μ := Tz.rf
  rw [p_X12_valueOf_eq]
  refine pk_gd (fun _ => ?_)
  refine pk_ite (fun _ => ?_) (fun _ => ?_)
  · refine pk_gd (fun _ => ?_)
    refine pk_gd (fun _ => ?_)
    exact pk_some z0
  · refine pk_gd (fun _ => ?_)
    refine pk_gd (fun _ => ?_)
    refine pk_bd (w_X12_node (μ.1 53 a1.toNatClampNeg) (μ.1 54 a1.toNatClampNeg) μ) (fun r3 μ2 ez1 => ?_)
    have z1 : Tz μ μ2 := z0.tr ez1
    exact pk_some z1
theorem w_X12_hold (a1 : Int32) (a2 : Int32) (μ : Mem) : pk (p_X12_hold a1 a2 μ) (fun q => Tz μ q) := by
  have z0 : Tz μ μ := Tz.rf
  rw [p_X12_hold_eq]
  refine pk_gd (fun _ => ?_)
  refine pk_gd (fun _ => ?_)
  refine pk_bvy (fun μ1 ez1 => ?_)
  have z1 : Tz μ μ1 := by rw [ez1]; exact z0.sF (pz_a (by decide) (by decide))
  exact pk_some z1
theorem w_X12_runCall_b11 : ∀ (n : Nat) (a1 : Int32) (a2 : Int32) (μ : Mem), pk (p_X12_runCall_b11  n a1 a2 μ) (fun q => Tz μ q.2) := by
  intro n
  induction n with
  | zero => intro a1 a2 μ r e; rw [p_X12_runCall_b11_z] at e; cases e
  | succ n ih =>
    intro a1 a2 μ
    have z0 : Tz μ μ := Tz.rf
    rw [p_X12_runCall_b11_s]
    refine pk_gd (fun _ => ?_)
    refine pk_ite (fun _ => ?_) (fun _ => ?_)
    · refine pk_bvy (fun μ5 ez1 => ?_)
      have z1 : Tz μ μ5 := by rw [ez1]; exact z0.sF (pz_f (by decide))
      refine pk_gd (fun _ => ?_)
      refine pk_bw (w_X12_enterVariant (μ5.1 48 a1.toNatClampNeg) a1 μ5) (fun μ6 ez2 => ?_)
      have z2 : Tz μ μ6 := z1.tr ez2
      refine pk_gd (fun _ => ?_)
      refine pk_gd (fun _ => ?_)
      exact pk_some z2
    · refine pk_gd (fun _ => ?_)
      refine pk_bd (w_X12_valueOf ((μ.1 51 a1.toNatClampNeg) + a2) μ) (fun r9 μ8 ez3 => ?_)
      have z3 : Tz μ μ8 := z0.tr ez3
      refine pk_gd (fun _ => ?_)
      refine pk_bvy (fun μ10 ez4 => ?_)
      have z4 : Tz μ μ10 := by rw [ez4]; exact z3.sF (pz_a (by decide) (by decide))
      refine pk_bvy (fun v11 _ => ?_)
      exact pk_mono (ih a1 v11 μ10) (fun _ hq => z4.tr hq)
theorem w_X12_runCall (a1 : Int32) (μ : Mem) : pk (p_X12_runCall a1 μ) (fun q => Tz μ q.2) := by
  have z0 : Tz μ μ := Tz.rf
  rw [p_X12_runCall_eq]
  refine pk_bd (w_X12_beginsCall μ) (fun r2 μ1 ez1 => ?_)
  have z1 : Tz μ μ1 := z0.tr ez1
  refine pk_ite (fun _ => ?_) (fun _ => ?_)
  · exact pk_some z1
  · exact pk_mono (w_X12_runCall_b11 FUEL a1 (0 : Int32) μ1) (fun _ hq => z1.tr hq)
theorem w_X12_itemValue_b29 (a1 : Int32) (k0 : Int32) (μ : Mem) : pk (p_X12_itemValue_b29 a1 k0 μ) (fun q => Tz μ q.2) := by
  have z0 : Tz μ μ := Tz.rf
  rw [p_X12_itemValue_b29_eq]
  refine pk_gd (fun _ => ?_)
  refine pk_gd (fun _ => ?_)
  refine pk_bd (w_X12_node k0 (μ.1 42 (μ.1 48 a1.toNatClampNeg).toNatClampNeg) μ) (fun r41 μ40 ez1 => ?_)
  have z1 : Tz μ μ40 := z0.tr ez1
  exact pk_some z1
theorem w_X12_itemValue (a1 : Int32) (a2 : Int32) (μ : Mem) : pk (p_X12_itemValue a1 a2 μ) (fun q => Tz μ q.2) := by
  have z0 : Tz μ μ := Tz.rf
  rw [p_X12_itemValue_eq]
  refine pk_gd (fun _ => ?_)
  refine pk_bvy (fun v1 _ => ?_)
  refine pk_ite (fun _ => ?_) (fun _ => ?_)
  · refine pk_gd (fun _ => ?_)
    refine pk_ite (fun _ => ?_) (fun _ => ?_)
    · exact pk_mono (w_X12_itemValue_b29 a1 (1 : Int32) μ) (fun _ hq => z0.tr hq)
    · exact pk_mono (w_X12_itemValue_b29 a1 (0 : Int32) μ) (fun _ hq => z0.tr hq)
  · refine pk_bd (w_X12_valueOf a2 μ) (fun r4 μ3 ez1 => ?_)
    have z1 : Tz μ μ3 := z0.tr ez1
    refine pk_ite (fun _ => ?_) (fun _ => ?_)
    · refine pk_bd (w_X12_valueOf (a2 + (1 : Int32)) μ3) (fun r34 μ33 ez2 => ?_)
      have z2 : Tz μ μ33 := z1.tr ez2
      refine pk_bd (w_X12_pair r4 r34 μ33) (fun r36 μ35 ez3 => ?_)
      have z3 : Tz μ μ35 := z2.tr ez3
      refine pk_gd (fun _ => ?_)
      refine pk_ite (fun _ => ?_) (fun _ => ?_)
      · exact pk_some z3
      · refine pk_bvy (fun μ38 ez4 => ?_)
        have z4 : Tz μ μ38 := by rw [ez4]; exact z3.sF (pz_f (by decide))
        exact pk_some z4
    · refine pk_ite (fun _ => ?_) (fun _ => ?_)
      · refine pk_gd (fun _ => ?_)
        refine pk_ite (fun _ => ?_) (fun _ => ?_)
        · refine pk_gd (fun _ => ?_)
          exact pk_some z1
        · exact pk_some z1
      · refine pk_ite (fun _ => ?_) (fun _ => ?_)
        · refine pk_gd (fun _ => ?_)
          refine pk_ite (fun _ => ?_) (fun _ => ?_)
          · refine pk_gd (fun _ => ?_)
            exact pk_some z1
          · refine pk_bd (w_X12_node (0 : Int32) (0 : Int32) μ3) (fun r31 μ30 ez5 => ?_)
            have z5 : Tz μ μ30 := z1.tr ez5
            exact pk_some z5
        · refine pk_bd (w_X12_num r4 μ3) (fun r9 μ8 ez6 => ?_)
          have z6 : Tz μ μ8 := z1.tr ez6
          refine pk_ite (fun _ => ?_) (fun _ => ?_)
          · refine pk_bd (w_X12_valueOf (a2 + (1 : Int32)) μ8) (fun r22 μ21 ez7 => ?_)
            have z7 : Tz μ μ21 := z6.tr ez7
            refine pk_bd (w_X12_num r22 μ21) (fun r24 μ23 ez8 => ?_)
            have z8 : Tz μ μ23 := z7.tr ez8
            refine pk_gd (fun _ => ?_)
            refine pk_gd (fun _ => ?_)
            refine pk_gd (fun _ => ?_)
            refine pk_gd (fun _ => ?_)
            refine pk_gd (fun _ => ?_)
            refine pk_bw (w_X12_join (μ23.1 48 a1.toNatClampNeg) (μ23.1 30 r9.toNatClampNeg) (μ23.1 31 r9.toNatClampNeg) (μ23.1 30 r24.toNatClampNeg) (μ23.1 31 r24.toNatClampNeg) μ23) (fun μ25 ez9 => ?_)
            have z9 : Tz μ μ25 := z8.tr ez9
            refine pk_bd (w_X12_given μ25) (fun r28 μ27 ez10 => ?_)
            have z10 : Tz μ μ27 := z9.tr ez10
            exact pk_some z10
          · refine pk_ite (fun _ => ?_) (fun _ => ?_)
            · refine pk_gd (fun _ => ?_)
              refine pk_bw (w_X12_holdAt (μ8.1 48 a1.toNatClampNeg) r9 μ8) (fun μ16 ez11 => ?_)
              have z11 : Tz μ μ16 := z6.tr ez11
              refine pk_gd (fun _ => ?_)
              refine pk_gd (fun _ => ?_)
              refine pk_bvy (fun μ18 ez12 => ?_)
              have z12 : Tz μ μ18 := by rw [ez12]; exact z11.sF (pz_a (by decide) (by decide))
              refine pk_bd (w_X12_given μ18) (fun r20 μ19 ez13 => ?_)
              have z13 : Tz μ μ19 := z12.tr ez13
              exact pk_some z13
            · refine pk_gd (fun _ => ?_)
              refine pk_gd (fun _ => ?_)
              refine pk_bw (w_X12_turn (v1 - (1 : Int32)) (μ8.1 30 r9.toNatClampNeg) (μ8.1 31 r9.toNatClampNeg) μ8) (fun μ12 ez14 => ?_)
              have z14 : Tz μ μ12 := z6.tr ez14
              refine pk_bd (w_X12_given μ12) (fun r15 μ14 ez15 => ?_)
              have z15 : Tz μ μ14 := z14.tr ez15
              exact pk_some z15
theorem w_X12_runItem (a1 : Int32) (μ : Mem) : pk (p_X12_runItem a1 μ) (fun q => Tz μ q.2) := by
  have z0 : Tz μ μ := Tz.rf
  rw [p_X12_runItem_eq]
  refine pk_gd (fun _ => ?_)
  refine pk_bvy (fun v1 _ => ?_)
  refine pk_gd (fun _ => ?_)
  refine pk_ite (fun _ => ?_) (fun _ => ?_)
  · refine pk_bd (w_X12_valueOf v1 μ) (fun r5 μ4 ez1 => ?_)
    have z1 : Tz μ μ4 := z0.tr ez1
    refine pk_bd (w_X12_num r5 μ4) (fun r7 μ6 ez2 => ?_)
    have z2 : Tz μ μ6 := z1.tr ez2
    refine pk_gd (fun _ => ?_)
    refine pk_gd (fun _ => ?_)
    refine pk_ite (fun _ => ?_) (fun _ => ?_)
    · refine pk_gd (fun _ => ?_)
      exact pk_some z2
    · exact pk_some z2
  · refine pk_ite (fun _ => ?_) (fun _ => ?_)
    · refine pk_bd (w_X12_valueOf v1 μ) (fun r11 μ10 ez3 => ?_)
      have z3 : Tz μ μ10 := z0.tr ez3
      refine pk_bd (w_X12_num r11 μ10) (fun r13 μ12 ez4 => ?_)
      have z4 : Tz μ μ12 := z3.tr ez4
      refine pk_bw (w_X12_show r13 μ12) (fun μ14 ez5 => ?_)
      have z5 : Tz μ μ14 := z4.tr ez5
      exact pk_some z5
    · refine pk_ite (fun _ => ?_) (fun _ => ?_)
      · refine pk_bd (w_X12_itemValue a1 v1 μ) (fun r18 μ17 ez6 => ?_)
        have z6 : Tz μ μ17 := z0.tr ez6
        refine pk_bw (w_X12_hold a1 r18 μ17) (fun μ19 ez7 => ?_)
        have z7 : Tz μ μ19 := z6.tr ez7
        exact pk_some z7
      · refine pk_ite (fun _ => ?_) (fun _ => ?_)
        · refine pk_bd (w_X12_itemValue a1 v1 μ) (fun r23 μ22 ez8 => ?_)
          have z8 : Tz μ μ22 := z0.tr ez8
          refine pk_bw (w_X12_hold a1 r23 μ22) (fun μ24 ez9 => ?_)
          have z9 : Tz μ μ24 := z8.tr ez9
          exact pk_some z9
        · refine pk_ite (fun _ => ?_) (fun _ => ?_)
          · refine pk_bd (w_X12_itemValue a1 v1 μ) (fun r28 μ27 ez10 => ?_)
            have z10 : Tz μ μ27 := z0.tr ez10
            refine pk_bw (w_X12_hold a1 r28 μ27) (fun μ29 ez11 => ?_)
            have z11 : Tz μ μ29 := z10.tr ez11
            exact pk_some z11
          · refine pk_ite (fun _ => ?_) (fun _ => ?_)
            · refine pk_bd (w_X12_runCall a1 μ) (fun r33 μ32 ez12 => ?_)
              have z12 : Tz μ μ32 := z0.tr ez12
              exact pk_some z12
            · refine pk_ite (fun _ => ?_) (fun _ => ?_)
              · refine pk_bvy (fun μ35 ez13 => ?_)
                have z13 : Tz μ μ35 := by rw [ez13]; exact z0.sF (pz_f (by decide))
                exact pk_some z13
              · refine pk_ite (fun _ => ?_) (fun _ => ?_)
                · refine pk_gd (fun _ => ?_)
                  refine pk_bd (w_X12_valueOf v1 μ) (fun r38 μ37 ez14 => ?_)
                  have z14 : Tz μ μ37 := z0.tr ez14
                  refine pk_bw (w_X12_hold (μ.1 48 a1.toNatClampNeg) r38 μ37) (fun μ39 ez15 => ?_)
                  have z15 : Tz μ μ39 := z14.tr ez15
                  refine pk_gd (fun _ => ?_)
                  refine pk_gd (fun _ => ?_)
                  exact pk_some z15
                · refine pk_ite (fun _ => ?_) (fun _ => ?_)
                  · refine pk_gd (fun _ => ?_)
                    refine pk_bd (w_X12_valueOf v1 μ) (fun r43 μ42 ez16 => ?_)
                    have z16 : Tz μ μ42 := z0.tr ez16
                    refine pk_bw (w_X12_hold (μ.1 48 a1.toNatClampNeg) r43 μ42) (fun μ44 ez17 => ?_)
                    have z17 : Tz μ μ44 := z16.tr ez17
                    refine pk_gd (fun _ => ?_)
                    refine pk_gd (fun _ => ?_)
                    exact pk_some z17
                  · refine pk_bd (w_X12_itemValue a1 v1 μ) (fun r47 μ46 ez18 => ?_)
                    have z18 : Tz μ μ46 := z0.tr ez18
                    refine pk_bw (w_X12_hold a1 r47 μ46) (fun μ48 ez19 => ?_)
                    have z19 : Tz μ μ48 := z18.tr ez19
                    exact pk_some z19
theorem w_X12_runResidue_b59 : ∀ (n : Nat) (a1 : Int32) (a2 : Int32) (μ : Mem), pk (p_X12_runResidue_b59  n a1 a2 μ) (fun q => Tz μ q) := by
  intro n
  induction n with
  | zero => intro a1 a2 μ r e; rw [p_X12_runResidue_b59_z] at e; cases e
  | succ n ih =>
    intro a1 a2 μ
    have z0 : Tz μ μ := Tz.rf
    rw [p_X12_runResidue_b59_s]
    refine pk_ite (fun _ => ?_) (fun _ => ?_)
    · refine pk_bw (w_X12_endRun a1 μ) (fun μ14 ez1 => ?_)
      have z1 : Tz μ μ14 := z0.tr ez1
      exact pk_some z1
    · refine pk_ite (fun _ => ?_) (fun _ => ?_)
      · refine pk_gd (fun _ => ?_)
        refine pk_bvy (fun v19 _ => ?_)
        refine pk_gd (fun _ => ?_)
        refine pk_ite (fun _ => ?_) (fun _ => ?_)
        · refine pk_gd (fun _ => ?_)
          refine pk_bd (w_X12_valueOf (μ.1 64 v19.toNatClampNeg) μ) (fun r22 μ21 ez2 => ?_)
          have z2 : Tz μ μ21 := z0.tr ez2
          refine pk_gd (fun _ => ?_)
          refine pk_bvy (fun v23 _ => ?_)
          refine pk_bvy (fun μ24 ez3 => ?_)
          have z3 : Tz μ μ24 := by rw [ez3]; exact z2.sF (pz_f (by decide))
          refine pk_bvy (fun μ25 ez4 => ?_)
          have z4 : Tz μ μ25 := by rw [ez4]; exact z3.sF (pz_f (by decide))
          refine pk_ite (fun _ => ?_) (fun _ => ?_)
          · exact pk_mono (ih r22 v23 μ25) (fun _ hq => z4.tr hq)
          · refine pk_bw (w_X12_hold v23 r22 μ25) (fun μ27 ez5 => ?_)
            have z5 : Tz μ μ27 := z4.tr ez5
            refine pk_bvy (fun v29 _ => ?_)
            exact pk_mono (ih r22 v29 μ27) (fun _ hq => z5.tr hq)
        · refine pk_bd (w_X12_runItem a2 μ) (fun r31 μ30 ez6 => ?_)
          have z6 : Tz μ μ30 := z0.tr ez6
          exact pk_mono (ih a1 r31 μ30) (fun _ hq => z6.tr hq)
      · refine pk_bw (w_X12_endRun a1 μ) (fun μ17 ez7 => ?_)
        have z7 : Tz μ μ17 := z0.tr ez7
        exact pk_some z7
theorem w_X12_runResidue_b20 : ∀ (n : Nat) (a1 : Int32) (a2 : Int32) (μ : Mem), pk (p_X12_runResidue_b20  n a1 a2 μ) (fun q => Tz μ q) := by
  intro n
  induction n with
  | zero => intro a1 a2 μ r e; rw [p_X12_runResidue_b20_z] at e; cases e
  | succ n ih =>
    intro a1 a2 μ
    have z0 : Tz μ μ := Tz.rf
    rw [p_X12_runResidue_b20_s]
    refine pk_ite (fun _ => ?_) (fun _ => ?_)
    · refine pk_bw (w_X12_enterVariant (0 : Int32) (-1 : Int32) μ) (fun μ10 ez1 => ?_)
      have z1 : Tz μ μ10 := z0.tr ez1
      refine pk_gd (fun _ => ?_)
      refine pk_bvy (fun v12 _ => ?_)
      exact pk_mono (w_X12_runResidue_b59 FUEL a1 v12 μ10) (fun _ hq => z1.tr hq)
    · refine pk_gd (fun _ => ?_)
      refine pk_gd (fun _ => ?_)
      refine pk_bvy (fun μ32 ez2 => ?_)
      have z2 : Tz μ μ32 := by rw [ez2]; exact z0.sF (pz_a (by decide) (by decide))
      refine pk_bvy (fun v33 _ => ?_)
      exact pk_mono (ih a1 v33 μ32) (fun _ hq => z2.tr hq)
theorem w_X12_runResidue (μ : Mem) : pk (p_X12_runResidue μ) (fun q => Tz μ q) := by
  have z0 : Tz μ μ := Tz.rf
  rw [p_X12_runResidue_eq]
  refine pk_bw (w_X12_beginRun μ) (fun μ1 ez1 => ?_)
  have z1 : Tz μ μ1 := z0.tr ez1
  refine pk_bd (w_X12_beginsCall μ1) (fun r4 μ3 ez2 => ?_)
  have z2 : Tz μ μ3 := z1.tr ez2
  refine pk_ite (fun _ => ?_) (fun _ => ?_)
  · refine pk_bw (w_X12_endRun (-1 : Int32) μ3) (fun μ6 ez3 => ?_)
    have z3 : Tz μ μ6 := z2.tr ez3
    exact pk_some z3
  · refine pk_bvy (fun μ8 ez4 => ?_)
    have z4 : Tz μ μ8 := by rw [ez4]; exact z2.sF (pz_f (by decide))
    exact pk_mono (w_X12_runResidue_b20 FUEL (-1 : Int32) (0 : Int32) μ8) (fun _ hq => z4.tr hq)
theorem w_X12_canRun_b16 (μ : Mem) : pk (p_X12_canRun_b16 μ) (fun q => Tz μ q.2) := by
  have z0 : Tz μ μ := Tz.rf
  rw [p_X12_canRun_b16_eq]
  refine pk_ite (fun _ => ?_) (fun _ => ?_)
  · exact pk_some z0
  · exact pk_some z0
theorem w_X12_canRun (a1 : Int32) (μ : Mem) : pk (p_X12_canRun a1 μ) (fun q => Tz μ q.2) := by
  have z0 : Tz μ μ := Tz.rf
  rw [p_X12_canRun_eq]
  refine pk_ite (fun _ => ?_) (fun _ => ?_)
  · exact pk_mono (w_X12_canRun_b16 μ) (fun _ hq => z0.tr hq)
  · refine pk_ite (fun _ => ?_) (fun _ => ?_)
    · refine pk_ite (fun _ => ?_) (fun _ => ?_)
      · exact pk_some z0
      · exact pk_mono (w_X12_canRun_b16 μ) (fun _ hq => z0.tr hq)
    · exact pk_some z0
theorem w_X12_runNow (a1 : Int32) (μ : Mem) : pk (p_X12_runNow a1 μ) (fun q => Tz μ q) := by
  have z0 : Tz μ μ := Tz.rf
  rw [p_X12_runNow_eq]
  refine pk_ite (fun _ => ?_) (fun _ => ?_)
  · refine pk_bw (w_X12_runTask μ) (fun μ4 ez1 => ?_)
    have z1 : Tz μ μ4 := z0.tr ez1
    exact pk_some z1
  · refine pk_bw (w_X12_runResidue μ) (fun μ2 ez2 => ?_)
    have z2 : Tz μ μ2 := z0.tr ez2
    exact pk_some z2
theorem w_X12_run_b43 (a2 : Int32) (k0 : Int32) (μ : Mem) : pk (p_X12_run_b43 a2 k0 μ) (fun q => Tz μ q.2) := by
  have z0 : Tz μ μ := Tz.rf
  rw [p_X12_run_b43_eq]
  refine pk_bvy (fun μ8 ez1 => ?_)
  have z1 : Tz μ μ8 := by rw [ez1]; exact z0.sF (pz_f (by decide))
  refine pk_bw (w_X12_copy 43 (0 : Int32) (μ8.1 0 132) 79 (0 : Int32) μ8 ⟨by decide, by decide⟩) (fun μ9 ez2 => ?_)
  have z2 : Tz μ μ9 := z1.tr ez2
  refine pk_bw (w_X12_copy 44 (0 : Int32) (μ9.1 0 132) 80 (0 : Int32) μ9 ⟨by decide, by decide⟩) (fun μ11 ez3 => ?_)
  have z3 : Tz μ μ11 := z2.tr ez3
  refine pk_bw (w_X12_copy 42 (0 : Int32) (8 : Int32) 81 (0 : Int32) μ11 ⟨by decide, by decide⟩) (fun μ13 ez4 => ?_)
  have z4 : Tz μ μ13 := z3.tr ez4
  refine pk_ite (fun _ => ?_) (fun _ => ?_)
  · refine pk_bvy (fun μ16 ez5 => ?_)
    have z5 : Tz μ μ16 := by rw [ez5]; exact z4.sF (pz_f (by decide))
    refine pk_bw (w_X12_copy 74 (0 : Int32) (μ16.1 0 122) 82 (0 : Int32) μ16 ⟨by decide, by decide⟩) (fun μ17 ez6 => ?_)
    have z6 : Tz μ μ17 := z5.tr ez6
    refine pk_bw (w_X12_copy 75 (0 : Int32) (μ17.1 0 122) 83 (0 : Int32) μ17 ⟨by decide, by decide⟩) (fun μ19 ez7 => ?_)
    have z7 : Tz μ μ19 := z6.tr ez7
    refine pk_gd (fun _ => ?_)
    exact pk_some z7
  · refine pk_gd (fun _ => ?_)
    exact pk_some z4
theorem w_X12_run (a1 : Int32) (a2 : Int32) (μ : Mem) : pk (p_X12_run a1 a2 μ) (fun q => Tz μ q.2) := by
  have z0 : Tz μ μ := Tz.rf
  rw [p_X12_run_eq]
  refine pk_bd (w_X12_canRun a1 μ) (fun r2 μ1 ez1 => ?_)
  have z1 : Tz μ μ1 := z0.tr ez1
  refine pk_ite (fun _ => ?_) (fun _ => ?_)
  · exact pk_some z1
  · refine pk_ite (fun _ => ?_) (fun _ => ?_)
    · exact pk_some z1
    · refine pk_bw (w_X12_runNow a1 μ1) (fun μ5 ez2 => ?_)
      have z2 : Tz μ μ5 := z1.tr ez2
      refine pk_ite (fun _ => ?_) (fun _ => ?_)
      · exact pk_mono (w_X12_run_b43 a2 (60 : Int32) μ5) (fun _ hq => z2.tr hq)
      · exact pk_mono (w_X12_run_b43 a2 (μ5.1 0 73) μ5) (fun _ hq => z2.tr hq)
theorem w_X12_output (a1 : Int32) (a2 : Int32) (μ : Mem) : pk (p_X12_output a1 a2 μ) (fun q => Tz μ q.2) := by
  have z0 : Tz μ μ := Tz.rf
  rw [p_X12_output_eq]
  refine pk_ite (fun _ => ?_) (fun _ => ?_)
  · exact pk_some z0
  · refine pk_ite (fun _ => ?_) (fun _ => ?_)
    · exact pk_some z0
    · refine pk_ite (fun _ => ?_) (fun _ => ?_)
      · refine pk_gd (fun _ => ?_)
        exact pk_some z0
      · refine pk_gd (fun _ => ?_)
        exact pk_some z0
theorem w_X12_place (a1 : Int32) (μ : Mem) : pk (p_X12_place a1 μ) (fun q => Tz μ q.2) := by
  have z0 : Tz μ μ := Tz.rf
  rw [p_X12_place_eq]
  refine pk_ite (fun _ => ?_) (fun _ => ?_)
  · exact pk_some z0
  · refine pk_gd (fun _ => ?_)
    exact pk_some z0
theorem w_X12_areLike_b2 : ∀ (n : Nat) (a0 : Nat) (a1 : Nat) (a2 : Int32) (a3 : Int32) (μ : Mem), pk (p_X12_areLike_b2  n a0 a1 a2 a3 μ) (fun q => Tz μ q.2) := by
  intro n
  induction n with
  | zero => intro a0 a1 a2 a3 μ r e; rw [p_X12_areLike_b2_z] at e; cases e
  | succ n ih =>
    intro a0 a1 a2 a3 μ
    have z0 : Tz μ μ := Tz.rf
    rw [p_X12_areLike_b2_s]
    refine pk_ite (fun _ => ?_) (fun _ => ?_)
    · exact pk_some z0
    · refine pk_gd (fun _ => ?_)
      refine pk_gd (fun _ => ?_)
      refine pk_ite (fun _ => ?_) (fun _ => ?_)
      · refine pk_bvy (fun v3 _ => ?_)
        exact pk_mono (ih a0 a1 a2 v3 μ) (fun _ hq => z0.tr hq)
      · exact pk_some z0
theorem w_X12_areLike (a0 : Nat) (a1 : Nat) (a2 : Int32) (μ : Mem) : pk (p_X12_areLike a0 a1 a2 μ) (fun q => Tz μ q.2) := by
  have z0 : Tz μ μ := Tz.rf
  rw [p_X12_areLike_eq]
  exact pk_mono (w_X12_areLike_b2 FUEL a0 a1 a2 (0 : Int32) μ) (fun _ hq => z0.tr hq)
theorem w_X12_areLikeFrom_b3 : ∀ (n : Nat) (a1 : Nat) (a2 : Int32) (a3 : Nat) (a4 : Int32) (a5 : Int32) (μ : Mem), pk (p_X12_areLikeFrom_b3  n a1 a2 a3 a4 a5 μ) (fun q => Tz μ q.2) := by
  intro n
  induction n with
  | zero => intro a1 a2 a3 a4 a5 μ r e; rw [p_X12_areLikeFrom_b3_z] at e; cases e
  | succ n ih =>
    intro a1 a2 a3 a4 a5 μ
    have z0 : Tz μ μ := Tz.rf
    rw [p_X12_areLikeFrom_b3_s]
    refine pk_ite (fun _ => ?_) (fun _ => ?_)
    · exact pk_some z0
    · refine pk_gd (fun _ => ?_)
      refine pk_gd (fun _ => ?_)
      refine pk_ite (fun _ => ?_) (fun _ => ?_)
      · refine pk_bvy (fun v3 _ => ?_)
        exact pk_mono (ih a1 a2 a3 a4 v3 μ) (fun _ hq => z0.tr hq)
      · exact pk_some z0
theorem w_X12_areLikeFrom (a1 : Nat) (a2 : Int32) (a3 : Nat) (a4 : Int32) (μ : Mem) : pk (p_X12_areLikeFrom a1 a2 a3 a4 μ) (fun q => Tz μ q.2) := by
  have z0 : Tz μ μ := Tz.rf
  rw [p_X12_areLikeFrom_eq]
  exact pk_mono (w_X12_areLikeFrom_b3 FUEL a1 a2 a3 a4 (0 : Int32) μ) (fun _ hq => z0.tr hq)
theorem w_X12_agree_b216 (a4 : Int32) (k0 : Int32) (μ : Mem) : pk (p_X12_agree_b216 a4 k0 μ) (fun q => Tz μ q.2) := by
  have z0 : Tz μ μ := Tz.rf
  rw [p_X12_agree_b216_eq]
  refine pk_ite (fun _ => ?_) (fun _ => ?_)
  · exact pk_some z0
  · refine pk_bd (w_X12_areLikeFrom 74 a4 84 (60 : Int32) μ) (fun r28 μ27 ez1 => ?_)
    have z1 : Tz μ μ27 := z0.tr ez1
    refine pk_ite (fun _ => ?_) (fun _ => ?_)
    · exact pk_some z1
    · refine pk_bd (w_X12_areLikeFrom 75 a4 85 (60 : Int32) μ27) (fun r31 μ30 ez2 => ?_)
      have z2 : Tz μ μ30 := z1.tr ez2
      refine pk_ite (fun _ => ?_) (fun _ => ?_)
      · exact pk_some z2
      · exact pk_some z2
theorem w_X12_agree_b215 (a4 : Int32) (μ : Mem) : pk (p_X12_agree_b215 a4 μ) (fun q => Tz μ q.2) := by
  have z0 : Tz μ μ := Tz.rf
  rw [p_X12_agree_b215_eq]
  exact pk_mono (w_X12_agree_b216 a4 (0 : Int32) μ) (fun _ hq => z0.tr hq)
theorem w_X12_agree_b40 (k0 : Int32) (μ : Mem) : pk (p_X12_agree_b40 k0 μ) (fun q => Tz μ q.2) := by
  have z0 : Tz μ μ := Tz.rf
  rw [p_X12_agree_b40_eq]
  refine pk_bw (w_X12_copy 43 (0 : Int32) k0 84 (0 : Int32) μ ⟨by decide, by decide⟩) (fun μ10 ez1 => ?_)
  have z1 : Tz μ μ10 := z0.tr ez1
  refine pk_bw (w_X12_copy 44 (0 : Int32) k0 85 (0 : Int32) μ10 ⟨by decide, by decide⟩) (fun μ12 ez2 => ?_)
  have z2 : Tz μ μ12 := z1.tr ez2
  refine pk_bw (w_X12_copy 74 (0 : Int32) (μ12.1 0 122) 84 (60 : Int32) μ12 ⟨by decide, by decide⟩) (fun μ14 ez3 => ?_)
  have z3 : Tz μ μ14 := z2.tr ez3
  refine pk_bw (w_X12_copy 75 (0 : Int32) (μ14.1 0 122) 85 (60 : Int32) μ14 ⟨by decide, by decide⟩) (fun μ16 ez4 => ?_)
  have z4 : Tz μ μ16 := z3.tr ez4
  refine pk_bw (w_X12_copy 42 (0 : Int32) (8 : Int32) 86 (0 : Int32) μ16 ⟨by decide, by decide⟩) (fun μ18 ez5 => ?_)
  have z5 : Tz μ μ18 := z4.tr ez5
  refine pk_bvy (fun v20 _ => ?_)
  refine pk_bvy (fun v21 _ => ?_)
  refine pk_bvy (fun v22 _ => ?_)
  refine pk_bw (w_X12_runResidue μ18) (fun μ23 ez6 => ?_)
  have z6 : Tz μ μ23 := z5.tr ez6
  refine pk_ite (fun _ => ?_) (fun _ => ?_)
  · refine pk_ite (fun _ => ?_) (fun _ => ?_)
    · refine pk_ite (fun _ => ?_) (fun _ => ?_)
      · refine pk_bd (w_X12_areLike 43 84 k0 μ23) (fun r36 μ35 ez7 => ?_)
        have z7 : Tz μ μ35 := z6.tr ez7
        refine pk_ite (fun _ => ?_) (fun _ => ?_)
        · exact pk_mono (w_X12_agree_b215 v22 μ35) (fun _ hq => z7.tr hq)
        · refine pk_bd (w_X12_areLike 44 85 k0 μ35) (fun r39 μ38 ez8 => ?_)
          have z8 : Tz μ μ38 := z7.tr ez8
          refine pk_ite (fun _ => ?_) (fun _ => ?_)
          · exact pk_mono (w_X12_agree_b215 v22 μ38) (fun _ hq => z8.tr hq)
          · refine pk_bd (w_X12_areLike 42 86 (8 : Int32) μ38) (fun r42 μ41 ez9 => ?_)
            have z9 : Tz μ μ41 := z8.tr ez9
            refine pk_ite (fun _ => ?_) (fun _ => ?_)
            · exact pk_mono (w_X12_agree_b215 v22 μ41) (fun _ hq => z9.tr hq)
            · exact pk_mono (w_X12_agree_b216 v22 (1 : Int32) μ41) (fun _ hq => z9.tr hq)
      · exact pk_mono (w_X12_agree_b215 v22 μ23) (fun _ hq => z6.tr hq)
    · exact pk_mono (w_X12_agree_b215 v22 μ23) (fun _ hq => z6.tr hq)
  · exact pk_mono (w_X12_agree_b215 v22 μ23) (fun _ hq => z6.tr hq)
theorem w_X12_agree (μ : Mem) : pk (p_X12_agree μ) (fun q => Tz μ q.2) := by
  have z0 : Tz μ μ := Tz.rf
  rw [p_X12_agree_eq]
  refine pk_bd (w_X12_canRun (0 : Int32) μ) (fun r2 μ1 ez1 => ?_)
  have z1 : Tz μ μ1 := z0.tr ez1
  refine pk_ite (fun _ => ?_) (fun _ => ?_)
  · exact pk_some z1
  · refine pk_bd (w_X12_canRun (1 : Int32) μ1) (fun r5 μ4 ez2 => ?_)
    have z2 : Tz μ μ4 := z1.tr ez2
    refine pk_ite (fun _ => ?_) (fun _ => ?_)
    · exact pk_some z2
    · refine pk_bw (w_X12_runTask μ4) (fun μ7 ez3 => ?_)
      have z3 : Tz μ μ7 := z2.tr ez3
      refine pk_ite (fun _ => ?_) (fun _ => ?_)
      · exact pk_mono (w_X12_agree_b40 (60 : Int32) μ7) (fun _ hq => z3.tr hq)
      · exact pk_mono (w_X12_agree_b40 (μ7.1 0 73) μ7) (fun _ hq => z3.tr hq)
theorem w_X12_saved (μ : Mem) : pk (p_X12_saved μ) (fun q => Tz μ q.2) := by
  have z0 : Tz μ μ := Tz.rf
  rw [p_X12_saved_eq]
  refine pk_bd (w_X12_canRun (0 : Int32) μ) (fun r2 μ1 ez1 => ?_)
  have z1 : Tz μ μ1 := z0.tr ez1
  refine pk_ite (fun _ => ?_) (fun _ => ?_)
  · exact pk_some z1
  · refine pk_bd (w_X12_canRun (1 : Int32) μ1) (fun r5 μ4 ez2 => ?_)
    have z2 : Tz μ μ4 := z1.tr ez2
    refine pk_ite (fun _ => ?_) (fun _ => ?_)
    · exact pk_some z2
    · refine pk_bw (w_X12_runTask μ4) (fun μ7 ez3 => ?_)
      have z3 : Tz μ μ7 := z2.tr ez3
      refine pk_bvy (fun v9 _ => ?_)
      refine pk_ite (fun _ => ?_) (fun _ => ?_)
      · refine pk_bw (w_X12_runResidue μ7) (fun μ11 ez4 => ?_)
        have z4 : Tz μ μ11 := z3.tr ez4
        refine pk_ite (fun _ => ?_) (fun _ => ?_)
        · exact pk_some z4
        · exact pk_some z4
      · exact pk_some z3
theorem w_X12_put (a1 : Int32) (μ : Mem) : pk (p_X12_put a1 μ) (fun q => Tz μ q) := by
  have z0 : Tz μ μ := Tz.rf
  rw [p_X12_put_eq]
  refine pk_gd (fun _ => ?_)
  refine pk_bvy (fun μ1 ez1 => ?_)
  have z1 : Tz μ μ1 := by rw [ez1]; exact z0.sF (pz_a (by decide) (by decide))
  refine pk_bvy (fun μ2 ez2 => ?_)
  have z2 : Tz μ μ2 := by rw [ez2]; exact z1.sF (pz_f (by decide))
  exact pk_some z2
theorem w_X12_putNumber_b47 : ∀ (n : Nat) (a2 : Int64) (a6 : Int64) (μ : Mem), pk (p_X12_putNumber_b47  n a2 a6 μ) (fun q => Tz μ q) := by
  intro n
  induction n with
  | zero => intro a2 a6 μ r e; rw [p_X12_putNumber_b47_z] at e; cases e
  | succ n ih =>
    intro a2 a6 μ
    have z0 : Tz μ μ := Tz.rf
    rw [p_X12_putNumber_b47_s]
    refine pk_ite (fun _ => ?_) (fun _ => ?_)
    · exact pk_some z0
    · refine pk_gd (fun _ => ?_)
      refine pk_bw (w_X12_put (((48 : Int64) + ((a2 / a6) - (a2 / a6) / (10 : Int64) * (10 : Int64))).toInt32) μ) (fun μ7 ez1 => ?_)
      have z1 : Tz μ μ7 := z0.tr ez1
      refine pk_bvy (fun v9 _ => ?_)
      exact pk_mono (ih a2 v9 μ7) (fun _ hq => z1.tr hq)
theorem w_X12_putNumber_b21 : ∀ (n : Nat) (a2 : Int64) (a4 : Int64) (μ : Mem), pk (p_X12_putNumber_b21  n a2 a4 μ) (fun q => Tz μ q) := by
  intro n
  induction n with
  | zero => intro a2 a4 μ r e; rw [p_X12_putNumber_b21_z] at e; cases e
  | succ n ih =>
    intro a2 a4 μ
    have z0 : Tz μ μ := Tz.rf
    rw [p_X12_putNumber_b21_s]
    refine pk_gd (fun _ => ?_)
    refine pk_ite (fun _ => ?_) (fun _ => ?_)
    · exact pk_mono (w_X12_putNumber_b47 FUEL a2 a4 μ) (fun _ hq => z0.tr hq)
    · refine pk_bvy (fun v10 _ => ?_)
      exact pk_mono (ih a2 v10 μ) (fun _ hq => z0.tr hq)
theorem w_X12_putNumber_b18 (a2 : Int64) (μ : Mem) : pk (p_X12_putNumber_b18 a2 μ) (fun q => Tz μ q) := by
  have z0 : Tz μ μ := Tz.rf
  rw [p_X12_putNumber_b18_eq]
  exact pk_mono (w_X12_putNumber_b21 FUEL a2 (1 : Int64) μ) (fun _ hq => z0.tr hq)
theorem w_X12_putNumber (a1 : Int32) (μ : Mem) : pk (p_X12_putNumber a1 μ) (fun q => Tz μ q) := by
  have z0 : Tz μ μ := Tz.rf
  rw [p_X12_putNumber_eq]
  refine pk_bvy (fun v1 _ => ?_)
  refine pk_ite (fun _ => ?_) (fun _ => ?_)
  · exact pk_mono (w_X12_putNumber_b18 v1 μ) (fun _ hq => z0.tr hq)
  · refine pk_bw (w_X12_put (45 : Int32) μ) (fun μ11 ez1 => ?_)
    have z1 : Tz μ μ11 := z0.tr ez1
    refine pk_bvy (fun v13 _ => ?_)
    exact pk_mono (w_X12_putNumber_b18 v13 μ11) (fun _ hq => z1.tr hq)
theorem w_X12_putOne (a1 : Int32) (a2 : Int32) (μ : Mem) : pk (p_X12_putOne a1 a2 μ) (fun q => Tz μ q) := by
  have z0 : Tz μ μ := Tz.rf
  rw [p_X12_putOne_eq]
  refine pk_ite (fun _ => ?_) (fun _ => ?_)
  · refine pk_bw (w_X12_putNumber a2 μ) (fun μ2 ez1 => ?_)
    have z1 : Tz μ μ2 := z0.tr ez1
    exact pk_some z1
  · refine pk_ite (fun _ => ?_) (fun _ => ?_)
    · refine pk_bw (w_X12_put (102 : Int32) μ) (fun μ9 ez2 => ?_)
      have z2 : Tz μ μ9 := z0.tr ez2
      refine pk_bw (w_X12_putNumber a2 μ9) (fun μ11 ez3 => ?_)
      have z3 : Tz μ μ11 := z2.tr ez3
      exact pk_some z3
    · refine pk_bw (w_X12_put (114 : Int32) μ) (fun μ5 ez4 => ?_)
      have z4 : Tz μ μ5 := z0.tr ez4
      refine pk_bw (w_X12_putNumber a2 μ5) (fun μ7 ez5 => ?_)
      have z5 : Tz μ μ7 := z4.tr ez5
      exact pk_some z5
theorem w_X12_putParts_b149 (K6 : Nat → Nat → Int32 → Int32 → Int32 → Int32 → Mem → Option Mem) (hK6 : ∀ (y0 : Nat) (y1 : Nat) (y2 : Int32) (y3 : Int32) (y4 : Int32) (y5 : Int32) (y6 : Mem), pk (K6 y0 y1 y2 y3 y4 y5 y6) (fun q => Tz y6 q)) (a1 : Nat) (a2 : Nat) (a3 : Int32) (a4 : Int32) (a5 : Int32) (a6 : Int32) (μ : Mem) : pk (p_X12_putParts_b149 K6 a1 a2 a3 a4 a5 a6 μ) (fun q => Tz μ q) := by
  have z0 : Tz μ μ := Tz.rf
  rw [p_X12_putParts_b149_eq]
  refine pk_bvy (fun v10 _ => ?_)
  exact pk_mono (hK6 a1 a2 a3 a4 a5 v10 μ) (fun _ hq => z0.tr hq)
theorem w_X12_putParts_b138 (K6 : Nat → Nat → Int32 → Int32 → Int32 → Int32 → Mem → Option Mem) (hK6 : ∀ (y0 : Nat) (y1 : Nat) (y2 : Int32) (y3 : Int32) (y4 : Int32) (y5 : Int32) (y6 : Mem), pk (K6 y0 y1 y2 y3 y4 y5 y6) (fun q => Tz y6 q)) (a1 : Nat) (a2 : Nat) (a3 : Int32) (a4 : Int32) (a5 : Int32) (a6 : Int32) (a7 : Int32) (μ : Mem) : pk (p_X12_putParts_b138 K6 a1 a2 a3 a4 a5 a6 a7 μ) (fun q => Tz μ q) := by
  have z0 : Tz μ μ := Tz.rf
  rw [p_X12_putParts_b138_eq]
  refine pk_ite (fun _ => ?_) (fun _ => ?_)
  · exact pk_mono (w_X12_putParts_b149 K6 hK6 a1 a2 a3 a4 a5 a6 μ) (fun _ hq => z0.tr hq)
  · refine pk_bw (w_X12_put (44 : Int32) μ) (fun μ11 ez1 => ?_)
    have z1 : Tz μ μ11 := z0.tr ez1
    exact pk_mono (w_X12_putParts_b149 K6 hK6 a1 a2 a3 a4 a5 a6 μ11) (fun _ hq => z1.tr hq)
theorem w_X12_putParts_b120 (K6 : Nat → Nat → Int32 → Int32 → Int32 → Int32 → Mem → Option Mem) (hK6 : ∀ (y0 : Nat) (y1 : Nat) (y2 : Int32) (y3 : Int32) (y4 : Int32) (y5 : Int32) (y6 : Mem), pk (K6 y0 y1 y2 y3 y4 y5 y6) (fun q => Tz y6 q)) (a1 : Nat) (a2 : Nat) (a3 : Int32) (a4 : Int32) (a5 : Int32) (a6 : Int32) (a7 : Int32) (μ : Mem) : pk (p_X12_putParts_b120 K6 a1 a2 a3 a4 a5 a6 a7 μ) (fun q => Tz μ q) := by
  have z0 : Tz μ μ := Tz.rf
  rw [p_X12_putParts_b120_eq]
  refine pk_ite (fun _ => ?_) (fun _ => ?_)
  · exact pk_mono (w_X12_putParts_b138 K6 hK6 a1 a2 a3 a4 a5 a6 a7 μ) (fun _ hq => z0.tr hq)
  · refine pk_bvy (fun v13 _ => ?_)
    refine pk_gd (fun _ => ?_)
    refine pk_gd (fun _ => ?_)
    refine pk_bvy (fun μ14 ez1 => ?_)
    have z1 : Tz μ μ14 := by rw [ez1]; exact z0.sF (pz_a (by decide) (by decide))
    exact pk_mono (w_X12_putParts_b138 K6 hK6 a1 a2 a3 a4 a5 a6 a7 μ14) (fun _ hq => z1.tr hq)
theorem w_X12_putParts_b90 (K6 : Nat → Nat → Int32 → Int32 → Int32 → Int32 → Mem → Option Mem) (hK6 : ∀ (y0 : Nat) (y1 : Nat) (y2 : Int32) (y3 : Int32) (y4 : Int32) (y5 : Int32) (y6 : Mem), pk (K6 y0 y1 y2 y3 y4 y5 y6) (fun q => Tz y6 q)) : ∀ (n : Nat) (a1 : Nat) (a2 : Nat) (a3 : Int32) (a4 : Int32) (a5 : Int32) (a6 : Int32) (a7 : Int32) (μ : Mem), pk (p_X12_putParts_b90 K6 n a1 a2 a3 a4 a5 a6 a7 μ) (fun q => Tz μ q) := by
  intro n
  induction n with
  | zero => intro a1 a2 a3 a4 a5 a6 a7 μ r e; rw [p_X12_putParts_b90_z] at e; cases e
  | succ n ih =>
    intro a1 a2 a3 a4 a5 a6 a7 μ
    have z0 : Tz μ μ := Tz.rf
    rw [p_X12_putParts_b90_s]
    refine pk_ite (fun _ => ?_) (fun _ => ?_)
    · exact pk_mono (w_X12_putParts_b120 K6 hK6 a1 a2 a3 a4 a5 a6 a7 μ) (fun _ hq => z0.tr hq)
    · refine pk_gd (fun _ => ?_)
      refine pk_ite (fun _ => ?_) (fun _ => ?_)
      · refine pk_bw (w_X12_put (93 : Int32) μ) (fun μ16 ez1 => ?_)
        have z1 : Tz μ μ16 := z0.tr ez1
        refine pk_bvy (fun v18 _ => ?_)
        exact pk_mono (ih a1 a2 a3 a4 v18 a6 a7 μ16) (fun _ hq => z1.tr hq)
      · exact pk_mono (w_X12_putParts_b120 K6 hK6 a1 a2 a3 a4 a5 a6 a7 μ) (fun _ hq => z0.tr hq)
theorem w_X12_putParts_b88 (K6 : Nat → Nat → Int32 → Int32 → Int32 → Int32 → Mem → Option Mem) (hK6 : ∀ (y0 : Nat) (y1 : Nat) (y2 : Int32) (y3 : Int32) (y4 : Int32) (y5 : Int32) (y6 : Mem), pk (K6 y0 y1 y2 y3 y4 y5 y6) (fun q => Tz y6 q)) (a1 : Nat) (a2 : Nat) (a3 : Int32) (a4 : Int32) (a5 : Int32) (a6 : Int32) (k0 : Int32) (μ : Mem) : pk (p_X12_putParts_b88 K6 a1 a2 a3 a4 a5 a6 k0 μ) (fun q => Tz μ q) := by
  have z0 : Tz μ μ := Tz.rf
  rw [p_X12_putParts_b88_eq]
  exact pk_mono (w_X12_putParts_b90 K6 hK6 FUEL a1 a2 a3 a4 a5 a6 k0 μ) (fun _ hq => z0.tr hq)
theorem w_X12_putParts_b72 (K6 : Nat → Nat → Int32 → Int32 → Int32 → Int32 → Mem → Option Mem) (hK6 : ∀ (y0 : Nat) (y1 : Nat) (y2 : Int32) (y3 : Int32) (y4 : Int32) (y5 : Int32) (y6 : Mem), pk (K6 y0 y1 y2 y3 y4 y5 y6) (fun q => Tz y6 q)) (a1 : Nat) (a2 : Nat) (a3 : Int32) (a4 : Int32) (a5 : Int32) (a6 : Int32) (μ : Mem) : pk (p_X12_putParts_b72 K6 a1 a2 a3 a4 a5 a6 μ) (fun q => Tz μ q) := by
  have z0 : Tz μ μ := Tz.rf
  rw [p_X12_putParts_b72_eq]
  refine pk_ite (fun _ => ?_) (fun _ => ?_)
  · exact pk_mono (w_X12_putParts_b88 K6 hK6 a1 a2 a3 a4 a5 a6 (0 : Int32) μ) (fun _ hq => z0.tr hq)
  · exact pk_mono (w_X12_putParts_b88 K6 hK6 a1 a2 a3 a4 a5 a6 (1 : Int32) μ) (fun _ hq => z0.tr hq)
theorem w_X12_putParts_b6 : ∀ (n : Nat) (a1 : Nat) (a2 : Nat) (a3 : Int32) (a4 : Int32) (a5 : Int32) (a6 : Int32) (μ : Mem), pk (p_X12_putParts_b6  n a1 a2 a3 a4 a5 a6 μ) (fun q => Tz μ q) := by
  intro n
  induction n with
  | zero => intro a1 a2 a3 a4 a5 a6 μ r e; rw [p_X12_putParts_b6_z] at e; cases e
  | succ n ih =>
    intro a1 a2 a3 a4 a5 a6 μ
    have z0 : Tz μ μ := Tz.rf
    rw [p_X12_putParts_b6_s]
    refine pk_ite (fun _ => ?_) (fun _ => ?_)
    · exact pk_some z0
    · refine pk_gd (fun _ => ?_)
      refine pk_ite (fun _ => ?_) (fun _ => ?_)
      · refine pk_bw (w_X12_put (91 : Int32) μ) (fun μ21 ez1 => ?_)
        have z1 : Tz μ μ21 := z0.tr ez1
        refine pk_gd (fun _ => ?_)
        refine pk_bvy (fun μ23 ez2 => ?_)
        have z2 : Tz μ μ23 := by rw [ez2]; exact z1.sF (pz_a (by decide) (by decide))
        refine pk_bvy (fun v24 _ => ?_)
        exact pk_mono (w_X12_putParts_b149 (p_X12_putParts_b6  n) ih a1 a2 a3 a4 v24 a6 μ23) (fun _ hq => z2.tr hq)
      · refine pk_gd (fun _ => ?_)
        refine pk_ite (fun _ => ?_) (fun _ => ?_)
        · refine pk_bw (w_X12_put (42 : Int32) μ) (fun μ19 ez3 => ?_)
          have z3 : Tz μ μ19 := z0.tr ez3
          exact pk_mono (w_X12_putParts_b72 (p_X12_putParts_b6  n) ih a1 a2 a3 a4 a5 a6 μ19) (fun _ hq => z3.tr hq)
        · refine pk_gd (fun _ => ?_)
          refine pk_gd (fun _ => ?_)
          refine pk_bw (w_X12_putOne (μ.1 a1 a6.toNatClampNeg) (μ.1 a2 a6.toNatClampNeg) μ) (fun μ4 ez4 => ?_)
          have z4 : Tz μ μ4 := z0.tr ez4
          exact pk_mono (w_X12_putParts_b72 (p_X12_putParts_b6  n) ih a1 a2 a3 a4 a5 a6 μ4) (fun _ hq => z4.tr hq)
theorem w_X12_putParts (a1 : Nat) (a2 : Nat) (a3 : Int32) (a4 : Int32) (μ : Mem) : pk (p_X12_putParts a1 a2 a3 a4 μ) (fun q => Tz μ q) := by
  have z0 : Tz μ μ := Tz.rf
  rw [p_X12_putParts_eq]
  exact pk_mono (w_X12_putParts_b6 FUEL a1 a2 a3 a4 (0 : Int32) a3 μ) (fun _ hq => z0.tr hq)
theorem w_X12_value (μ : Mem) : pk (p_X12_value μ) (fun q => Tz μ q.2) := by
  have z0 : Tz μ μ := Tz.rf
  rw [p_X12_value_eq]
  refine pk_ite (fun _ => ?_) (fun _ => ?_)
  · exact pk_some z0
  · refine pk_bvy (fun μ2 ez1 => ?_)
    have z1 : Tz μ μ2 := by rw [ez1]; exact z0.sF (pz_f (by decide))
    refine pk_bw (w_X12_putParts 82 83 (0 : Int32) (μ2.1 0 133) μ2) (fun μ3 ez2 => ?_)
    have z2 : Tz μ μ3 := z1.tr ez2
    exact pk_some z2
theorem w_X12_putOperand (a1 : Int32) (μ : Mem) : pk (p_X12_putOperand a1 μ) (fun q => Tz μ q) := by
  have z0 : Tz μ μ := Tz.rf
  rw [p_X12_putOperand_eq]
  refine pk_gd (fun _ => ?_)
  refine pk_gd (fun _ => ?_)
  refine pk_bw (w_X12_putOne (μ.1 53 a1.toNatClampNeg) (μ.1 54 a1.toNatClampNeg) μ) (fun μ1 ez1 => ?_)
  have z1 : Tz μ μ1 := z0.tr ez1
  exact pk_some z1
theorem w_X12_putList_b64 (K42 : Int32 → Int32 → Int32 → Int32 → Mem → Option Mem) (hK42 : ∀ (y0 : Int32) (y1 : Int32) (y2 : Int32) (y3 : Int32) (y4 : Mem), pk (K42 y0 y1 y2 y3 y4) (fun q => Tz y4 q)) (a1 : Int32) (a2 : Int32) (a3 : Int32) (a4 : Int32) (μ : Mem) : pk (p_X12_putList_b64 K42 a1 a2 a3 a4 μ) (fun q => Tz μ q) := by
  have z0 : Tz μ μ := Tz.rf
  rw [p_X12_putList_b64_eq]
  refine pk_bw (w_X12_putOperand (a3 + a4) μ) (fun μ12 ez1 => ?_)
  have z1 : Tz μ μ12 := z0.tr ez1
  refine pk_bvy (fun v14 _ => ?_)
  exact pk_mono (hK42 a1 a2 a3 v14 μ12) (fun _ hq => z1.tr hq)
theorem w_X12_putList_b42 : ∀ (n : Nat) (a1 : Int32) (a2 : Int32) (a3 : Int32) (a4 : Int32) (μ : Mem), pk (p_X12_putList_b42  n a1 a2 a3 a4 μ) (fun q => Tz μ q) := by
  intro n
  induction n with
  | zero => intro a1 a2 a3 a4 μ r e; rw [p_X12_putList_b42_z] at e; cases e
  | succ n ih =>
    intro a1 a2 a3 a4 μ
    have z0 : Tz μ μ := Tz.rf
    rw [p_X12_putList_b42_s]
    refine pk_gd (fun _ => ?_)
    refine pk_ite (fun _ => ?_) (fun _ => ?_)
    · refine pk_ite (fun _ => ?_) (fun _ => ?_)
      · refine pk_bw (w_X12_put (93 : Int32) μ) (fun μ9 ez1 => ?_)
        have z1 : Tz μ μ9 := z0.tr ez1
        exact pk_some z1
      · refine pk_bw (w_X12_put (41 : Int32) μ) (fun μ7 ez2 => ?_)
        have z2 : Tz μ μ7 := z0.tr ez2
        exact pk_some z2
    · refine pk_ite (fun _ => ?_) (fun _ => ?_)
      · exact pk_mono (w_X12_putList_b64 (p_X12_putList_b42  n) ih a1 a2 a3 a4 μ) (fun _ hq => z0.tr hq)
      · refine pk_bw (w_X12_put (44 : Int32) μ) (fun μ15 ez3 => ?_)
        have z3 : Tz μ μ15 := z0.tr ez3
        exact pk_mono (w_X12_putList_b64 (p_X12_putList_b42  n) ih a1 a2 a3 a4 μ15) (fun _ hq => z3.tr hq)
theorem w_X12_putList_b36 (a1 : Int32) (a2 : Int32) (a3 : Int32) (k0 : Int32) (μ : Mem) : pk (p_X12_putList_b36 a1 a2 a3 k0 μ) (fun q => Tz μ q) := by
  have z0 : Tz μ μ := Tz.rf
  rw [p_X12_putList_b36_eq]
  refine pk_bw (w_X12_put k0 μ) (fun μ3 ez1 => ?_)
  have z1 : Tz μ μ3 := z0.tr ez1
  exact pk_mono (w_X12_putList_b42 FUEL a1 a2 a3 (0 : Int32) μ3) (fun _ hq => z1.tr hq)
theorem w_X12_putList_b22 (a1 : Int32) (a2 : Int32) (a3 : Int32) (μ : Mem) : pk (p_X12_putList_b22 a1 a2 a3 μ) (fun q => Tz μ q) := by
  have z0 : Tz μ μ := Tz.rf
  rw [p_X12_putList_b22_eq]
  refine pk_ite (fun _ => ?_) (fun _ => ?_)
  · exact pk_mono (w_X12_putList_b36 a1 a2 a3 (91 : Int32) μ) (fun _ hq => z0.tr hq)
  · exact pk_mono (w_X12_putList_b36 a1 a2 a3 (40 : Int32) μ) (fun _ hq => z0.tr hq)
theorem w_X12_putList (a1 : Int32) (a2 : Int32) (a3 : Int32) (μ : Mem) : pk (p_X12_putList a1 a2 a3 μ) (fun q => Tz μ q) := by
  have z0 : Tz μ μ := Tz.rf
  rw [p_X12_putList_eq]
  refine pk_ite (fun _ => ?_) (fun _ => ?_)
  · refine pk_bw (w_X12_put (99 : Int32) μ) (fun μ17 ez1 => ?_)
    have z1 : Tz μ μ17 := z0.tr ez1
    refine pk_gd (fun _ => ?_)
    refine pk_bw (w_X12_putNumber (μ17.1 48 a1.toNatClampNeg) μ17) (fun μ19 ez2 => ?_)
    have z2 : Tz μ μ19 := z1.tr ez2
    exact pk_mono (w_X12_putList_b22 a1 a2 a3 μ19) (fun _ hq => z2.tr hq)
  · exact pk_mono (w_X12_putList_b22 a1 a2 a3 μ) (fun _ hq => z0.tr hq)
theorem w_X12_putRest_b105 (a1 : Int32) (a2 : Int32) (a3 : Int32) (k0 : Int32) (μ : Mem) : pk (p_X12_putRest_b105 a1 a2 a3 k0 μ) (fun q => Tz μ q) := by
  have z0 : Tz μ μ := Tz.rf
  rw [p_X12_putRest_b105_eq]
  refine pk_bw (w_X12_put k0 μ) (fun μ11 ez1 => ?_)
  have z1 : Tz μ μ11 := z0.tr ez1
  refine pk_gd (fun _ => ?_)
  refine pk_bw (w_X12_put ((48 : Int32) + (μ11.1 48 a1.toNatClampNeg)) μ11) (fun μ13 ez2 => ?_)
  have z2 : Tz μ μ13 := z1.tr ez2
  refine pk_ite (fun _ => ?_) (fun _ => ?_)
  · refine pk_bw (w_X12_putOperand a3 μ13) (fun μ16 ez3 => ?_)
    have z3 : Tz μ μ16 := z2.tr ez3
    exact pk_some z3
  · exact pk_some z2
theorem w_X12_putRest (a1 : Int32) (a2 : Int32) (a3 : Int32) (μ : Mem) : pk (p_X12_putRest a1 a2 a3 μ) (fun q => Tz μ q) := by
  have z0 : Tz μ μ := Tz.rf
  rw [p_X12_putRest_eq]
  refine pk_ite (fun _ => ?_) (fun _ => ?_)
  · refine pk_bw (w_X12_put (40 : Int32) μ) (fun μ26 ez1 => ?_)
    have z1 : Tz μ μ26 := z0.tr ez1
    refine pk_bw (w_X12_putOperand a3 μ26) (fun μ28 ez2 => ?_)
    have z2 : Tz μ μ28 := z1.tr ez2
    refine pk_gd (fun _ => ?_)
    refine pk_bw (w_X12_put (μ28.1 48 a1.toNatClampNeg) μ28) (fun μ30 ez3 => ?_)
    have z3 : Tz μ μ30 := z2.tr ez3
    refine pk_bw (w_X12_putOperand (a3 + (1 : Int32)) μ30) (fun μ32 ez4 => ?_)
    have z4 : Tz μ μ32 := z3.tr ez4
    refine pk_bw (w_X12_put (41 : Int32) μ32) (fun μ34 ez5 => ?_)
    have z5 : Tz μ μ34 := z4.tr ez5
    exact pk_some z5
  · refine pk_ite (fun _ => ?_) (fun _ => ?_)
    · refine pk_ite (fun _ => ?_) (fun _ => ?_)
      · refine pk_bw (w_X12_put (33 : Int32) μ) (fun μ18 ez6 => ?_)
        have z6 : Tz μ μ18 := z0.tr ez6
        refine pk_bw (w_X12_putOperand a3 μ18) (fun μ20 ez7 => ?_)
        have z7 : Tz μ μ20 := z6.tr ez7
        exact pk_some z7
      · refine pk_ite (fun _ => ?_) (fun _ => ?_)
        · refine pk_ite (fun _ => ?_) (fun _ => ?_)
          · refine pk_bw (w_X12_put (45 : Int32) μ) (fun μ8 ez8 => ?_)
            have z8 : Tz μ μ8 := z0.tr ez8
            exact pk_some z8
          · refine pk_bw (w_X12_putList a1 a2 a3 μ) (fun μ6 ez9 => ?_)
            have z9 : Tz μ μ6 := z0.tr ez9
            exact pk_some z9
        · refine pk_ite (fun _ => ?_) (fun _ => ?_)
          · exact pk_mono (w_X12_putRest_b105 a1 a2 a3 (38 : Int32) μ) (fun _ hq => z0.tr hq)
          · exact pk_mono (w_X12_putRest_b105 a1 a2 a3 (95 : Int32) μ) (fun _ hq => z0.tr hq)
    · refine pk_bw (w_X12_put (s_X12_signOfOne (a2 - (1 : Int32))) μ) (fun μ22 ez10 => ?_)
      have z10 : Tz μ μ22 := z0.tr ez10
      refine pk_bw (w_X12_putOperand a3 μ22) (fun μ24 ez11 => ?_)
      have z11 : Tz μ μ24 := z10.tr ez11
      exact pk_some z11
theorem w_X12_putItem_b26 (a2 : Int32) (a3 : Int32) (μ : Mem) : pk (p_X12_putItem_b26 a2 a3 μ) (fun q => Tz μ q) := by
  have z0 : Tz μ μ := Tz.rf
  rw [p_X12_putItem_b26_eq]
  refine pk_bw (w_X12_putOperand a3 μ) (fun μ4 ez1 => ?_)
  have z1 : Tz μ μ4 := z0.tr ez1
  refine pk_bw (w_X12_put (125 : Int32) μ4) (fun μ6 ez2 => ?_)
  have z2 : Tz μ μ6 := z1.tr ez2
  refine pk_ite (fun _ => ?_) (fun _ => ?_)
  · refine pk_bw (w_X12_put (123 : Int32) μ6) (fun μ11 ez3 => ?_)
    have z3 : Tz μ μ11 := z2.tr ez3
    exact pk_some z3
  · refine pk_bw (w_X12_put (59 : Int32) μ6) (fun μ9 ez4 => ?_)
    have z4 : Tz μ μ9 := z2.tr ez4
    exact pk_some z4
theorem w_X12_putItem_b78 (a1 : Int32) (a2 : Int32) (a3 : Int32) (μ : Mem) : pk (p_X12_putItem_b78 a1 a2 a3 μ) (fun q => Tz μ q) := by
  have z0 : Tz μ μ := Tz.rf
  rw [p_X12_putItem_b78_eq]
  refine pk_ite (fun _ => ?_) (fun _ => ?_)
  · refine pk_bw (w_X12_put (63 : Int32) μ) (fun μ20 ez1 => ?_)
    have z1 : Tz μ μ20 := z0.tr ez1
    refine pk_bw (w_X12_putOperand a3 μ20) (fun μ22 ez2 => ?_)
    have z2 : Tz μ μ22 := z1.tr ez2
    refine pk_bw (w_X12_put (123 : Int32) μ22) (fun μ24 ez3 => ?_)
    have z3 : Tz μ μ24 := z2.tr ez3
    exact pk_some z3
  · refine pk_bw (w_X12_putRest a1 a2 a3 μ) (fun μ16 ez4 => ?_)
    have z4 : Tz μ μ16 := z0.tr ez4
    refine pk_bw (w_X12_put (59 : Int32) μ16) (fun μ18 ez5 => ?_)
    have z5 : Tz μ μ18 := z4.tr ez5
    exact pk_some z5
theorem w_X12_putItem (a1 : Int32) (μ : Mem) : pk (p_X12_putItem a1 μ) (fun q => Tz μ q) := by
  have z0 : Tz μ μ := Tz.rf
  rw [p_X12_putItem_eq]
  refine pk_gd (fun _ => ?_)
  refine pk_bvy (fun v1 _ => ?_)
  refine pk_gd (fun _ => ?_)
  refine pk_bvy (fun v2 _ => ?_)
  refine pk_ite (fun _ => ?_) (fun _ => ?_)
  · exact pk_mono (w_X12_putItem_b26 v1 v2 μ) (fun _ hq => z0.tr hq)
  · refine pk_ite (fun _ => ?_) (fun _ => ?_)
    · exact pk_mono (w_X12_putItem_b26 v1 v2 μ) (fun _ hq => z0.tr hq)
    · refine pk_ite (fun _ => ?_) (fun _ => ?_)
      · exact pk_mono (w_X12_putItem_b78 a1 v1 v2 μ) (fun _ hq => z0.tr hq)
      · refine pk_gd (fun _ => ?_)
        refine pk_bw (w_X12_putOne (3 : Int32) (μ.1 47 a1.toNatClampNeg) μ) (fun μ26 ez1 => ?_)
        have z1 : Tz μ μ26 := z0.tr ez1
        refine pk_bw (w_X12_put (61 : Int32) μ26) (fun μ28 ez2 => ?_)
        have z2 : Tz μ μ28 := z1.tr ez2
        exact pk_mono (w_X12_putItem_b78 a1 v1 v2 μ28) (fun _ hq => z2.tr hq)
theorem w_X12_write_b83 : ∀ (n : Nat) (a1 : Int32) (a2 : Int32) (μ : Mem), pk (p_X12_write_b83  n a1 a2 μ) (fun q => Tz μ q.2) := by
  intro n
  induction n with
  | zero => intro a1 a2 μ r e; rw [p_X12_write_b83_z] at e; cases e
  | succ n ih =>
    intro a1 a2 μ
    have z0 : Tz μ μ := Tz.rf
    rw [p_X12_write_b83_s]
    refine pk_gd (fun _ => ?_)
    refine pk_ite (fun _ => ?_) (fun _ => ?_)
    · refine pk_gd (fun _ => ?_)
      refine pk_bw (w_X12_putOperand (μ.1 64 a1.toNatClampNeg) μ) (fun μ17 ez1 => ?_)
      have z1 : Tz μ μ17 := z0.tr ez1
      refine pk_bw (w_X12_put (59 : Int32) μ17) (fun μ19 ez2 => ?_)
      have z2 : Tz μ μ19 := z1.tr ez2
      exact pk_some z2
    · refine pk_bw (w_X12_putItem a2 μ) (fun μ21 ez3 => ?_)
      have z3 : Tz μ μ21 := z0.tr ez3
      refine pk_bvy (fun v23 _ => ?_)
      exact pk_mono (ih a1 v23 μ21) (fun _ hq => z3.tr hq)
theorem w_X12_write (a1 : Int32) (μ : Mem) : pk (p_X12_write a1 μ) (fun q => Tz μ q.2) := by
  have z0 : Tz μ μ := Tz.rf
  rw [p_X12_write_eq]
  refine pk_bd (w_X12_isVariant a1 μ) (fun r2 μ1 ez1 => ?_)
  have z1 : Tz μ μ1 := z0.tr ez1
  refine pk_ite (fun _ => ?_) (fun _ => ?_)
  · exact pk_some z1
  · refine pk_bvy (fun μ4 ez2 => ?_)
    have z2 : Tz μ μ4 := by rw [ez2]; exact z1.sF (pz_f (by decide))
    refine pk_gd (fun _ => ?_)
    refine pk_gd (fun _ => ?_)
    refine pk_bw (w_X12_put (((97 : Int32) + (μ4.1 2 (μ4.1 57 a1.toNatClampNeg).toNatClampNeg)) - (1 : Int32)) μ4) (fun μ5 ez3 => ?_)
    have z3 : Tz μ μ5 := z2.tr ez3
    refine pk_bw (w_X12_put (40 : Int32) μ5) (fun μ7 ez4 => ?_)
    have z4 : Tz μ μ7 := z3.tr ez4
    refine pk_gd (fun _ => ?_)
    refine pk_bw (w_X12_putParts 60 61 ((210 : Int32) * a1) (μ7.1 58 a1.toNatClampNeg) μ7) (fun μ9 ez5 => ?_)
    have z5 : Tz μ μ9 := z4.tr ez5
    refine pk_bw (w_X12_put (41 : Int32) μ9) (fun μ11 ez6 => ?_)
    have z6 : Tz μ μ11 := z5.tr ez6
    refine pk_bw (w_X12_put (61 : Int32) μ11) (fun μ13 ez7 => ?_)
    have z7 : Tz μ μ13 := z6.tr ez7
    refine pk_gd (fun _ => ?_)
    refine pk_bvy (fun v15 _ => ?_)
    exact pk_mono (w_X12_write_b83 FUEL a1 v15 μ13) (fun _ hq => z7.tr hq)
theorem w_X12_octet (a1 : Int32) (μ : Mem) : pk (p_X12_octet a1 μ) (fun q => Tz μ q.2) := by
  have z0 : Tz μ μ := Tz.rf
  rw [p_X12_octet_eq]
  refine pk_ite (fun _ => ?_) (fun _ => ?_)
  · exact pk_some z0
  · refine pk_gd (fun _ => ?_)
    exact pk_some z0
