def Py5 (i k : Nat) : Prop := (i = 2 ∨ i = 3 ∨ i = 4 ∨ i = 5 ∨ i = 6 ∨ i = 7 ∨ i = 8 ∨ i = 9 ∨ i = 10 ∨ i = 25 ∨ i = 26 ∨ i = 27 ∨ i = 28 ∨ i = 29) ∨ (i = 0 ∧ (k = 17 ∨ k = 18 ∨ k = 42 ∨ k = 43 ∨ k = 44 ∨ k = 45 ∨ k = 46 ∨ k = 47))
def Yz5 (μ q : Mem) : Prop := ∀ i k, Py5 i k → q.1 i k = μ.1 i k
theorem Yz5.rf {μ : Mem} : Yz5 μ μ := fun _ _ _ => rfl
theorem Yz5.tr {μ q z : Mem} (h : Yz5 μ q) (h2 : Yz5 q z) : Yz5 μ z := fun i k hk => (h2 i k hk).trans (h i k hk)
theorem py_a {i k : Nat} (h0 : i ≠ 0) (h : ¬ (i = 2 ∨ i = 3 ∨ i = 4 ∨ i = 5 ∨ i = 6 ∨ i = 7 ∨ i = 8 ∨ i = 9 ∨ i = 10 ∨ i = 25 ∨ i = 26 ∨ i = 27 ∨ i = 28 ∨ i = 29)) : ¬ Py5 i k := fun e => e.elim h (fun e => h0 e.1)
theorem py_f {k : Nat} (h : ¬ (k = 17 ∨ k = 18 ∨ k = 42 ∨ k = 43 ∨ k = 44 ∨ k = 45 ∨ k = 46 ∨ k = 47)) : ¬ Py5 0 k := fun e => e.elim (fun e => by omega) (fun e => h e.2)
theorem Yz5.sF {μ q : Mem} {i k : Nat} {v : Int32} (h : Yz5 μ q) (hn : ¬ Py5 i k) : Yz5 μ (sF q i k v) := by
  intro i2 k2 hk
  by_cases e : i2 = i
  · by_cases e2 : k2 = k
    · subst e; subst e2; exact absurd hk hn
    · rw [e, sF_k e2, ← e]; exact h i2 k2 hk
  · rw [sF_i e]; exact h i2 k2 hk
theorem y_X12_four_b3 : ∀ (n : Nat) (a1 : Int32) (a2 : Int32) (μ : Mem), pk (p_X12_four_b3  n a1 a2 μ) (fun q => Yz5 μ q) := by
  intro n
  induction n with
  | zero => intro a1 a2 μ r e; rw [p_X12_four_b3_z] at e; cases e
  | succ n ih =>
    intro a1 a2 μ
    have z0 : Yz5 μ μ := Yz5.rf
    rw [p_X12_four_b3_s]
    refine pk_ite (fun _ => ?_) (fun _ => ?_)
    · exact pk_some z0
    · refine pk_gd (fun _ => ?_)
      refine pk_bvy (fun μ2 ez1 => ?_)
      have z1 : Yz5 μ μ2 := by rw [ez1]; exact z0.sF (py_a (by decide) (by decide))
      refine pk_bvy (fun μ3 ez2 => ?_)
      have z2 : Yz5 μ μ3 := by rw [ez2]; exact z1.sF (py_f (by decide))
      refine pk_bvy (fun v4 _ => ?_)
      exact pk_mono (ih a1 v4 μ3) (fun _ hq => z2.tr hq)
theorem y_X12_four (a1 : Int32) (μ : Mem) : pk (p_X12_four a1 μ) (fun q => Yz5 μ q) := by
  have z0 : Yz5 μ μ := Yz5.rf
  rw [p_X12_four_eq]
  exact pk_mono (y_X12_four_b3 FUEL a1 (24 : Int32) μ) (fun _ hq => z0.tr hq)
theorem y_X12_feed (a1 : Int32) (a2 : Int32) (a3 : Int32) (a4 : Int32) (a5 : Int32) (μ : Mem) : pk (p_X12_feed a1 a2 a3 a4 a5 μ) (fun q => Yz5 μ q.2) := by
  have z0 : Yz5 μ μ := Yz5.rf
  rw [p_X12_feed_eq]
  refine pk_ite (fun _ => ?_) (fun _ => ?_)
  · refine pk_bw (y_X12_four a1 μ) (fun μ2 ez1 => ?_)
    have z1 : Yz5 μ μ2 := z0.tr ez1
    refine pk_bw (y_X12_four a2 μ2) (fun μ4 ez2 => ?_)
    have z2 : Yz5 μ μ4 := z1.tr ez2
    refine pk_bw (y_X12_four a3 μ4) (fun μ6 ez3 => ?_)
    have z3 : Yz5 μ μ6 := z2.tr ez3
    refine pk_bw (y_X12_four a4 μ6) (fun μ8 ez4 => ?_)
    have z4 : Yz5 μ μ8 := z3.tr ez4
    refine pk_bw (y_X12_four a5 μ8) (fun μ10 ez5 => ?_)
    have z5 : Yz5 μ μ10 := z4.tr ez5
    exact pk_some z5
  · exact pk_some z0
theorem y_X12_end (a1 : Int32) (μ : Mem) : pk (p_X12_end a1 μ) (fun q => Yz5 μ q.2) := by
  have z0 : Yz5 μ μ := Yz5.rf
  rw [p_X12_end_eq]
  refine pk_ite (fun _ => ?_) (fun _ => ?_)
  · exact pk_some z0
  · refine pk_bvy (fun μ2 ez1 => ?_)
    have z1 : Yz5 μ μ2 := by rw [ez1]; exact z0.sF (py_f (by decide))
    exact pk_some z1
theorem y_X12_here (μ : Mem) : pk (p_X12_here μ) (fun q => Yz5 μ q.2) := by
  have z0 : Yz5 μ μ := Yz5.rf
  rw [p_X12_here_eq]
  refine pk_ite (fun _ => ?_) (fun _ => ?_)
  · exact pk_some z0
  · refine pk_gd (fun _ => ?_)
    exact pk_some z0
theorem y_X12_fails (a1 : Int32) (μ : Mem) : pk (p_X12_fails a1 μ) (fun q => Yz5 μ q.2) := by
  have z0 : Yz5 μ μ := Yz5.rf
  rw [p_X12_fails_eq]
  refine pk_bvy (fun μ1 ez1 => ?_)
  have z1 : Yz5 μ μ1 := by rw [ez1]; exact z0.sF (py_f (by decide))
  exact pk_some z1
theorem y_X12_takes (a1 : Int32) (μ : Mem) : pk (p_X12_takes a1 μ) (fun q => Yz5 μ q.2) := by
  have z0 : Yz5 μ μ := Yz5.rf
  rw [p_X12_takes_eq]
  refine pk_bd (y_X12_here μ) (fun r2 μ1 ez1 => ?_)
  have z1 : Yz5 μ μ1 := z0.tr ez1
  refine pk_ite (fun _ => ?_) (fun _ => ?_)
  · refine pk_bvy (fun μ4 ez2 => ?_)
    have z2 : Yz5 μ μ4 := by rw [ez2]; exact z1.sF (py_f (by decide))
    exact pk_some z2
  · refine pk_bd (y_X12_fails (μ1.1 0 4) μ1) (fun r6 μ5 ez3 => ?_)
    have z3 : Yz5 μ μ5 := z1.tr ez3
    refine pk_gd (fun _ => ?_)
    exact pk_some z3
theorem y_X12_beginText (μ : Mem) : pk (p_X12_beginText μ) (fun q => Yz5 μ q) := by
  have z0 : Yz5 μ μ := Yz5.rf
  rw [p_X12_beginText_eq]
  refine pk_bvy (fun μ1 ez1 => ?_)
  have z1 : Yz5 μ μ1 := by rw [ez1]; exact z0.sF (py_f (by decide))
  refine pk_bvy (fun μ2 ez2 => ?_)
  have z2 : Yz5 μ μ2 := by rw [ez2]; exact z1.sF (py_f (by decide))
  exact pk_some z2
theorem y_X12_beginsNumber (μ : Mem) : pk (p_X12_beginsNumber μ) (fun q => Yz5 μ q.2) := by
  have z0 : Yz5 μ μ := Yz5.rf
  rw [p_X12_beginsNumber_eq]
  refine pk_bd (y_X12_here μ) (fun r2 μ1 ez1 => ?_)
  have z1 : Yz5 μ μ1 := z0.tr ez1
  refine pk_ite (fun _ => ?_) (fun _ => ?_)
  · refine pk_bd (y_X12_here μ1) (fun r5 μ4 ez2 => ?_)
    have z2 : Yz5 μ μ4 := z1.tr ez2
    refine pk_ite (fun _ => ?_) (fun _ => ?_)
    · exact pk_some z2
    · exact pk_some z2
  · exact pk_some z1
theorem y_X12_digits_b8 : ∀ (n : Nat) (a1 : Int32) (a3 : Int32) (a4 : Int32) (μ : Mem), pk (p_X12_digits_b8  n a1 a3 a4 μ) (fun q => Yz5 μ q.2) := by
  intro n
  induction n with
  | zero => intro a1 a3 a4 μ r e; rw [p_X12_digits_b8_z] at e; cases e
  | succ n ih =>
    intro a1 a3 a4 μ
    have z0 : Yz5 μ μ := Yz5.rf
    rw [p_X12_digits_b8_s]
    refine pk_bd (y_X12_here μ) (fun r3 μ2 ez1 => ?_)
    have z1 : Yz5 μ μ2 := z0.tr ez1
    refine pk_ite (fun _ => ?_) (fun _ => ?_)
    · exact pk_some z1
    · refine pk_ite (fun _ => ?_) (fun _ => ?_)
      · exact pk_some z1
      · refine pk_bd (y_X12_here μ2) (fun r7 μ6 ez2 => ?_)
        have z2 : Yz5 μ μ6 := z1.tr ez2
        refine pk_bvy (fun v8 _ => ?_)
        refine pk_bvy (fun μ9 ez3 => ?_)
        have z3 : Yz5 μ μ9 := by rw [ez3]; exact z2.sF (py_f (by decide))
        exact pk_mono (ih a1 v8 a4 μ9) (fun _ hq => z3.tr hq)
theorem y_X12_digits (a1 : Int32) (a2 : Int32) (μ : Mem) : pk (p_X12_digits a1 a2 μ) (fun q => Yz5 μ q.2) := by
  have z0 : Yz5 μ μ := Yz5.rf
  rw [p_X12_digits_eq]
  refine pk_bvy (fun v1 _ => ?_)
  exact pk_mono (y_X12_digits_b8 FUEL a1 a2 v1 μ) (fun _ hq => z0.tr hq)
theorem y_X12_readNumber_b161 (a1 : Int32) (a2 : Int32) (k0 : UInt32) (μ : Mem) : pk (p_X12_readNumber_b161 a1 a2 k0 μ) (fun q => Yz5 μ q.2) := by
  have z0 : Yz5 μ μ := Yz5.rf
  rw [p_X12_readNumber_b161_eq]
  refine pk_bvy (fun μ25 ez1 => ?_)
  have z1 : Yz5 μ μ25 := by rw [ez1]; exact z0.sF (py_f (by decide))
  refine pk_ite (fun _ => ?_) (fun _ => ?_)
  · refine pk_gd (fun _ => ?_)
    refine pk_bvy (fun μ28 ez2 => ?_)
    have z2 : Yz5 μ μ28 := by rw [ez2]; exact z1.sF (py_f (by decide))
    exact pk_some z2
  · refine pk_gd (fun _ => ?_)
    refine pk_bvy (fun μ30 ez3 => ?_)
    have z3 : Yz5 μ μ30 := by rw [ez3]; exact z1.sF (py_f (by decide))
    exact pk_some z3
theorem y_X12_readNumber_b71 (a1 : Int32) (a2 : Int32) (k0 : Int32) (μ : Mem) : pk (p_X12_readNumber_b71 a1 a2 k0 μ) (fun q => Yz5 μ q.2) := by
  have z0 : Yz5 μ μ := Yz5.rf
  rw [p_X12_readNumber_b71_eq]
  refine pk_bvy (fun μ12 ez1 => ?_)
  have z1 : Yz5 μ μ12 := by rw [ez1]; exact z0.sF (py_f (by decide))
  refine pk_bd (y_X12_here μ12) (fun r14 μ13 ez2 => ?_)
  have z2 : Yz5 μ μ13 := z1.tr ez2
  refine pk_ite (fun _ => ?_) (fun _ => ?_)
  · refine pk_bvy (fun μ16 ez3 => ?_)
    have z3 : Yz5 μ μ16 := by rw [ez3]; exact z2.sF (py_f (by decide))
    refine pk_bd (y_X12_here μ16) (fun r18 μ17 ez4 => ?_)
    have z4 : Yz5 μ μ17 := z3.tr ez4
    refine pk_ite (fun _ => ?_) (fun _ => ?_)
    · refine pk_bd (y_X12_fails (μ17.1 0 4) μ17) (fun r32 μ31 ez5 => ?_)
      have z5 : Yz5 μ μ31 := z4.tr ez5
      refine pk_gd (fun _ => ?_)
      exact pk_some z5
    · refine pk_bvy (fun v20 _ => ?_)
      refine pk_bd (y_X12_digits (3 : Int32) a2 μ17) (fun r22 μ21 ez6 => ?_)
      have z6 : Yz5 μ μ21 := z4.tr ez6
      refine pk_ite (fun _ => ?_) (fun _ => ?_)
      · exact pk_mono (y_X12_readNumber_b161 a1 r22 (1092616192) μ21) (fun _ hq => z6.tr hq)
      · refine pk_ite (fun _ => ?_) (fun _ => ?_)
        · exact pk_mono (y_X12_readNumber_b161 a1 r22 (1120403456) μ21) (fun _ hq => z6.tr hq)
        · exact pk_mono (y_X12_readNumber_b161 a1 r22 (1148846080) μ21) (fun _ hq => z6.tr hq)
  · exact pk_some z2
theorem y_X12_readNumber_b29 (a1 : Int32) (μ : Mem) : pk (p_X12_readNumber_b29 a1 μ) (fun q => Yz5 μ q.2) := by
  have z0 : Yz5 μ μ := Yz5.rf
  rw [p_X12_readNumber_b29_eq]
  refine pk_bd (y_X12_here μ) (fun r6 μ5 ez1 => ?_)
  have z1 : Yz5 μ μ5 := z0.tr ez1
  refine pk_ite (fun _ => ?_) (fun _ => ?_)
  · refine pk_bd (y_X12_fails (μ5.1 0 4) μ5) (fun r35 μ34 ez2 => ?_)
    have z2 : Yz5 μ μ34 := z1.tr ez2
    refine pk_gd (fun _ => ?_)
    exact pk_some z2
  · refine pk_bd (y_X12_digits (5 : Int32) (0 : Int32) μ5) (fun r9 μ8 ez3 => ?_)
    have z3 : Yz5 μ μ8 := z1.tr ez3
    refine pk_bvy (fun μ10 ez4 => ?_)
    have z4 : Yz5 μ μ10 := by rw [ez4]; exact z3.sF (py_f (by decide))
    refine pk_ite (fun _ => ?_) (fun _ => ?_)
    · exact pk_mono (y_X12_readNumber_b71 a1 r9 r9 μ10) (fun _ hq => z4.tr hq)
    · exact pk_mono (y_X12_readNumber_b71 a1 r9 (-r9) μ10) (fun _ hq => z4.tr hq)
theorem y_X12_readNumber_b14 (k0 : Int32) (μ : Mem) : pk (p_X12_readNumber_b14 k0 μ) (fun q => Yz5 μ q.2) := by
  have z0 : Yz5 μ μ := Yz5.rf
  rw [p_X12_readNumber_b14_eq]
  refine pk_ite (fun _ => ?_) (fun _ => ?_)
  · exact pk_mono (y_X12_readNumber_b29 k0 μ) (fun _ hq => z0.tr hq)
  · refine pk_bvy (fun μ37 ez1 => ?_)
    have z1 : Yz5 μ μ37 := by rw [ez1]; exact z0.sF (py_f (by decide))
    exact pk_mono (y_X12_readNumber_b29 k0 μ37) (fun _ hq => z1.tr hq)
theorem y_X12_readNumber (μ : Mem) : pk (p_X12_readNumber μ) (fun q => Yz5 μ q.2) := by
  have z0 : Yz5 μ μ := Yz5.rf
  rw [p_X12_readNumber_eq]
  refine pk_bd (y_X12_here μ) (fun r2 μ1 ez1 => ?_)
  have z1 : Yz5 μ μ1 := z0.tr ez1
  refine pk_ite (fun _ => ?_) (fun _ => ?_)
  · exact pk_mono (y_X12_readNumber_b14 (1 : Int32) μ1) (fun _ hq => z1.tr hq)
  · exact pk_mono (y_X12_readNumber_b14 (0 : Int32) μ1) (fun _ hq => z1.tr hq)
theorem y_X12_lay (a1 : Int32) (a2 : Int32) (a3 : Int32) (μ : Mem) : pk (p_X12_lay a1 a2 a3 μ) (fun q => Yz5 μ q.2) := by
  have z0 : Yz5 μ μ := Yz5.rf
  rw [p_X12_lay_eq]
  refine pk_gd (fun _ => ?_)
  refine pk_bvy (fun μ1 ez1 => ?_)
  have z1 : Yz5 μ μ1 := by rw [ez1]; exact z0.sF (py_a (by decide) (by decide))
  refine pk_gd (fun _ => ?_)
  refine pk_bvy (fun μ2 ez2 => ?_)
  have z2 : Yz5 μ μ2 := by rw [ez2]; exact z1.sF (py_a (by decide) (by decide))
  refine pk_gd (fun _ => ?_)
  refine pk_bvy (fun μ3 ez3 => ?_)
  have z3 : Yz5 μ μ3 := by rw [ez3]; exact z2.sF (py_a (by decide) (by decide))
  refine pk_bvy (fun μ4 ez4 => ?_)
  have z4 : Yz5 μ μ4 := by rw [ez4]; exact z3.sF (py_f (by decide))
  exact pk_some z4
theorem y_X12_openThing (μ : Mem) : pk (p_X12_openThing μ) (fun q => Yz5 μ q) := by
  have z0 : Yz5 μ μ := Yz5.rf
  rw [p_X12_openThing_eq]
  refine pk_gd (fun _ => ?_)
  refine pk_bvy (fun μ1 ez1 => ?_)
  have z1 : Yz5 μ μ1 := by rw [ez1]; exact z0.sF (py_a (by decide) (by decide))
  refine pk_gd (fun _ => ?_)
  refine pk_bvy (fun μ2 ez2 => ?_)
  have z2 : Yz5 μ μ2 := by rw [ez2]; exact z1.sF (py_a (by decide) (by decide))
  refine pk_bvy (fun μ3 ez3 => ?_)
  have z3 : Yz5 μ μ3 := by rw [ez3]; exact z2.sF (py_f (by decide))
  exact pk_some z3
theorem y_X12_layOpen (a1 : Int32) (a2 : Int32) (a3 : Int32) (μ : Mem) : pk (p_X12_layOpen a1 a2 a3 μ) (fun q => Yz5 μ q.2) := by
  have z0 : Yz5 μ μ := Yz5.rf
  rw [p_X12_layOpen_eq]
  refine pk_bvy (fun μ1 ez1 => ?_)
  have z1 : Yz5 μ μ1 := by rw [ez1]; exact z0.sF (py_f (by decide))
  refine pk_bd (y_X12_lay a1 a2 a3 μ1) (fun r3 μ2 ez2 => ?_)
  have z2 : Yz5 μ μ2 := z1.tr ez2
  refine pk_bw (y_X12_openThing μ2) (fun μ4 ez3 => ?_)
  have z3 : Yz5 μ μ4 := z2.tr ez3
  refine pk_gd (fun _ => ?_)
  exact pk_some z3
theorem y_X12_readPlace (μ : Mem) : pk (p_X12_readPlace μ) (fun q => Yz5 μ q.2) := by
  have z0 : Yz5 μ μ := Yz5.rf
  rw [p_X12_readPlace_eq]
  refine pk_bvy (fun μ1 ez1 => ?_)
  have z1 : Yz5 μ μ1 := by rw [ez1]; exact z0.sF (py_f (by decide))
  refine pk_bd (y_X12_here μ1) (fun r3 μ2 ez2 => ?_)
  have z2 : Yz5 μ μ2 := z1.tr ez2
  refine pk_ite (fun _ => ?_) (fun _ => ?_)
  · refine pk_bd (y_X12_fails (μ2.1 0 4) μ2) (fun r6 μ5 ez3 => ?_)
    have z3 : Yz5 μ μ5 := z2.tr ez3
    refine pk_ite (fun _ => ?_) (fun _ => ?_)
    · exact pk_some z3
    · exact pk_some z3
  · exact pk_some z2
theorem y_X12_readLet (μ : Mem) : pk (p_X12_readLet μ) (fun q => Yz5 μ q.2) := by
  have z0 : Yz5 μ μ := Yz5.rf
  rw [p_X12_readLet_eq]
  refine pk_bvy (fun μ1 ez1 => ?_)
  have z1 : Yz5 μ μ1 := by rw [ez1]; exact z0.sF (py_f (by decide))
  refine pk_bd (y_X12_here μ1) (fun r3 μ2 ez2 => ?_)
  have z2 : Yz5 μ μ2 := z1.tr ez2
  refine pk_ite (fun _ => ?_) (fun _ => ?_)
  · refine pk_bd (y_X12_fails (μ2.1 0 4) μ2) (fun r15 μ14 ez3 => ?_)
    have z3 : Yz5 μ μ14 := z2.tr ez3
    refine pk_gd (fun _ => ?_)
    exact pk_some z3
  · refine pk_bd (y_X12_here μ2) (fun r6 μ5 ez4 => ?_)
    have z4 : Yz5 μ μ5 := z2.tr ez4
    refine pk_bvy (fun v7 _ => ?_)
    refine pk_bd (y_X12_layOpen (11 : Int32) v7 (2 : Int32) μ5) (fun r9 μ8 ez5 => ?_)
    have z5 : Yz5 μ μ8 := z4.tr ez5
    refine pk_ite (fun _ => ?_) (fun _ => ?_)
    · exact pk_some z5
    · refine pk_bd (y_X12_takes (61 : Int32) μ8) (fun r12 μ11 ez6 => ?_)
      have z6 : Yz5 μ μ11 := z5.tr ez6
      refine pk_ite (fun _ => ?_) (fun _ => ?_)
      · exact pk_some z6
      · exact pk_some z6
theorem y_X12_readCall_b30 (k0 : Int32) (μ : Mem) : pk (p_X12_readCall_b30 k0 μ) (fun q => Yz5 μ q.2) := by
  have z0 : Yz5 μ μ := Yz5.rf
  rw [p_X12_readCall_b30_eq]
  refine pk_ite (fun _ => ?_) (fun _ => ?_)
  · refine pk_gd (fun _ => ?_)
    exact pk_some z0
  · refine pk_bd (y_X12_here μ) (fun r7 μ6 ez1 => ?_)
    have z1 : Yz5 μ μ6 := z0.tr ez1
    refine pk_ite (fun _ => ?_) (fun _ => ?_)
    · refine pk_bvy (fun μ10 ez2 => ?_)
      have z2 : Yz5 μ μ10 := by rw [ez2]; exact z1.sF (py_f (by decide))
      refine pk_bvy (fun μ11 ez3 => ?_)
      have z3 : Yz5 μ μ11 := by rw [ez3]; exact z2.sF (py_f (by decide))
      refine pk_gd (fun _ => ?_)
      exact pk_some z3
    · refine pk_gd (fun _ => ?_)
      exact pk_some z1
theorem y_X12_readCall_b29 (μ : Mem) : pk (p_X12_readCall_b29 μ) (fun q => Yz5 μ q.2) := by
  have z0 : Yz5 μ μ := Yz5.rf
  rw [p_X12_readCall_b29_eq]
  exact pk_mono (y_X12_readCall_b30 (0 : Int32) μ) (fun _ hq => z0.tr hq)
theorem y_X12_readCall (a1 : Int32) (μ : Mem) : pk (p_X12_readCall a1 μ) (fun q => Yz5 μ q.2) := by
  have z0 : Yz5 μ μ := Yz5.rf
  rw [p_X12_readCall_eq]
  refine pk_bd (y_X12_layOpen (12 : Int32) ((a1 - (97 : Int32)) + (1 : Int32)) (0 : Int32) μ) (fun r2 μ1 ez1 => ?_)
  have z1 : Yz5 μ μ1 := z0.tr ez1
  refine pk_ite (fun _ => ?_) (fun _ => ?_)
  · exact pk_mono (y_X12_readCall_b29 μ1) (fun _ hq => z1.tr hq)
  · refine pk_bd (y_X12_takes (40 : Int32) μ1) (fun r14 μ13 ez2 => ?_)
    have z2 : Yz5 μ μ13 := z1.tr ez2
    refine pk_ite (fun _ => ?_) (fun _ => ?_)
    · exact pk_mono (y_X12_readCall_b29 μ13) (fun _ hq => z2.tr hq)
    · exact pk_mono (y_X12_readCall_b30 (1 : Int32) μ13) (fun _ hq => z2.tr hq)
theorem y_X12_readThing_b86 (a1 : Int32) (a2 : Int32) (k0 : Int32) (μ : Mem) : pk (p_X12_readThing_b86 a1 a2 k0 μ) (fun q => Yz5 μ q.2) := by
  have z0 : Yz5 μ μ := Yz5.rf
  rw [p_X12_readThing_b86_eq]
  refine pk_ite (fun _ => ?_) (fun _ => ?_)
  · refine pk_bd (y_X12_fails a2 μ) (fun r9 μ8 ez1 => ?_)
    have z1 : Yz5 μ μ8 := z0.tr ez1
    refine pk_gd (fun _ => ?_)
    exact pk_some z1
  · refine pk_gd (fun _ => ?_)
    refine pk_ite (fun _ => ?_) (fun _ => ?_)
    · refine pk_bd (y_X12_fails a2 μ) (fun r13 μ12 ez2 => ?_)
      have z2 : Yz5 μ μ12 := z0.tr ez2
      refine pk_gd (fun _ => ?_)
      exact pk_some z2
    · refine pk_ite (fun _ => ?_) (fun _ => ?_)
      · refine pk_bd (y_X12_fails a2 μ) (fun r89 μ88 ez3 => ?_)
        have z3 : Yz5 μ μ88 := z0.tr ez3
        refine pk_gd (fun _ => ?_)
        exact pk_some z3
      · refine pk_bd (y_X12_beginsNumber μ) (fun r17 μ16 ez4 => ?_)
        have z4 : Yz5 μ μ16 := z0.tr ez4
        refine pk_ite (fun _ => ?_) (fun _ => ?_)
        · refine pk_ite (fun _ => ?_) (fun _ => ?_)
          · refine pk_ite (fun _ => ?_) (fun _ => ?_)
            · refine pk_ite (fun _ => ?_) (fun _ => ?_)
              · refine pk_bd (y_X12_layOpen (8 : Int32) (0 : Int32) (1 : Int32) μ16) (fun r24 μ23 ez5 => ?_)
                have z5 : Yz5 μ μ23 := z4.tr ez5
                refine pk_gd (fun _ => ?_)
                exact pk_some z5
              · refine pk_ite (fun _ => ?_) (fun _ => ?_)
                · refine pk_bd (y_X12_readPlace μ16) (fun r28 μ27 ez6 => ?_)
                  have z6 : Yz5 μ μ27 := z4.tr ez6
                  refine pk_ite (fun _ => ?_) (fun _ => ?_)
                  · exact pk_some z6
                  · refine pk_bd (y_X12_here μ27) (fun r31 μ30 ez7 => ?_)
                    have z7 : Yz5 μ μ30 := z6.tr ez7
                    refine pk_bd (y_X12_layOpen (9 : Int32) (r31 - (48 : Int32)) (1 : Int32) μ30) (fun r33 μ32 ez8 => ?_)
                    have z8 : Yz5 μ μ32 := z7.tr ez8
                    refine pk_ite (fun _ => ?_) (fun _ => ?_)
                    · exact pk_some z8
                    · exact pk_some z8
                · refine pk_ite (fun _ => ?_) (fun _ => ?_)
                  · refine pk_bd (y_X12_layOpen (5 : Int32) (0 : Int32) (2 : Int32) μ16) (fun r37 μ36 ez9 => ?_)
                    have z9 : Yz5 μ μ36 := z4.tr ez9
                    refine pk_gd (fun _ => ?_)
                    exact pk_some z9
                  · refine pk_ite (fun _ => ?_) (fun _ => ?_)
                    · refine pk_bd (y_X12_readLet μ16) (fun r41 μ40 ez10 => ?_)
                      have z10 : Yz5 μ μ40 := z4.tr ez10
                      refine pk_gd (fun _ => ?_)
                      exact pk_some z10
                    · refine pk_ite (fun _ => ?_) (fun _ => ?_)
                      · refine pk_bd (y_X12_layOpen (7 : Int32) (0 : Int32) (3 : Int32) μ16) (fun r45 μ44 ez11 => ?_)
                        have z11 : Yz5 μ μ44 := z4.tr ez11
                        refine pk_ite (fun _ => ?_) (fun _ => ?_)
                        · exact pk_some z11
                        · refine pk_bd (y_X12_takes (40 : Int32) μ44) (fun r48 μ47 ez12 => ?_)
                          have z12 : Yz5 μ μ47 := z11.tr ez12
                          refine pk_ite (fun _ => ?_) (fun _ => ?_)
                          · exact pk_some z12
                          · exact pk_some z12
                      · refine pk_ite (fun _ => ?_) (fun _ => ?_)
                        · refine pk_bd (y_X12_layOpen (2 : Int32) (0 : Int32) (2 : Int32) μ16) (fun r52 μ51 ez13 => ?_)
                          have z13 : Yz5 μ μ51 := z4.tr ez13
                          refine pk_gd (fun _ => ?_)
                          exact pk_some z13
                        · refine pk_ite (fun _ => ?_) (fun _ => ?_)
                          · refine pk_bd (y_X12_readPlace μ16) (fun r56 μ55 ez14 => ?_)
                            have z14 : Yz5 μ μ55 := z4.tr ez14
                            refine pk_ite (fun _ => ?_) (fun _ => ?_)
                            · exact pk_some z14
                            · refine pk_bd (y_X12_here μ55) (fun r59 μ58 ez15 => ?_)
                              have z15 : Yz5 μ μ58 := z14.tr ez15
                              refine pk_bd (y_X12_lay (10 : Int32) (r59 - (48 : Int32)) (0 : Int32) μ58) (fun r61 μ60 ez16 => ?_)
                              have z16 : Yz5 μ μ60 := z15.tr ez16
                              refine pk_ite (fun _ => ?_) (fun _ => ?_)
                              · exact pk_some z16
                              · refine pk_bd (y_X12_here μ60) (fun r64 μ63 ez17 => ?_)
                                have z17 : Yz5 μ μ63 := z16.tr ez17
                                refine pk_bd (y_X12_takes r64 μ63) (fun r66 μ65 ez18 => ?_)
                                have z18 : Yz5 μ μ65 := z17.tr ez18
                                refine pk_ite (fun _ => ?_) (fun _ => ?_)
                                · exact pk_some z18
                                · exact pk_some z18
                          · refine pk_bd (y_X12_readCall a1 μ16) (fun r69 μ68 ez19 => ?_)
                            have z19 : Yz5 μ μ68 := z4.tr ez19
                            refine pk_gd (fun _ => ?_)
                            exact pk_some z19
            · refine pk_bd (y_X12_layOpen (6 : Int32) (s_X12_signOf a1) (1 : Int32) μ16) (fun r72 μ71 ez20 => ?_)
              have z20 : Yz5 μ μ71 := z4.tr ez20
              refine pk_gd (fun _ => ?_)
              exact pk_some z20
          · refine pk_gd (fun _ => ?_)
            refine pk_ite (fun _ => ?_) (fun _ => ?_)
            · refine pk_bd (y_X12_fails a2 μ16) (fun r80 μ79 ez21 => ?_)
              have z21 : Yz5 μ μ79 := z4.tr ez21
              refine pk_gd (fun _ => ?_)
              exact pk_some z21
            · refine pk_bvy (fun μ75 ez22 => ?_)
              have z22 : Yz5 μ μ75 := by rw [ez22]; exact z4.sF (py_f (by decide))
              refine pk_bd (y_X12_lay (4 : Int32) (a1 - (109 : Int32)) (0 : Int32) μ75) (fun r77 μ76 ez23 => ?_)
              have z23 : Yz5 μ μ76 := z22.tr ez23
              refine pk_gd (fun _ => ?_)
              exact pk_some z23
        · refine pk_bd (y_X12_readNumber μ16) (fun r83 μ82 ez24 => ?_)
          have z24 : Yz5 μ μ82 := z4.tr ez24
          refine pk_ite (fun _ => ?_) (fun _ => ?_)
          · exact pk_some z24
          · refine pk_bd (y_X12_lay (μ82.1 0 6) (μ82.1 0 7) (0 : Int32) μ82) (fun r86 μ85 ez25 => ?_)
            have z25 : Yz5 μ μ85 := z24.tr ez25
            refine pk_ite (fun _ => ?_) (fun _ => ?_)
            · exact pk_some z25
            · exact pk_some z25
theorem y_X12_readThing_b81 (a1 : Int32) (a2 : Int32) (μ : Mem) : pk (p_X12_readThing_b81 a1 a2 μ) (fun q => Yz5 μ q.2) := by
  have z0 : Yz5 μ μ := Yz5.rf
  rw [p_X12_readThing_b81_eq]
  exact pk_mono (y_X12_readThing_b86 a1 a2 (1 : Int32) μ) (fun _ hq => z0.tr hq)
theorem y_X12_readThing (μ : Mem) : pk (p_X12_readThing μ) (fun q => Yz5 μ q.2) := by
  have z0 : Yz5 μ μ := Yz5.rf
  rw [p_X12_readThing_eq]
  refine pk_bd (y_X12_here μ) (fun r2 μ1 ez1 => ?_)
  have z1 : Yz5 μ μ1 := z0.tr ez1
  refine pk_bvy (fun v3 _ => ?_)
  refine pk_bd (y_X12_beginsNumber μ1) (fun r5 μ4 ez2 => ?_)
  have z2 : Yz5 μ μ4 := z1.tr ez2
  refine pk_ite (fun _ => ?_) (fun _ => ?_)
  · refine pk_ite (fun _ => ?_) (fun _ => ?_)
    · refine pk_ite (fun _ => ?_) (fun _ => ?_)
      · refine pk_ite (fun _ => ?_) (fun _ => ?_)
        · refine pk_ite (fun _ => ?_) (fun _ => ?_)
          · exact pk_mono (y_X12_readThing_b81 r2 v3 μ4) (fun _ hq => z2.tr hq)
          · refine pk_ite (fun _ => ?_) (fun _ => ?_)
            · exact pk_mono (y_X12_readThing_b81 r2 v3 μ4) (fun _ hq => z2.tr hq)
            · refine pk_ite (fun _ => ?_) (fun _ => ?_)
              · exact pk_mono (y_X12_readThing_b81 r2 v3 μ4) (fun _ hq => z2.tr hq)
              · refine pk_ite (fun _ => ?_) (fun _ => ?_)
                · exact pk_mono (y_X12_readThing_b81 r2 v3 μ4) (fun _ hq => z2.tr hq)
                · refine pk_ite (fun _ => ?_) (fun _ => ?_)
                  · exact pk_mono (y_X12_readThing_b81 r2 v3 μ4) (fun _ hq => z2.tr hq)
                  · refine pk_ite (fun _ => ?_) (fun _ => ?_)
                    · exact pk_mono (y_X12_readThing_b81 r2 v3 μ4) (fun _ hq => z2.tr hq)
                    · refine pk_ite (fun _ => ?_) (fun _ => ?_)
                      · exact pk_mono (y_X12_readThing_b81 r2 v3 μ4) (fun _ hq => z2.tr hq)
                      · exact pk_mono (y_X12_readThing_b86 r2 v3 (0 : Int32) μ4) (fun _ hq => z2.tr hq)
        · exact pk_mono (y_X12_readThing_b81 r2 v3 μ4) (fun _ hq => z2.tr hq)
      · exact pk_mono (y_X12_readThing_b81 r2 v3 μ4) (fun _ hq => z2.tr hq)
    · exact pk_mono (y_X12_readThing_b81 r2 v3 μ4) (fun _ hq => z2.tr hq)
  · exact pk_mono (y_X12_readThing_b81 r2 v3 μ4) (fun _ hq => z2.tr hq)
theorem y_X12_goesOn (a1 : Int32) (a2 : Int32) (μ : Mem) : pk (p_X12_goesOn a1 a2 μ) (fun q => Yz5 μ q.2) := by
  have z0 : Yz5 μ μ := Yz5.rf
  rw [p_X12_goesOn_eq]
  refine pk_ite (fun _ => ?_) (fun _ => ?_)
  · refine pk_bd (y_X12_here μ) (fun r12 μ11 ez1 => ?_)
    have z1 : Yz5 μ μ11 := z0.tr ez1
    refine pk_ite (fun _ => ?_) (fun _ => ?_)
    · refine pk_bd (y_X12_fails (μ11.1 0 4) μ11) (fun r19 μ18 ez2 => ?_)
      have z2 : Yz5 μ μ18 := z1.tr ez2
      refine pk_gd (fun _ => ?_)
      exact pk_some z2
    · refine pk_bd (y_X12_here μ11) (fun r15 μ14 ez3 => ?_)
      have z3 : Yz5 μ μ14 := z1.tr ez3
      refine pk_gd (fun _ => ?_)
      refine pk_bvy (fun μ16 ez4 => ?_)
      have z4 : Yz5 μ μ16 := by rw [ez4]; exact z3.sF (py_a (by decide) (by decide))
      refine pk_bvy (fun μ17 ez5 => ?_)
      have z5 : Yz5 μ μ17 := by rw [ez5]; exact z4.sF (py_f (by decide))
      exact pk_some z5
  · refine pk_ite (fun _ => ?_) (fun _ => ?_)
    · refine pk_gd (fun _ => ?_)
      refine pk_bvy (fun v6 _ => ?_)
      refine pk_gd (fun _ => ?_)
      refine pk_gd (fun _ => ?_)
      refine pk_bvy (fun μ7 ez6 => ?_)
      have z6 : Yz5 μ μ7 := by rw [ez6]; exact z0.sF (py_a (by decide) (by decide))
      refine pk_bd (y_X12_takes (44 : Int32) μ7) (fun r9 μ8 ez7 => ?_)
      have z7 : Yz5 μ μ8 := z6.tr ez7
      refine pk_gd (fun _ => ?_)
      exact pk_some z7
    · refine pk_bd (y_X12_takes (44 : Int32) μ) (fun r4 μ3 ez8 => ?_)
      have z8 : Yz5 μ μ3 := z0.tr ez8
      refine pk_gd (fun _ => ?_)
      exact pk_some z8
theorem y_X12_hasMore_b188 (K0 : Mem → Option (Int32 × Mem)) (hK0 : ∀ (y0 : Mem), pk (K0 y0) (fun q => Yz5 y0 q.2)) (μ : Mem) : pk (p_X12_hasMore_b188 K0 μ) (fun q => Yz5 μ q.2) := by
  have z0 : Yz5 μ μ := Yz5.rf
  rw [p_X12_hasMore_b188_eq]
  refine pk_bvy (fun μ13 ez1 => ?_)
  have z1 : Yz5 μ μ13 := by rw [ez1]; exact z0.sF (py_f (by decide))
  exact pk_mono (hK0 μ13) (fun _ hq => z1.tr hq)
theorem y_X12_hasMore_b167 (K0 : Mem → Option (Int32 × Mem)) (hK0 : ∀ (y0 : Mem), pk (K0 y0) (fun q => Yz5 y0 q.2)) (a1 : Int32) (a3 : Int32) (μ : Mem) : pk (p_X12_hasMore_b167 K0 a1 a3 μ) (fun q => Yz5 μ q.2) := by
  have z0 : Yz5 μ μ := Yz5.rf
  rw [p_X12_hasMore_b167_eq]
  refine pk_ite (fun _ => ?_) (fun _ => ?_)
  · refine pk_gd (fun _ => ?_)
    refine pk_bvy (fun v14 _ => ?_)
    refine pk_gd (fun _ => ?_)
    refine pk_gd (fun _ => ?_)
    refine pk_bvy (fun μ15 ez1 => ?_)
    have z1 : Yz5 μ μ15 := by rw [ez1]; exact z0.sF (py_a (by decide) (by decide))
    exact pk_mono (y_X12_hasMore_b188 K0 hK0 μ15) (fun _ hq => z1.tr hq)
  · exact pk_mono (y_X12_hasMore_b188 K0 hK0 μ) (fun _ hq => z0.tr hq)
theorem y_X12_hasMore_b148 (K0 : Mem → Option (Int32 × Mem)) (hK0 : ∀ (y0 : Mem), pk (K0 y0) (fun q => Yz5 y0 q.2)) (a1 : Int32) (a3 : Int32) (k0 : Int32) (μ : Mem) : pk (p_X12_hasMore_b148 K0 a1 a3 k0 μ) (fun q => Yz5 μ q.2) := by
  have z0 : Yz5 μ μ := Yz5.rf
  rw [p_X12_hasMore_b148_eq]
  refine pk_ite (fun _ => ?_) (fun _ => ?_)
  · exact pk_mono (y_X12_hasMore_b167 K0 hK0 a1 a3 μ) (fun _ hq => z0.tr hq)
  · refine pk_bd (y_X12_takes k0 μ) (fun r17 μ16 ez1 => ?_)
    have z1 : Yz5 μ μ16 := z0.tr ez1
    refine pk_ite (fun _ => ?_) (fun _ => ?_)
    · exact pk_some z1
    · exact pk_mono (y_X12_hasMore_b167 K0 hK0 a1 a3 μ16) (fun _ hq => z1.tr hq)
theorem y_X12_hasMore_b132 (K0 : Mem → Option (Int32 × Mem)) (hK0 : ∀ (y0 : Mem), pk (K0 y0) (fun q => Yz5 y0 q.2)) (a1 : Int32) (a3 : Int32) (μ : Mem) : pk (p_X12_hasMore_b132 K0 a1 a3 μ) (fun q => Yz5 μ q.2) := by
  have z0 : Yz5 μ μ := Yz5.rf
  rw [p_X12_hasMore_b132_eq]
  exact pk_mono (y_X12_hasMore_b148 K0 hK0 a1 a3 (41 : Int32) μ) (fun _ hq => z0.tr hq)
theorem y_X12_hasMore_b98 (K0 : Mem → Option (Int32 × Mem)) (hK0 : ∀ (y0 : Mem), pk (K0 y0) (fun q => Yz5 y0 q.2)) (a1 : Int32) (a2 : Int32) (a3 : Int32) (μ : Mem) : pk (p_X12_hasMore_b98 K0 a1 a2 a3 μ) (fun q => Yz5 μ q.2) := by
  have z0 : Yz5 μ μ := Yz5.rf
  rw [p_X12_hasMore_b98_eq]
  refine pk_gd (fun _ => ?_)
  refine pk_ite (fun _ => ?_) (fun _ => ?_)
  · refine pk_ite (fun _ => ?_) (fun _ => ?_)
    · exact pk_mono (y_X12_hasMore_b132 K0 hK0 a1 a3 μ) (fun _ hq => z0.tr hq)
    · refine pk_ite (fun _ => ?_) (fun _ => ?_)
      · exact pk_mono (y_X12_hasMore_b132 K0 hK0 a1 a3 μ) (fun _ hq => z0.tr hq)
      · refine pk_ite (fun _ => ?_) (fun _ => ?_)
        · exact pk_mono (y_X12_hasMore_b132 K0 hK0 a1 a3 μ) (fun _ hq => z0.tr hq)
        · refine pk_ite (fun _ => ?_) (fun _ => ?_)
          · exact pk_mono (y_X12_hasMore_b148 K0 hK0 a1 a3 (93 : Int32) μ) (fun _ hq => z0.tr hq)
          · exact pk_mono (y_X12_hasMore_b148 K0 hK0 a1 a3 (-1 : Int32) μ) (fun _ hq => z0.tr hq)
  · refine pk_bd (y_X12_goesOn a1 a3 μ) (fun r23 μ22 ez1 => ?_)
    have z1 : Yz5 μ μ22 := z0.tr ez1
    refine pk_gd (fun _ => ?_)
    exact pk_some z1
theorem y_X12_hasMore_b85 (K0 : Mem → Option (Int32 × Mem)) (hK0 : ∀ (y0 : Mem), pk (K0 y0) (fun q => Yz5 y0 q.2)) (a1 : Int32) (a2 : Int32) (a3 : Int32) (μ : Mem) : pk (p_X12_hasMore_b85 K0 a1 a2 a3 μ) (fun q => Yz5 μ q.2) := by
  have z0 : Yz5 μ μ := Yz5.rf
  rw [p_X12_hasMore_b85_eq]
  refine pk_ite (fun _ => ?_) (fun _ => ?_)
  · refine pk_gd (fun _ => ?_)
    refine pk_bvy (fun μ25 ez1 => ?_)
    have z1 : Yz5 μ μ25 := by rw [ez1]; exact z0.sF (py_a (by decide) (by decide))
    exact pk_mono (y_X12_hasMore_b98 K0 hK0 a1 a2 a3 μ25) (fun _ hq => z1.tr hq)
  · exact pk_mono (y_X12_hasMore_b98 K0 hK0 a1 a2 a3 μ) (fun _ hq => z0.tr hq)
theorem y_X12_hasMore_b0 : ∀ (n : Nat) (μ : Mem), pk (p_X12_hasMore_b0  n μ) (fun q => Yz5 μ q.2) := by
  intro n
  induction n with
  | zero => intro μ r e; rw [p_X12_hasMore_b0_z] at e; cases e
  | succ n ih =>
    intro μ
    have z0 : Yz5 μ μ := Yz5.rf
    rw [p_X12_hasMore_b0_s]
    refine pk_ite (fun _ => ?_) (fun _ => ?_)
    · exact pk_some z0
    · refine pk_gd (fun _ => ?_)
      refine pk_bvy (fun v2 _ => ?_)
      refine pk_bvy (fun v3 _ => ?_)
      refine pk_gd (fun _ => ?_)
      refine pk_gd (fun _ => ?_)
      refine pk_bvy (fun μ4 ez1 => ?_)
      have z1 : Yz5 μ μ4 := by rw [ez1]; exact z0.sF (py_a (by decide) (by decide))
      refine pk_gd (fun _ => ?_)
      refine pk_bvy (fun v5 _ => ?_)
      refine pk_gd (fun _ => ?_)
      refine pk_bvy (fun v6 _ => ?_)
      refine pk_ite (fun _ => ?_) (fun _ => ?_)
      · refine pk_bd (y_X12_here μ4) (fun r27 μ26 ez2 => ?_)
        have z2 : Yz5 μ μ26 := z1.tr ez2
        refine pk_ite (fun _ => ?_) (fun _ => ?_)
        · refine pk_ite (fun _ => ?_) (fun _ => ?_)
          · exact pk_mono (y_X12_hasMore_b85 (p_X12_hasMore_b0  n) ih v2 v5 v6 μ26) (fun _ hq => z2.tr hq)
          · refine pk_bvy (fun μ30 ez3 => ?_)
            have z3 : Yz5 μ μ30 := by rw [ez3]; exact z2.sF (py_f (by decide))
            exact pk_some z3
        · exact pk_mono (y_X12_hasMore_b85 (p_X12_hasMore_b0  n) ih v2 v5 v6 μ26) (fun _ hq => z2.tr hq)
      · exact pk_mono (y_X12_hasMore_b85 (p_X12_hasMore_b0  n) ih v2 v5 v6 μ4) (fun _ hq => z1.tr hq)
theorem y_X12_hasMore (μ : Mem) : pk (p_X12_hasMore μ) (fun q => Yz5 μ q.2) := by
  have z0 : Yz5 μ μ := Yz5.rf
  rw [p_X12_hasMore_eq]
  exact pk_mono (y_X12_hasMore_b0 FUEL μ) (fun _ hq => z0.tr hq)
theorem y_X12_readExpression_b62 (K7 : Int32 → Mem → Option (Int32 × Mem)) (hK7 : ∀ (y0 : Int32) (y1 : Mem), pk (K7 y0 y1) (fun q => Yz5 y1 q.2)) (k0 : Int32) (μ : Mem) : pk (p_X12_readExpression_b62 K7 k0 μ) (fun q => Yz5 μ q.2) := by
  have z0 : Yz5 μ μ := Yz5.rf
  rw [p_X12_readExpression_b62_eq]
  refine pk_ite (fun _ => ?_) (fun _ => ?_)
  · exact pk_mono (hK7 k0 μ) (fun _ hq => z0.tr hq)
  · exact pk_some z0
theorem y_X12_readExpression_b57 (K7 : Int32 → Mem → Option (Int32 × Mem)) (hK7 : ∀ (y0 : Int32) (y1 : Mem), pk (K7 y0 y1) (fun q => Yz5 y1 q.2)) (μ : Mem) : pk (p_X12_readExpression_b57 K7 μ) (fun q => Yz5 μ q.2) := by
  have z0 : Yz5 μ μ := Yz5.rf
  rw [p_X12_readExpression_b57_eq]
  exact pk_mono (y_X12_readExpression_b62 K7 hK7 (1 : Int32) μ) (fun _ hq => z0.tr hq)
theorem y_X12_readExpression_b43 (K7 : Int32 → Mem → Option (Int32 × Mem)) (hK7 : ∀ (y0 : Int32) (y1 : Mem), pk (K7 y0 y1) (fun q => Yz5 y1 q.2)) (k0 : Int32) (μ : Mem) : pk (p_X12_readExpression_b43 K7 k0 μ) (fun q => Yz5 μ q.2) := by
  have z0 : Yz5 μ μ := Yz5.rf
  rw [p_X12_readExpression_b43_eq]
  refine pk_ite (fun _ => ?_) (fun _ => ?_)
  · refine pk_bd (y_X12_hasMore μ) (fun r12 μ11 ez1 => ?_)
    have z1 : Yz5 μ μ11 := z0.tr ez1
    refine pk_ite (fun _ => ?_) (fun _ => ?_)
    · exact pk_mono (y_X12_readExpression_b62 K7 hK7 (0 : Int32) μ11) (fun _ hq => z1.tr hq)
    · exact pk_mono (y_X12_readExpression_b57 K7 hK7 μ11) (fun _ hq => z1.tr hq)
  · exact pk_mono (y_X12_readExpression_b57 K7 hK7 μ) (fun _ hq => z0.tr hq)
theorem y_X12_readExpression_b7 : ∀ (n : Nat) (a1 : Int32) (μ : Mem), pk (p_X12_readExpression_b7  n a1 μ) (fun q => Yz5 μ q.2) := by
  intro n
  induction n with
  | zero => intro a1 μ r e; rw [p_X12_readExpression_b7_z] at e; cases e
  | succ n ih =>
    intro a1 μ
    have z0 : Yz5 μ μ := Yz5.rf
    rw [p_X12_readExpression_b7_s]
    refine pk_ite (fun _ => ?_) (fun _ => ?_)
    · exact pk_some z0
    · refine pk_bvy (fun v3 _ => ?_)
      refine pk_bvy (fun v4 _ => ?_)
      refine pk_bd (y_X12_readThing μ) (fun r6 μ5 ez1 => ?_)
      have z1 : Yz5 μ μ5 := z0.tr ez1
      refine pk_ite (fun _ => ?_) (fun _ => ?_)
      · exact pk_some z1
      · refine pk_ite (fun _ => ?_) (fun _ => ?_)
        · exact pk_mono (y_X12_readExpression_b43 (p_X12_readExpression_b7  n) ih (0 : Int32) μ5) (fun _ hq => z1.tr hq)
        · exact pk_mono (y_X12_readExpression_b43 (p_X12_readExpression_b7  n) ih (1 : Int32) μ5) (fun _ hq => z1.tr hq)
theorem y_X12_readExpression (μ : Mem) : pk (p_X12_readExpression μ) (fun q => Yz5 μ q.2) := by
  have z0 : Yz5 μ μ := Yz5.rf
  rw [p_X12_readExpression_eq]
  refine pk_bvy (fun μ1 ez1 => ?_)
  have z1 : Yz5 μ μ1 := by rw [ez1]; exact z0.sF (py_f (by decide))
  exact pk_mono (y_X12_readExpression_b7 FUEL (1 : Int32) μ1) (fun _ hq => z1.tr hq)
theorem y_X12_readVars_b160 (K46 : Int32 → Int32 → Mem → Option (Int32 × Mem)) (hK46 : ∀ (y0 : Int32) (y1 : Int32) (y2 : Mem), pk (K46 y0 y1 y2) (fun q => Yz5 y2 q.2)) (a1 : Int32) (a2 : Int32) (μ : Mem) : pk (p_X12_readVars_b160 K46 a1 a2 μ) (fun q => Yz5 μ q.2) := by
  have z0 : Yz5 μ μ := Yz5.rf
  rw [p_X12_readVars_b160_eq]
  exact pk_mono (hK46 a1 a2 μ) (fun _ hq => z0.tr hq)
theorem y_X12_readVars_b145 (K46 : Int32 → Int32 → Mem → Option (Int32 × Mem)) (hK46 : ∀ (y0 : Int32) (y1 : Int32) (y2 : Mem), pk (K46 y0 y1 y2) (fun q => Yz5 y2 q.2)) (a1 : Int32) (k0 : Int32) (μ : Mem) : pk (p_X12_readVars_b145 K46 a1 k0 μ) (fun q => Yz5 μ q.2) := by
  have z0 : Yz5 μ μ := Yz5.rf
  rw [p_X12_readVars_b145_eq]
  refine pk_ite (fun _ => ?_) (fun _ => ?_)
  · exact pk_mono (y_X12_readVars_b160 K46 hK46 a1 k0 μ) (fun _ hq => z0.tr hq)
  · refine pk_bvy (fun μ24 ez1 => ?_)
    have z1 : Yz5 μ μ24 := by rw [ez1]; exact z0.sF (py_f (by decide))
    exact pk_mono (y_X12_readVars_b160 K46 hK46 a1 k0 μ24) (fun _ hq => z1.tr hq)
theorem y_X12_readVars_b144 (K46 : Int32 → Int32 → Mem → Option (Int32 × Mem)) (hK46 : ∀ (y0 : Int32) (y1 : Int32) (y2 : Mem), pk (K46 y0 y1 y2) (fun q => Yz5 y2 q.2)) (a1 : Int32) (μ : Mem) : pk (p_X12_readVars_b144 K46 a1 μ) (fun q => Yz5 μ q.2) := by
  have z0 : Yz5 μ μ := Yz5.rf
  rw [p_X12_readVars_b144_eq]
  exact pk_mono (y_X12_readVars_b145 K46 hK46 a1 (0 : Int32) μ) (fun _ hq => z0.tr hq)
theorem y_X12_readVars_b46 : ∀ (n : Nat) (a1 : Int32) (a2 : Int32) (μ : Mem), pk (p_X12_readVars_b46  n a1 a2 μ) (fun q => Yz5 μ q.2) := by
  intro n
  induction n with
  | zero => intro a1 a2 μ r e; rw [p_X12_readVars_b46_z] at e; cases e
  | succ n ih =>
    intro a1 a2 μ
    have z0 : Yz5 μ μ := Yz5.rf
    rw [p_X12_readVars_b46_s]
    refine pk_ite (fun _ => ?_) (fun _ => ?_)
    · refine pk_gd (fun _ => ?_)
      refine pk_bvy (fun μ7 ez1 => ?_)
      have z1 : Yz5 μ μ7 := by rw [ez1]; exact z0.sF (py_a (by decide) (by decide))
      exact pk_some z1
    · refine pk_bd (y_X12_here μ) (fun r9 μ8 ez2 => ?_)
      have z2 : Yz5 μ μ8 := z0.tr ez2
      refine pk_ite (fun _ => ?_) (fun _ => ?_)
      · refine pk_bd (y_X12_fails (μ8.1 0 4) μ8) (fun r12 μ11 ez3 => ?_)
        have z3 : Yz5 μ μ11 := z2.tr ez3
        refine pk_gd (fun _ => ?_)
        exact pk_some z3
      · refine pk_gd (fun _ => ?_)
        refine pk_ite (fun _ => ?_) (fun _ => ?_)
        · refine pk_bvy (fun v15 _ => ?_)
          refine pk_gd (fun _ => ?_)
          refine pk_gd (fun _ => ?_)
          refine pk_bvy (fun μ16 ez4 => ?_)
          have z4 : Yz5 μ μ16 := by rw [ez4]; exact z2.sF (py_a (by decide) (by decide))
          refine pk_gd (fun _ => ?_)
          refine pk_bvy (fun μ17 ez5 => ?_)
          have z5 : Yz5 μ μ17 := by rw [ez5]; exact z4.sF (py_a (by decide) (by decide))
          refine pk_bvy (fun v18 _ => ?_)
          refine pk_bvy (fun μ19 ez6 => ?_)
          have z6 : Yz5 μ μ19 := by rw [ez6]; exact z5.sF (py_f (by decide))
          refine pk_bd (y_X12_here μ19) (fun r21 μ20 ez7 => ?_)
          have z7 : Yz5 μ μ20 := z6.tr ez7
          refine pk_ite (fun _ => ?_) (fun _ => ?_)
          · refine pk_ite (fun _ => ?_) (fun _ => ?_)
            · exact pk_mono (y_X12_readVars_b144 (p_X12_readVars_b46  n) ih v18 μ20) (fun _ hq => z7.tr hq)
            · exact pk_mono (y_X12_readVars_b145 (p_X12_readVars_b46  n) ih v18 (1 : Int32) μ20) (fun _ hq => z7.tr hq)
          · exact pk_mono (y_X12_readVars_b144 (p_X12_readVars_b46  n) ih v18 μ20) (fun _ hq => z7.tr hq)
        · refine pk_bd (y_X12_fails (μ8.1 0 4) μ8) (fun r27 μ26 ez8 => ?_)
          have z8 : Yz5 μ μ26 := z2.tr ez8
          refine pk_gd (fun _ => ?_)
          exact pk_some z8
theorem y_X12_readVars_b4 : ∀ (n : Nat) (a1 : Int32) (a2 : Int32) (μ : Mem), pk (p_X12_readVars_b4  n a1 a2 μ) (fun q => Yz5 μ q.2) := by
  intro n
  induction n with
  | zero => intro a1 a2 μ r e; rw [p_X12_readVars_b4_z] at e; cases e
  | succ n ih =>
    intro a1 a2 μ
    have z0 : Yz5 μ μ := Yz5.rf
    rw [p_X12_readVars_b4_s]
    refine pk_ite (fun _ => ?_) (fun _ => ?_)
    · refine pk_gd (fun _ => ?_)
      refine pk_bvy (fun μ2 ez1 => ?_)
      have z1 : Yz5 μ μ2 := by rw [ez1]; exact z0.sF (py_a (by decide) (by decide))
      refine pk_bd (y_X12_here μ2) (fun r4 μ3 ez2 => ?_)
      have z2 : Yz5 μ μ3 := z1.tr ez2
      refine pk_ite (fun _ => ?_) (fun _ => ?_)
      · exact pk_some z2
      · exact pk_mono (y_X12_readVars_b46 FUEL a1 (1 : Int32) μ3) (fun _ hq => z2.tr hq)
    · refine pk_gd (fun _ => ?_)
      refine pk_bvy (fun μ29 ez3 => ?_)
      have z3 : Yz5 μ μ29 := by rw [ez3]; exact z0.sF (py_a (by decide) (by decide))
      refine pk_bvy (fun v30 _ => ?_)
      exact pk_mono (ih a1 v30 μ29) (fun _ hq => z3.tr hq)
theorem y_X12_readVars (μ : Mem) : pk (p_X12_readVars μ) (fun q => Yz5 μ q.2) := by
  have z0 : Yz5 μ μ := Yz5.rf
  rw [p_X12_readVars_eq]
  exact pk_mono (y_X12_readVars_b4 FUEL (0 : Int32) (0 : Int32) μ) (fun _ hq => z0.tr hq)
theorem y_X12_isNew_b32 (K2 : Int32 → Int32 → Int32 → Mem → Option (Int32 × Mem)) (hK2 : ∀ (y0 : Int32) (y1 : Int32) (y2 : Int32) (y3 : Mem), pk (K2 y0 y1 y2 y3) (fun q => Yz5 y3 q.2)) (a1 : Int32) (a2 : Int32) (a3 : Int32) (μ : Mem) : pk (p_X12_isNew_b32 K2 a1 a2 a3 μ) (fun q => Yz5 μ q.2) := by
  have z0 : Yz5 μ μ := Yz5.rf
  rw [p_X12_isNew_b32_eq]
  refine pk_bvy (fun v3 _ => ?_)
  exact pk_mono (hK2 a1 a2 v3 μ) (fun _ hq => z0.tr hq)
theorem y_X12_isNew_b2 : ∀ (n : Nat) (a1 : Int32) (a2 : Int32) (a3 : Int32) (μ : Mem), pk (p_X12_isNew_b2  n a1 a2 a3 μ) (fun q => Yz5 μ q.2) := by
  intro n
  induction n with
  | zero => intro a1 a2 a3 μ r e; rw [p_X12_isNew_b2_z] at e; cases e
  | succ n ih =>
    intro a1 a2 a3 μ
    have z0 : Yz5 μ μ := Yz5.rf
    rw [p_X12_isNew_b2_s]
    refine pk_ite (fun _ => ?_) (fun _ => ?_)
    · exact pk_some z0
    · refine pk_gd (fun _ => ?_)
      refine pk_ite (fun _ => ?_) (fun _ => ?_)
      · refine pk_gd (fun _ => ?_)
        refine pk_ite (fun _ => ?_) (fun _ => ?_)
        · exact pk_some z0
        · exact pk_mono (y_X12_isNew_b32 (p_X12_isNew_b2  n) ih a1 a2 a3 μ) (fun _ hq => z0.tr hq)
      · exact pk_mono (y_X12_isNew_b32 (p_X12_isNew_b2  n) ih a1 a2 a3 μ) (fun _ hq => z0.tr hq)
theorem y_X12_isNew (a1 : Int32) (a2 : Int32) (μ : Mem) : pk (p_X12_isNew a1 a2 μ) (fun q => Yz5 μ q.2) := by
  have z0 : Yz5 μ μ := Yz5.rf
  rw [p_X12_isNew_eq]
  exact pk_mono (y_X12_isNew_b2 FUEL a1 a2 (0 : Int32) μ) (fun _ hq => z0.tr hq)
theorem y_X12_readFunction (μ : Mem) : pk (p_X12_readFunction μ) (fun q => Yz5 μ q.2) := by
  have z0 : Yz5 μ μ := Yz5.rf
  rw [p_X12_readFunction_eq]
  refine pk_bvy (fun v1 _ => ?_)
  refine pk_bd (y_X12_here μ) (fun r3 μ2 ez1 => ?_)
  have z1 : Yz5 μ μ2 := z0.tr ez1
  refine pk_ite (fun _ => ?_) (fun _ => ?_)
  · refine pk_bd (y_X12_fails (μ2.1 0 4) μ2) (fun r42 μ41 ez2 => ?_)
    have z2 : Yz5 μ μ41 := z1.tr ez2
    refine pk_gd (fun _ => ?_)
    exact pk_some z2
  · refine pk_bd (y_X12_here μ2) (fun r6 μ5 ez3 => ?_)
    have z3 : Yz5 μ μ5 := z1.tr ez3
    refine pk_bvy (fun v7 _ => ?_)
    refine pk_bvy (fun μ8 ez4 => ?_)
    have z4 : Yz5 μ μ8 := by rw [ez4]; exact z3.sF (py_f (by decide))
    refine pk_gd (fun _ => ?_)
    refine pk_bvy (fun μ9 ez5 => ?_)
    have z5 : Yz5 μ μ9 := by rw [ez5]; exact z4.sF (py_a (by decide) (by decide))
    refine pk_bd (y_X12_takes (40 : Int32) μ9) (fun r11 μ10 ez6 => ?_)
    have z6 : Yz5 μ μ10 := z5.tr ez6
    refine pk_ite (fun _ => ?_) (fun _ => ?_)
    · exact pk_some z6
    · refine pk_bd (y_X12_readVars μ10) (fun r14 μ13 ez7 => ?_)
      have z7 : Yz5 μ μ13 := z6.tr ez7
      refine pk_ite (fun _ => ?_) (fun _ => ?_)
      · exact pk_some z7
      · refine pk_bd (y_X12_takes (41 : Int32) μ13) (fun r17 μ16 ez8 => ?_)
        have z8 : Yz5 μ μ16 := z7.tr ez8
        refine pk_ite (fun _ => ?_) (fun _ => ?_)
        · exact pk_some z8
        · refine pk_bd (y_X12_here μ16) (fun r20 μ19 ez9 => ?_)
          have z9 : Yz5 μ μ19 := z8.tr ez9
          refine pk_ite (fun _ => ?_) (fun _ => ?_)
          · refine pk_gd (fun _ => ?_)
            refine pk_bd (y_X12_isNew v7 (μ19.1 12 (μ19.1 0 27).toNatClampNeg) μ19) (fun r23 μ22 ez10 => ?_)
            have z10 : Yz5 μ μ22 := z9.tr ez10
            refine pk_ite (fun _ => ?_) (fun _ => ?_)
            · refine pk_bd (y_X12_fails v1 μ22) (fun r36 μ35 ez11 => ?_)
              have z11 : Yz5 μ μ35 := z10.tr ez11
              refine pk_gd (fun _ => ?_)
              exact pk_some z11
            · refine pk_bvy (fun μ25 ez12 => ?_)
              have z12 : Yz5 μ μ25 := by rw [ez12]; exact z10.sF (py_f (by decide))
              refine pk_gd (fun _ => ?_)
              refine pk_bvy (fun μ26 ez13 => ?_)
              have z13 : Yz5 μ μ26 := by rw [ez13]; exact z12.sF (py_a (by decide) (by decide))
              refine pk_bd (y_X12_readExpression μ26) (fun r28 μ27 ez14 => ?_)
              have z14 : Yz5 μ μ27 := z13.tr ez14
              refine pk_ite (fun _ => ?_) (fun _ => ?_)
              · exact pk_some z14
              · refine pk_bd (y_X12_takes (59 : Int32) μ27) (fun r31 μ30 ez15 => ?_)
                have z15 : Yz5 μ μ30 := z14.tr ez15
                refine pk_ite (fun _ => ?_) (fun _ => ?_)
                · exact pk_some z15
                · refine pk_gd (fun _ => ?_)
                  refine pk_gd (fun _ => ?_)
                  refine pk_bvy (fun μ33 ez16 => ?_)
                  have z16 : Yz5 μ μ33 := by rw [ez16]; exact z15.sF (py_a (by decide) (by decide))
                  refine pk_bvy (fun μ34 ez17 => ?_)
                  have z17 : Yz5 μ μ34 := by rw [ez17]; exact z16.sF (py_f (by decide))
                  exact pk_some z17
          · refine pk_bd (y_X12_fails (μ19.1 0 4) μ19) (fun r39 μ38 ez18 => ?_)
            have z18 : Yz5 μ μ38 := z9.tr ez18
            refine pk_gd (fun _ => ?_)
            exact pk_some z18
theorem y_X12_readProgram_b14 : ∀ (n : Nat) (μ : Mem), pk (p_X12_readProgram_b14  n μ) (fun q => Yz5 μ q.2) := by
  intro n
  induction n with
  | zero => intro μ r e; rw [p_X12_readProgram_b14_z] at e; cases e
  | succ n ih =>
    intro μ
    have z0 : Yz5 μ μ := Yz5.rf
    rw [p_X12_readProgram_b14_s]
    refine pk_ite (fun _ => ?_) (fun _ => ?_)
    · exact pk_some z0
    · refine pk_bd (y_X12_readFunction μ) (fun r7 μ6 ez1 => ?_)
      have z1 : Yz5 μ μ6 := z0.tr ez1
      refine pk_ite (fun _ => ?_) (fun _ => ?_)
      · exact pk_some z1
      · exact pk_mono (ih μ6) (fun _ hq => z1.tr hq)
theorem y_X12_readProgram (μ : Mem) : pk (p_X12_readProgram μ) (fun q => Yz5 μ q.2) := by
  have z0 : Yz5 μ μ := Yz5.rf
  rw [p_X12_readProgram_eq]
  refine pk_bw (y_X12_beginText μ) (fun μ1 ez1 => ?_)
  have z1 : Yz5 μ μ1 := z0.tr ez1
  refine pk_bvy (fun μ3 ez2 => ?_)
  have z2 : Yz5 μ μ3 := by rw [ez2]; exact z1.sF (py_f (by decide))
  refine pk_bvy (fun μ4 ez3 => ?_)
  have z3 : Yz5 μ μ4 := by rw [ez3]; exact z2.sF (py_f (by decide))
  exact pk_mono (y_X12_readProgram_b14 FUEL μ4) (fun _ hq => z3.tr hq)
theorem y_X12_layRead (a1 : Int32) (a2 : Int32) (μ : Mem) : pk (p_X12_layRead a1 a2 μ) (fun q => Yz5 μ q) := by
  have z0 : Yz5 μ μ := Yz5.rf
  rw [p_X12_layRead_eq]
  refine pk_gd (fun _ => ?_)
  refine pk_bvy (fun μ1 ez1 => ?_)
  have z1 : Yz5 μ μ1 := by rw [ez1]; exact z0.sF (py_a (by decide) (by decide))
  refine pk_gd (fun _ => ?_)
  refine pk_bvy (fun μ2 ez2 => ?_)
  have z2 : Yz5 μ μ2 := by rw [ez2]; exact z1.sF (py_a (by decide) (by decide))
  refine pk_bvy (fun μ3 ez3 => ?_)
  have z3 : Yz5 μ μ3 := by rw [ez3]; exact z2.sF (py_f (by decide))
  exact pk_some z3
theorem y_X12_closeAll_b2 : ∀ (n : Nat) (a2 : Int32) (μ : Mem), pk (p_X12_closeAll_b2  n a2 μ) (fun q => Yz5 μ q.2) := by
  intro n
  induction n with
  | zero => intro a2 μ r e; rw [p_X12_closeAll_b2_z] at e; cases e
  | succ n ih =>
    intro a2 μ
    have z0 : Yz5 μ μ := Yz5.rf
    rw [p_X12_closeAll_b2_s]
    refine pk_ite (fun _ => ?_) (fun _ => ?_)
    · exact pk_some z0
    · refine pk_bvy (fun v2 _ => ?_)
      refine pk_gd (fun _ => ?_)
      refine pk_gd (fun _ => ?_)
      refine pk_bvy (fun μ3 ez1 => ?_)
      have z1 : Yz5 μ μ3 := by rw [ez1]; exact z0.sF (py_a (by decide) (by decide))
      refine pk_gd (fun _ => ?_)
      refine pk_ite (fun _ => ?_) (fun _ => ?_)
      · refine pk_bd (y_X12_takes (44 : Int32) μ3) (fun r10 μ9 ez2 => ?_)
        have z2 : Yz5 μ μ9 := z1.tr ez2
        exact pk_some z2
      · refine pk_bd (y_X12_takes (93 : Int32) μ3) (fun r6 μ5 ez3 => ?_)
        have z3 : Yz5 μ μ5 := z1.tr ez3
        refine pk_ite (fun _ => ?_) (fun _ => ?_)
        · exact pk_some z3
        · refine pk_bvy (fun v8 _ => ?_)
          exact pk_mono (ih v8 μ5) (fun _ hq => z3.tr hq)
theorem y_X12_closeAll (a1 : Int32) (μ : Mem) : pk (p_X12_closeAll a1 μ) (fun q => Yz5 μ q.2) := by
  have z0 : Yz5 μ μ := Yz5.rf
  rw [p_X12_closeAll_eq]
  exact pk_mono (y_X12_closeAll_b2 FUEL a1 μ) (fun _ hq => z0.tr hq)
theorem y_X12_readPart_b200 (K4 : Int32 → Int32 → Int32 → Mem → Option (Int32 × Mem)) (hK4 : ∀ (y0 : Int32) (y1 : Int32) (y2 : Int32) (y3 : Mem), pk (K4 y0 y1 y2 y3) (fun q => Yz5 y3 q.2)) (a1 : Int32) (a2 : Int32) (k0 : Int32) (μ : Mem) : pk (p_X12_readPart_b200 K4 a1 a2 k0 μ) (fun q => Yz5 μ q.2) := by
  have z0 : Yz5 μ μ := Yz5.rf
  rw [p_X12_readPart_b200_eq]
  exact pk_mono (hK4 a1 a2 k0 μ) (fun _ hq => z0.tr hq)
theorem y_X12_readPart_b199 (K4 : Int32 → Int32 → Int32 → Mem → Option (Int32 × Mem)) (hK4 : ∀ (y0 : Int32) (y1 : Int32) (y2 : Int32) (y3 : Mem), pk (K4 y0 y1 y2 y3) (fun q => Yz5 y3 q.2)) (a1 : Int32) (a2 : Int32) (μ : Mem) : pk (p_X12_readPart_b199 K4 a1 a2 μ) (fun q => Yz5 μ q.2) := by
  have z0 : Yz5 μ μ := Yz5.rf
  rw [p_X12_readPart_b199_eq]
  exact pk_mono (y_X12_readPart_b200 K4 hK4 a1 a2 (0 : Int32) μ) (fun _ hq => z0.tr hq)
theorem y_X12_readPart_b177 (K4 : Int32 → Int32 → Int32 → Mem → Option (Int32 × Mem)) (hK4 : ∀ (y0 : Int32) (y1 : Int32) (y2 : Int32) (y3 : Mem), pk (K4 y0 y1 y2 y3) (fun q => Yz5 y3 q.2)) (a1 : Int32) (a2 : Int32) (μ : Mem) : pk (p_X12_readPart_b177 K4 a1 a2 μ) (fun q => Yz5 μ q.2) := by
  have z0 : Yz5 μ μ := Yz5.rf
  rw [p_X12_readPart_b177_eq]
  refine pk_bd (y_X12_closeAll a2 μ) (fun r20 μ19 ez1 => ?_)
  have z1 : Yz5 μ μ19 := z0.tr ez1
  refine pk_ite (fun _ => ?_) (fun _ => ?_)
  · exact pk_mono (y_X12_readPart_b199 K4 hK4 a1 r20 μ19) (fun _ hq => z1.tr hq)
  · refine pk_ite (fun _ => ?_) (fun _ => ?_)
    · exact pk_mono (y_X12_readPart_b200 K4 hK4 a1 r20 (1 : Int32) μ19) (fun _ hq => z1.tr hq)
    · exact pk_mono (y_X12_readPart_b199 K4 hK4 a1 r20 μ19) (fun _ hq => z1.tr hq)
theorem y_X12_readPart_b83 (K4 : Int32 → Int32 → Int32 → Mem → Option (Int32 × Mem)) (hK4 : ∀ (y0 : Int32) (y1 : Int32) (y2 : Int32) (y3 : Mem), pk (K4 y0 y1 y2 y3) (fun q => Yz5 y3 q.2)) (a1 : Int32) (a2 : Int32) (a3 : Int32) (a4 : Int32) (a5 : Int32) (μ : Mem) : pk (p_X12_readPart_b83 K4 a1 a2 a3 a4 a5 μ) (fun q => Yz5 μ q.2) := by
  have z0 : Yz5 μ μ := Yz5.rf
  rw [p_X12_readPart_b83_eq]
  refine pk_ite (fun _ => ?_) (fun _ => ?_)
  · refine pk_bvy (fun μ27 ez1 => ?_)
    have z1 : Yz5 μ μ27 := by rw [ez1]; exact z0.sF (py_f (by decide))
    refine pk_bw (y_X12_layRead (2 : Int32) (0 : Int32) μ27) (fun μ28 ez2 => ?_)
    have z2 : Yz5 μ μ28 := z1.tr ez2
    refine pk_gd (fun _ => ?_)
    refine pk_bvy (fun μ30 ez3 => ?_)
    have z3 : Yz5 μ μ30 := by rw [ez3]; exact z2.sF (py_a (by decide) (by decide))
    refine pk_bvy (fun v31 _ => ?_)
    exact pk_mono (hK4 a1 v31 a3 μ30) (fun _ hq => z3.tr hq)
  · refine pk_ite (fun _ => ?_) (fun _ => ?_)
    · refine pk_bd (y_X12_readNumber μ) (fun r15 μ14 ez4 => ?_)
      have z4 : Yz5 μ μ14 := z0.tr ez4
      refine pk_ite (fun _ => ?_) (fun _ => ?_)
      · exact pk_some z4
      · refine pk_bw (y_X12_layRead (μ14.1 0 6) (μ14.1 0 7) μ14) (fun μ17 ez5 => ?_)
        have z5 : Yz5 μ μ17 := z4.tr ez5
        exact pk_mono (y_X12_readPart_b177 K4 hK4 a1 a2 μ17) (fun _ hq => z5.tr hq)
    · refine pk_bvy (fun μ23 ez6 => ?_)
      have z6 : Yz5 μ μ23 := by rw [ez6]; exact z0.sF (py_f (by decide))
      refine pk_bvy (fun μ24 ez7 => ?_)
      have z7 : Yz5 μ μ24 := by rw [ez7]; exact z6.sF (py_f (by decide))
      refine pk_bw (y_X12_layRead (3 : Int32) (0 : Int32) μ24) (fun μ25 ez8 => ?_)
      have z8 : Yz5 μ μ25 := z7.tr ez8
      exact pk_mono (y_X12_readPart_b177 K4 hK4 a1 a2 μ25) (fun _ hq => z8.tr hq)
theorem y_X12_readPart_b51 (K4 : Int32 → Int32 → Int32 → Mem → Option (Int32 × Mem)) (hK4 : ∀ (y0 : Int32) (y1 : Int32) (y2 : Int32) (y3 : Mem), pk (K4 y0 y1 y2 y3) (fun q => Yz5 y3 q.2)) (a1 : Int32) (a2 : Int32) (a3 : Int32) (a4 : Int32) (a5 : Int32) (μ : Mem) : pk (p_X12_readPart_b51 K4 a1 a2 a3 a4 a5 μ) (fun q => Yz5 μ q.2) := by
  have z0 : Yz5 μ μ := Yz5.rf
  rw [p_X12_readPart_b51_eq]
  refine pk_ite (fun _ => ?_) (fun _ => ?_)
  · refine pk_bd (y_X12_fails (μ.1 0 4) μ) (fun r9 μ8 ez1 => ?_)
    have z1 : Yz5 μ μ8 := z0.tr ez1
    refine pk_gd (fun _ => ?_)
    exact pk_some z1
  · refine pk_ite (fun _ => ?_) (fun _ => ?_)
    · exact pk_mono (y_X12_readPart_b83 K4 hK4 a1 a2 a3 a4 a5 μ) (fun _ hq => z0.tr hq)
    · refine pk_ite (fun _ => ?_) (fun _ => ?_)
      · refine pk_bd (y_X12_fails (μ.1 0 4) μ) (fun r34 μ33 ez2 => ?_)
        have z2 : Yz5 μ μ33 := z0.tr ez2
        refine pk_gd (fun _ => ?_)
        exact pk_some z2
      · exact pk_mono (y_X12_readPart_b83 K4 hK4 a1 a2 a3 a4 a5 μ) (fun _ hq => z0.tr hq)
theorem y_X12_readPart_b30 (K4 : Int32 → Int32 → Int32 → Mem → Option (Int32 × Mem)) (hK4 : ∀ (y0 : Int32) (y1 : Int32) (y2 : Int32) (y3 : Mem), pk (K4 y0 y1 y2 y3) (fun q => Yz5 y3 q.2)) (a1 : Int32) (a2 : Int32) (a3 : Int32) (a4 : Int32) (k0 : Int32) (μ : Mem) : pk (p_X12_readPart_b30 K4 a1 a2 a3 a4 k0 μ) (fun q => Yz5 μ q.2) := by
  have z0 : Yz5 μ μ := Yz5.rf
  rw [p_X12_readPart_b30_eq]
  refine pk_ite (fun _ => ?_) (fun _ => ?_)
  · refine pk_ite (fun _ => ?_) (fun _ => ?_)
    · exact pk_mono (y_X12_readPart_b51 K4 hK4 a1 a2 a3 a4 k0 μ) (fun _ hq => z0.tr hq)
    · refine pk_bd (y_X12_beginsNumber μ) (fun r38 μ37 ez1 => ?_)
      have z1 : Yz5 μ μ37 := z0.tr ez1
      refine pk_ite (fun _ => ?_) (fun _ => ?_)
      · refine pk_bd (y_X12_fails (μ37.1 0 4) μ37) (fun r41 μ40 ez2 => ?_)
        have z2 : Yz5 μ μ40 := z1.tr ez2
        refine pk_gd (fun _ => ?_)
        exact pk_some z2
      · exact pk_mono (y_X12_readPart_b51 K4 hK4 a1 a2 a3 a4 k0 μ37) (fun _ hq => z1.tr hq)
  · exact pk_mono (y_X12_readPart_b51 K4 hK4 a1 a2 a3 a4 k0 μ) (fun _ hq => z0.tr hq)
theorem y_X12_readPart_b29 (K4 : Int32 → Int32 → Int32 → Mem → Option (Int32 × Mem)) (hK4 : ∀ (y0 : Int32) (y1 : Int32) (y2 : Int32) (y3 : Mem), pk (K4 y0 y1 y2 y3) (fun q => Yz5 y3 q.2)) (a1 : Int32) (a2 : Int32) (a3 : Int32) (a4 : Int32) (μ : Mem) : pk (p_X12_readPart_b29 K4 a1 a2 a3 a4 μ) (fun q => Yz5 μ q.2) := by
  have z0 : Yz5 μ μ := Yz5.rf
  rw [p_X12_readPart_b29_eq]
  exact pk_mono (y_X12_readPart_b30 K4 hK4 a1 a2 a3 a4 (0 : Int32) μ) (fun _ hq => z0.tr hq)
theorem y_X12_readPart_b4 : ∀ (n : Nat) (a1 : Int32) (a2 : Int32) (a3 : Int32) (μ : Mem), pk (p_X12_readPart_b4  n a1 a2 a3 μ) (fun q => Yz5 μ q.2) := by
  intro n
  induction n with
  | zero => intro a1 a2 a3 μ r e; rw [p_X12_readPart_b4_z] at e; cases e
  | succ n ih =>
    intro a1 a2 a3 μ
    have z0 : Yz5 μ μ := Yz5.rf
    rw [p_X12_readPart_b4_s]
    refine pk_ite (fun _ => ?_) (fun _ => ?_)
    · refine pk_ite (fun _ => ?_) (fun _ => ?_)
      · exact pk_some z0
      · exact pk_some z0
    · refine pk_bd (y_X12_here μ) (fun r4 μ3 ez1 => ?_)
      have z1 : Yz5 μ μ3 := z0.tr ez1
      refine pk_ite (fun _ => ?_) (fun _ => ?_)
      · refine pk_ite (fun _ => ?_) (fun _ => ?_)
        · exact pk_mono (y_X12_readPart_b29 (p_X12_readPart_b4  n) ih a1 a2 a3 r4 μ3) (fun _ hq => z1.tr hq)
        · exact pk_mono (y_X12_readPart_b30 (p_X12_readPart_b4  n) ih a1 a2 a3 r4 (1 : Int32) μ3) (fun _ hq => z1.tr hq)
      · exact pk_mono (y_X12_readPart_b29 (p_X12_readPart_b4  n) ih a1 a2 a3 r4 μ3) (fun _ hq => z1.tr hq)
theorem y_X12_readPart (a1 : Int32) (μ : Mem) : pk (p_X12_readPart a1 μ) (fun q => Yz5 μ q.2) := by
  have z0 : Yz5 μ μ := Yz5.rf
  rw [p_X12_readPart_eq]
  exact pk_mono (y_X12_readPart_b4 FUEL a1 (0 : Int32) (1 : Int32) μ) (fun _ hq => z0.tr hq)
theorem y_X12_readTask_b133 (K87 : Int32 → Mem → Option (Int32 × Mem)) (hK87 : ∀ (y0 : Int32) (y1 : Mem), pk (K87 y0 y1) (fun q => Yz5 y1 q.2)) (k0 : Int32) (μ : Mem) : pk (p_X12_readTask_b133 K87 k0 μ) (fun q => Yz5 μ q.2) := by
  have z0 : Yz5 μ μ := Yz5.rf
  rw [p_X12_readTask_b133_eq]
  refine pk_ite (fun _ => ?_) (fun _ => ?_)
  · exact pk_mono (hK87 k0 μ) (fun _ hq => z0.tr hq)
  · refine pk_bvy (fun μ35 ez1 => ?_)
    have z1 : Yz5 μ μ35 := by rw [ez1]; exact z0.sF (py_f (by decide))
    exact pk_mono (hK87 k0 μ35) (fun _ hq => z1.tr hq)
theorem y_X12_readTask_b132 (K87 : Int32 → Mem → Option (Int32 × Mem)) (hK87 : ∀ (y0 : Int32) (y1 : Mem), pk (K87 y0 y1) (fun q => Yz5 y1 q.2)) (μ : Mem) : pk (p_X12_readTask_b132 K87 μ) (fun q => Yz5 μ q.2) := by
  have z0 : Yz5 μ μ := Yz5.rf
  rw [p_X12_readTask_b132_eq]
  exact pk_mono (y_X12_readTask_b133 K87 hK87 (0 : Int32) μ) (fun _ hq => z0.tr hq)
theorem y_X12_readTask_b87 : ∀ (n : Nat) (a1 : Int32) (μ : Mem), pk (p_X12_readTask_b87  n a1 μ) (fun q => Yz5 μ q.2) := by
  intro n
  induction n with
  | zero => intro a1 μ r e; rw [p_X12_readTask_b87_z] at e; cases e
  | succ n ih =>
    intro a1 μ
    have z0 : Yz5 μ μ := Yz5.rf
    rw [p_X12_readTask_b87_s]
    refine pk_ite (fun _ => ?_) (fun _ => ?_)
    · refine pk_bd (y_X12_takes (41 : Int32) μ) (fun r21 μ20 ez1 => ?_)
      have z1 : Yz5 μ μ20 := z0.tr ez1
      refine pk_ite (fun _ => ?_) (fun _ => ?_)
      · exact pk_some z1
      · refine pk_ite (fun _ => ?_) (fun _ => ?_)
        · exact pk_some z1
        · refine pk_bd (y_X12_fails (μ20.1 0 4) μ20) (fun r25 μ24 ez2 => ?_)
          have z2 : Yz5 μ μ24 := z1.tr ez2
          refine pk_ite (fun _ => ?_) (fun _ => ?_)
          · exact pk_some z2
          · exact pk_some z2
    · refine pk_bd (y_X12_readPart (1 : Int32) μ) (fun r28 μ27 ez3 => ?_)
      have z3 : Yz5 μ μ27 := z0.tr ez3
      refine pk_ite (fun _ => ?_) (fun _ => ?_)
      · exact pk_some z3
      · refine pk_bvy (fun μ30 ez4 => ?_)
        have z4 : Yz5 μ μ30 := by rw [ez4]; exact z3.sF (py_f (by decide))
        refine pk_bd (y_X12_here μ30) (fun r32 μ31 ez5 => ?_)
        have z5 : Yz5 μ μ31 := z4.tr ez5
        refine pk_ite (fun _ => ?_) (fun _ => ?_)
        · refine pk_ite (fun _ => ?_) (fun _ => ?_)
          · exact pk_mono (y_X12_readTask_b132 (p_X12_readTask_b87  n) ih μ31) (fun _ hq => z5.tr hq)
          · exact pk_mono (y_X12_readTask_b133 (p_X12_readTask_b87  n) ih (1 : Int32) μ31) (fun _ hq => z5.tr hq)
        · exact pk_mono (y_X12_readTask_b132 (p_X12_readTask_b87  n) ih μ31) (fun _ hq => z5.tr hq)
theorem y_X12_readTask_b86 (k0 : Int32) (μ : Mem) : pk (p_X12_readTask_b86 k0 μ) (fun q => Yz5 μ q.2) := by
  have z0 : Yz5 μ μ := Yz5.rf
  rw [p_X12_readTask_b86_eq]
  exact pk_mono (y_X12_readTask_b87 FUEL k0 μ) (fun _ hq => z0.tr hq)
theorem y_X12_readTask (μ : Mem) : pk (p_X12_readTask μ) (fun q => Yz5 μ q.2) := by
  have z0 : Yz5 μ μ := Yz5.rf
  rw [p_X12_readTask_eq]
  refine pk_bw (y_X12_beginText μ) (fun μ1 ez1 => ?_)
  have z1 : Yz5 μ μ1 := z0.tr ez1
  refine pk_bvy (fun μ3 ez2 => ?_)
  have z2 : Yz5 μ μ3 := by rw [ez2]; exact z1.sF (py_f (by decide))
  refine pk_bvy (fun μ4 ez3 => ?_)
  have z3 : Yz5 μ μ4 := by rw [ez3]; exact z2.sF (py_f (by decide))
  refine pk_bvy (fun μ5 ez4 => ?_)
  have z4 : Yz5 μ μ5 := by rw [ez4]; exact z3.sF (py_f (by decide))
  refine pk_bd (y_X12_here μ5) (fun r7 μ6 ez5 => ?_)
  have z5 : Yz5 μ μ6 := z4.tr ez5
  refine pk_ite (fun _ => ?_) (fun _ => ?_)
  · refine pk_bd (y_X12_fails (μ6.1 0 4) μ6) (fun r38 μ37 ez6 => ?_)
    have z6 : Yz5 μ μ37 := z5.tr ez6
    refine pk_gd (fun _ => ?_)
    exact pk_some z6
  · refine pk_bd (y_X12_here μ6) (fun r10 μ9 ez7 => ?_)
    have z7 : Yz5 μ μ9 := z5.tr ez7
    refine pk_bvy (fun μ11 ez8 => ?_)
    have z8 : Yz5 μ μ11 := by rw [ez8]; exact z7.sF (py_f (by decide))
    refine pk_bvy (fun μ12 ez9 => ?_)
    have z9 : Yz5 μ μ12 := by rw [ez9]; exact z8.sF (py_f (by decide))
    refine pk_bd (y_X12_takes (40 : Int32) μ12) (fun r14 μ13 ez10 => ?_)
    have z10 : Yz5 μ μ13 := z9.tr ez10
    refine pk_ite (fun _ => ?_) (fun _ => ?_)
    · exact pk_some z10
    · refine pk_bd (y_X12_here μ13) (fun r17 μ16 ez11 => ?_)
      have z11 : Yz5 μ μ16 := z10.tr ez11
      refine pk_ite (fun _ => ?_) (fun _ => ?_)
      · exact pk_mono (y_X12_readTask_b86 (0 : Int32) μ16) (fun _ hq => z11.tr hq)
      · exact pk_mono (y_X12_readTask_b86 (1 : Int32) μ16) (fun _ hq => z11.tr hq)
theorem y_X12_readValues_b37 (K16 : Int32 → Mem → Option (Int32 × Mem)) (hK16 : ∀ (y0 : Int32) (y1 : Mem), pk (K16 y0 y1) (fun q => Yz5 y1 q.2)) (a1 : Int32) (μ : Mem) : pk (p_X12_readValues_b37 K16 a1 μ) (fun q => Yz5 μ q.2) := by
  have z0 : Yz5 μ μ := Yz5.rf
  rw [p_X12_readValues_b37_eq]
  refine pk_bd (y_X12_readPart (0 : Int32) μ) (fun r12 μ11 ez1 => ?_)
  have z1 : Yz5 μ μ11 := z0.tr ez1
  refine pk_ite (fun _ => ?_) (fun _ => ?_)
  · exact pk_some z1
  · refine pk_bvy (fun v14 _ => ?_)
    exact pk_mono (hK16 v14 μ11) (fun _ hq => z1.tr hq)
theorem y_X12_readValues_b16 : ∀ (n : Nat) (a1 : Int32) (μ : Mem), pk (p_X12_readValues_b16  n a1 μ) (fun q => Yz5 μ q.2) := by
  intro n
  induction n with
  | zero => intro a1 μ r e; rw [p_X12_readValues_b16_z] at e; cases e
  | succ n ih =>
    intro a1 μ
    have z0 : Yz5 μ μ := Yz5.rf
    rw [p_X12_readValues_b16_s]
    refine pk_ite (fun _ => ?_) (fun _ => ?_)
    · refine pk_ite (fun _ => ?_) (fun _ => ?_)
      · exact pk_some z0
      · refine pk_bd (y_X12_fails (μ.1 0 4) μ) (fun r8 μ7 ez1 => ?_)
        have z1 : Yz5 μ μ7 := z0.tr ez1
        refine pk_ite (fun _ => ?_) (fun _ => ?_)
        · exact pk_some z1
        · exact pk_some z1
    · refine pk_ite (fun _ => ?_) (fun _ => ?_)
      · exact pk_mono (y_X12_readValues_b37 (p_X12_readValues_b16  n) ih a1 μ) (fun _ hq => z0.tr hq)
      · refine pk_bd (y_X12_takes (44 : Int32) μ) (fun r16 μ15 ez2 => ?_)
        have z2 : Yz5 μ μ15 := z0.tr ez2
        refine pk_ite (fun _ => ?_) (fun _ => ?_)
        · exact pk_some z2
        · exact pk_mono (y_X12_readValues_b37 (p_X12_readValues_b16  n) ih a1 μ15) (fun _ hq => z2.tr hq)
theorem y_X12_readValues (μ : Mem) : pk (p_X12_readValues μ) (fun q => Yz5 μ q.2) := by
  have z0 : Yz5 μ μ := Yz5.rf
  rw [p_X12_readValues_eq]
  refine pk_bw (y_X12_beginText μ) (fun μ1 ez1 => ?_)
  have z1 : Yz5 μ μ1 := z0.tr ez1
  refine pk_bvy (fun μ3 ez2 => ?_)
  have z2 : Yz5 μ μ3 := by rw [ez2]; exact z1.sF (py_f (by decide))
  refine pk_bvy (fun μ4 ez3 => ?_)
  have z3 : Yz5 μ μ4 := by rw [ez3]; exact z2.sF (py_f (by decide))
  exact pk_mono (y_X12_readValues_b16 FUEL (0 : Int32) μ4) (fun _ hq => z3.tr hq)
