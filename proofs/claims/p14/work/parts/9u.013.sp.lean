section
def Pm9x (i k : Nat) : Prop := (i = 2 ∨ i = 3 ∨ i = 4 ∨ i = 5 ∨ i = 6 ∨ i = 7 ∨ i = 8 ∨ i = 9 ∨ i = 46 ∨ i = 47 ∨ i = 48 ∨ i = 49 ∨ i = 50 ∨ i = 51 ∨ i = 52 ∨ i = 53 ∨ i = 54 ∨ i = 57 ∨ i = 58 ∨ i = 59 ∨ i = 60 ∨ i = 61 ∨ i = 62 ∨ i = 63 ∨ i = 64 ∨ i = 65 ∨ i = 66) ∨ (i = 0 ∧ (k = 17 ∨ k = 18 ∨ k = 87 ∨ k = 88 ∨ k = 89 ∨ k = 90 ∨ k = 91 ∨ k = 95 ∨ k = 96 ∨ k = 97 ∨ k = 110))
def Zm9 (μ q : Mem) : Prop := ∀ i k, Pm9x i k → q.1 i k = μ.1 i k
theorem Zm9.rf {μ : Mem} : Zm9 μ μ := fun _ _ _ => rfl
theorem Zm9.tr {μ q z : Mem} (h : Zm9 μ q) (h2 : Zm9 q z) : Zm9 μ z := fun i k hk => (h2 i k hk).trans (h i k hk)
theorem px_a {i k : Nat} (h0 : i ≠ 0) (h : ¬ (i = 2 ∨ i = 3 ∨ i = 4 ∨ i = 5 ∨ i = 6 ∨ i = 7 ∨ i = 8 ∨ i = 9 ∨ i = 46 ∨ i = 47 ∨ i = 48 ∨ i = 49 ∨ i = 50 ∨ i = 51 ∨ i = 52 ∨ i = 53 ∨ i = 54 ∨ i = 57 ∨ i = 58 ∨ i = 59 ∨ i = 60 ∨ i = 61 ∨ i = 62 ∨ i = 63 ∨ i = 64 ∨ i = 65 ∨ i = 66)) : ¬ Pm9x i k := fun e => e.elim h (fun e => h0 e.1)
theorem px_f {k : Nat} (h : ¬ (k = 17 ∨ k = 18 ∨ k = 87 ∨ k = 88 ∨ k = 89 ∨ k = 90 ∨ k = 91 ∨ k = 95 ∨ k = 96 ∨ k = 97 ∨ k = 110)) : ¬ Pm9x 0 k := fun e => e.elim (fun e => by omega) (fun e => h e.2)
theorem Zm9.sF {μ q : Mem} {i k : Nat} {v : Int32} (h : Zm9 μ q) (hn : ¬ Pm9x i k) : Zm9 μ (sF q i k v) := by
  intro i2 k2 hk
  by_cases e : i2 = i
  · by_cases e2 : k2 = k
    · subst e; subst e2; exact absurd hk hn
    · rw [e, sF_k e2, ← e]; exact h i2 k2 hk
  · rw [sF_i e]; exact h i2 k2 hk
theorem x_X12_give (a1 : Int32) (a2 : Int32) (μ : Mem) : pk (p_X12_give a1 a2 μ) (fun q => Zm9 μ q) := by
  have z0 : Zm9 μ μ := Zm9.rf
  rw [p_X12_give_eq]
  refine pk_bvy (fun μ1 ez1 => ?_)
  have z1 : Zm9 μ μ1 := by rw [ez1]; exact z0.sF (px_f (by decide))
  refine pk_bvy (fun μ2 ez2 => ?_)
  have z2 : Zm9 μ μ2 := by rw [ez2]; exact z1.sF (px_f (by decide))
  exact pk_some z2
theorem x_X12_join_b16 (a1 : Int32) (a2 : Int32) (a3 : Int32) (a4 : Int32) (a5 : Int32) (k0 : Int32) (μ : Mem) : pk (p_X12_join_b16 a1 a2 a3 a4 a5 k0 μ) (fun q => Zm9 μ q) := by
  have z0 : Zm9 μ μ := Zm9.rf
  rw [p_X12_join_b16_eq]
  refine pk_ite (fun _ => ?_) (fun _ => ?_)
  · refine pk_bsy (fun r35 => ?_)
    refine pk_ite (fun _ => ?_) (fun _ => ?_)
    · refine pk_bw (x_X12_give (0 : Int32) (0 : Int32) μ) (fun μ41 ez1 => ?_)
      have z1 : Zm9 μ μ41 := z0.tr ez1
      exact pk_some z1
    · refine pk_bsy (fun r37 => ?_)
      refine pk_gd (fun _ => ?_)
      refine pk_bw (x_X12_give (0 : Int32) (r37 - r37 / r35 * r35) μ) (fun μ39 ez2 => ?_)
      have z2 : Zm9 μ μ39 := z0.tr ez2
      exact pk_some z2
  · refine pk_ite (fun _ => ?_) (fun _ => ?_)
    · refine pk_ite (fun _ => ?_) (fun _ => ?_)
      · refine pk_ite (fun _ => ?_) (fun _ => ?_)
        · refine pk_bw (x_X12_give (0 : Int32) (0 : Int32) μ) (fun μ25 ez3 => ?_)
          have z3 : Zm9 μ μ25 := z0.tr ez3
          exact pk_some z3
        · refine pk_bw (x_X12_give (0 : Int32) (1 : Int32) μ) (fun μ27 ez4 => ?_)
          have z4 : Zm9 μ μ27 := z0.tr ez4
          exact pk_some z4
      · refine pk_bsy (fun r29 => ?_)
        refine pk_ite (fun _ => ?_) (fun _ => ?_)
        · refine pk_bw (x_X12_give (0 : Int32) (0 : Int32) μ) (fun μ31 ez5 => ?_)
          have z5 : Zm9 μ μ31 := z0.tr ez5
          exact pk_some z5
        · refine pk_bw (x_X12_give (0 : Int32) (1 : Int32) μ) (fun μ33 ez6 => ?_)
          have z6 : Zm9 μ μ33 := z0.tr ez6
          exact pk_some z6
    · refine pk_ite (fun _ => ?_) (fun _ => ?_)
      · refine pk_ite (fun _ => ?_) (fun _ => ?_)
        · refine pk_ite (fun _ => ?_) (fun _ => ?_)
          · refine pk_bw (x_X12_give (0 : Int32) (1 : Int32) μ) (fun μ15 ez7 => ?_)
            have z7 : Zm9 μ μ15 := z0.tr ez7
            exact pk_some z7
          · refine pk_bw (x_X12_give (0 : Int32) (0 : Int32) μ) (fun μ13 ez8 => ?_)
            have z8 : Zm9 μ μ13 := z0.tr ez8
            exact pk_some z8
        · refine pk_bsy (fun r17 => ?_)
          refine pk_ite (fun _ => ?_) (fun _ => ?_)
          · refine pk_bw (x_X12_give (0 : Int32) (0 : Int32) μ) (fun μ19 ez9 => ?_)
            have z9 : Zm9 μ μ19 := z0.tr ez9
            exact pk_some z9
          · refine pk_bw (x_X12_give (0 : Int32) (1 : Int32) μ) (fun μ21 ez10 => ?_)
            have z10 : Zm9 μ μ21 := z0.tr ez10
            exact pk_some z10
      · refine pk_ite (fun _ => ?_) (fun _ => ?_)
        · refine pk_bw (x_X12_give (0 : Int32) (s_X12_wholes a1 a3 a5) μ) (fun μ6 ez11 => ?_)
          have z11 : Zm9 μ μ6 := z0.tr ez11
          exact pk_some z11
        · refine pk_bsy (fun r8 => ?_)
          refine pk_bw (x_X12_give (1 : Int32) r8 μ) (fun μ9 ez12 => ?_)
          have z12 : Zm9 μ μ9 := z0.tr ez12
          exact pk_some z12
theorem x_X12_join_b11 (a1 : Int32) (a2 : Int32) (a3 : Int32) (a4 : Int32) (a5 : Int32) (μ : Mem) : pk (p_X12_join_b11 a1 a2 a3 a4 a5 μ) (fun q => Zm9 μ q) := by
  have z0 : Zm9 μ μ := Zm9.rf
  rw [p_X12_join_b11_eq]
  exact pk_mono (x_X12_join_b16 a1 a2 a3 a4 a5 (1 : Int32) μ) (fun _ hq => z0.tr hq)
theorem x_X12_join (a1 : Int32) (a2 : Int32) (a3 : Int32) (a4 : Int32) (a5 : Int32) (μ : Mem) : pk (p_X12_join a1 a2 a3 a4 a5 μ) (fun q => Zm9 μ q) := by
  have z0 : Zm9 μ μ := Zm9.rf
  rw [p_X12_join_eq]
  refine pk_ite (fun _ => ?_) (fun _ => ?_)
  · exact pk_mono (x_X12_join_b11 a1 a2 a3 a4 a5 μ) (fun _ hq => z0.tr hq)
  · refine pk_ite (fun _ => ?_) (fun _ => ?_)
    · exact pk_mono (x_X12_join_b11 a1 a2 a3 a4 a5 μ) (fun _ hq => z0.tr hq)
    · exact pk_mono (x_X12_join_b16 a1 a2 a3 a4 a5 (0 : Int32) μ) (fun _ hq => z0.tr hq)
theorem x_X12_turn (a1 : Int32) (a2 : Int32) (a3 : Int32) (μ : Mem) : pk (p_X12_turn a1 a2 a3 μ) (fun q => Zm9 μ q) := by
  have z0 : Zm9 μ μ := Zm9.rf
  rw [p_X12_turn_eq]
  refine pk_ite (fun _ => ?_) (fun _ => ?_)
  · refine pk_bsy (fun r7 => ?_)
    refine pk_bw (x_X12_give (0 : Int32) r7 μ) (fun μ8 ez1 => ?_)
    have z1 : Zm9 μ μ8 := z0.tr ez1
    exact pk_some z1
  · refine pk_ite (fun _ => ?_) (fun _ => ?_)
    · refine pk_bw (x_X12_give (1 : Int32) (s_X12_floatOf a2 a3) μ) (fun μ5 ez2 => ?_)
      have z2 : Zm9 μ μ5 := z0.tr ez2
      exact pk_some z2
    · refine pk_bw (x_X12_give (0 : Int32) (s_X12_floatOf a2 a3) μ) (fun μ3 ez3 => ?_)
      have z3 : Zm9 μ μ3 := z0.tr ez3
      exact pk_some z3
theorem x_X12_op (a1 : Int32) (a2 : Int32) (a3 : Int32) (μ : Mem) : pk (p_X12_op a1 a2 a3 μ) (fun q => Zm9 μ q.2) := by
  have z0 : Zm9 μ μ := Zm9.rf
  rw [p_X12_op_eq]
  refine pk_ite (fun _ => ?_) (fun _ => ?_)
  · exact pk_some z0
  · refine pk_bw (x_X12_join a2 (1 : Int32) a1 (1 : Int32) a3 μ) (fun μ2 ez1 => ?_)
    have z1 : Zm9 μ μ2 := z0.tr ez1
    exact pk_some z1
theorem x_X12_four_b3 : ∀ (n : Nat) (a1 : Int32) (a2 : Int32) (μ : Mem), pk (p_X12_four_b3  n a1 a2 μ) (fun q => Zm9 μ q) := by
  intro n
  induction n with
  | zero => intro a1 a2 μ r e; rw [p_X12_four_b3_z] at e; cases e
  | succ n ih =>
    intro a1 a2 μ
    have z0 : Zm9 μ μ := Zm9.rf
    rw [p_X12_four_b3_s]
    refine pk_ite (fun _ => ?_) (fun _ => ?_)
    · exact pk_some z0
    · refine pk_gd (fun _ => ?_)
      refine pk_bvy (fun μ2 ez1 => ?_)
      have z1 : Zm9 μ μ2 := by rw [ez1]; exact z0.sF (px_a (by decide) (by decide))
      refine pk_bvy (fun μ3 ez2 => ?_)
      have z2 : Zm9 μ μ3 := by rw [ez2]; exact z1.sF (px_f (by decide))
      refine pk_bvy (fun v4 _ => ?_)
      exact pk_mono (ih a1 v4 μ3) (fun _ hq => z2.tr hq)
theorem x_X12_four (a1 : Int32) (μ : Mem) : pk (p_X12_four a1 μ) (fun q => Zm9 μ q) := by
  have z0 : Zm9 μ μ := Zm9.rf
  rw [p_X12_four_eq]
  exact pk_mono (x_X12_four_b3 FUEL a1 (24 : Int32) μ) (fun _ hq => z0.tr hq)
theorem x_X12_feed (a1 : Int32) (a2 : Int32) (a3 : Int32) (a4 : Int32) (a5 : Int32) (μ : Mem) : pk (p_X12_feed a1 a2 a3 a4 a5 μ) (fun q => Zm9 μ q.2) := by
  have z0 : Zm9 μ μ := Zm9.rf
  rw [p_X12_feed_eq]
  refine pk_ite (fun _ => ?_) (fun _ => ?_)
  · refine pk_bw (x_X12_four a1 μ) (fun μ2 ez1 => ?_)
    have z1 : Zm9 μ μ2 := z0.tr ez1
    refine pk_bw (x_X12_four a2 μ2) (fun μ4 ez2 => ?_)
    have z2 : Zm9 μ μ4 := z1.tr ez2
    refine pk_bw (x_X12_four a3 μ4) (fun μ6 ez3 => ?_)
    have z3 : Zm9 μ μ6 := z2.tr ez3
    refine pk_bw (x_X12_four a4 μ6) (fun μ8 ez4 => ?_)
    have z4 : Zm9 μ μ8 := z3.tr ez4
    refine pk_bw (x_X12_four a5 μ8) (fun μ10 ez5 => ?_)
    have z5 : Zm9 μ μ10 := z4.tr ez5
    exact pk_some z5
  · exact pk_some z0
theorem x_X12_end (a1 : Int32) (μ : Mem) : pk (p_X12_end a1 μ) (fun q => Zm9 μ q.2) := by
  have z0 : Zm9 μ μ := Zm9.rf
  rw [p_X12_end_eq]
  refine pk_ite (fun _ => ?_) (fun _ => ?_)
  · exact pk_some z0
  · refine pk_bvy (fun μ2 ez1 => ?_)
    have z1 : Zm9 μ μ2 := by rw [ez1]; exact z0.sF (px_f (by decide))
    exact pk_some z1
theorem x_X12_here (μ : Mem) : pk (p_X12_here μ) (fun q => Zm9 μ q.2) := by
  have z0 : Zm9 μ μ := Zm9.rf
  rw [p_X12_here_eq]
  refine pk_ite (fun _ => ?_) (fun _ => ?_)
  · exact pk_some z0
  · refine pk_gd (fun _ => ?_)
    exact pk_some z0
theorem x_X12_fails (a1 : Int32) (μ : Mem) : pk (p_X12_fails a1 μ) (fun q => Zm9 μ q.2) := by
  have z0 : Zm9 μ μ := Zm9.rf
  rw [p_X12_fails_eq]
  refine pk_bvy (fun μ1 ez1 => ?_)
  have z1 : Zm9 μ μ1 := by rw [ez1]; exact z0.sF (px_f (by decide))
  exact pk_some z1
theorem x_X12_takes (a1 : Int32) (μ : Mem) : pk (p_X12_takes a1 μ) (fun q => Zm9 μ q.2) := by
  have z0 : Zm9 μ μ := Zm9.rf
  rw [p_X12_takes_eq]
  refine pk_bd (x_X12_here μ) (fun r2 μ1 ez1 => ?_)
  have z1 : Zm9 μ μ1 := z0.tr ez1
  refine pk_ite (fun _ => ?_) (fun _ => ?_)
  · refine pk_bvy (fun μ4 ez2 => ?_)
    have z2 : Zm9 μ μ4 := by rw [ez2]; exact z1.sF (px_f (by decide))
    exact pk_some z2
  · refine pk_bd (x_X12_fails (μ1.1 0 4) μ1) (fun r6 μ5 ez3 => ?_)
    have z3 : Zm9 μ μ5 := z1.tr ez3
    refine pk_gd (fun _ => ?_)
    exact pk_some z3
theorem x_X12_beginText (μ : Mem) : pk (p_X12_beginText μ) (fun q => Zm9 μ q) := by
  have z0 : Zm9 μ μ := Zm9.rf
  rw [p_X12_beginText_eq]
  refine pk_bvy (fun μ1 ez1 => ?_)
  have z1 : Zm9 μ μ1 := by rw [ez1]; exact z0.sF (px_f (by decide))
  refine pk_bvy (fun μ2 ez2 => ?_)
  have z2 : Zm9 μ μ2 := by rw [ez2]; exact z1.sF (px_f (by decide))
  exact pk_some z2
theorem x_X12_beginsNumber (μ : Mem) : pk (p_X12_beginsNumber μ) (fun q => Zm9 μ q.2) := by
  have z0 : Zm9 μ μ := Zm9.rf
  rw [p_X12_beginsNumber_eq]
  refine pk_bd (x_X12_here μ) (fun r2 μ1 ez1 => ?_)
  have z1 : Zm9 μ μ1 := z0.tr ez1
  refine pk_ite (fun _ => ?_) (fun _ => ?_)
  · refine pk_bd (x_X12_here μ1) (fun r5 μ4 ez2 => ?_)
    have z2 : Zm9 μ μ4 := z1.tr ez2
    refine pk_ite (fun _ => ?_) (fun _ => ?_)
    · exact pk_some z2
    · exact pk_some z2
  · exact pk_some z1
theorem x_X12_digits_b8 : ∀ (n : Nat) (a1 : Int32) (a3 : Int32) (a4 : Int32) (μ : Mem), pk (p_X12_digits_b8  n a1 a3 a4 μ) (fun q => Zm9 μ q.2) := by
  intro n
  induction n with
  | zero => intro a1 a3 a4 μ r e; rw [p_X12_digits_b8_z] at e; cases e
  | succ n ih =>
    intro a1 a3 a4 μ
    have z0 : Zm9 μ μ := Zm9.rf
    rw [p_X12_digits_b8_s]
    refine pk_bd (x_X12_here μ) (fun r3 μ2 ez1 => ?_)
    have z1 : Zm9 μ μ2 := z0.tr ez1
    refine pk_ite (fun _ => ?_) (fun _ => ?_)
    · exact pk_some z1
    · refine pk_ite (fun _ => ?_) (fun _ => ?_)
      · exact pk_some z1
      · refine pk_bd (x_X12_here μ2) (fun r7 μ6 ez2 => ?_)
        have z2 : Zm9 μ μ6 := z1.tr ez2
        refine pk_bvy (fun v8 _ => ?_)
        refine pk_bvy (fun μ9 ez3 => ?_)
        have z3 : Zm9 μ μ9 := by rw [ez3]; exact z2.sF (px_f (by decide))
        exact pk_mono (ih a1 v8 a4 μ9) (fun _ hq => z3.tr hq)
theorem x_X12_digits (a1 : Int32) (a2 : Int32) (μ : Mem) : pk (p_X12_digits a1 a2 μ) (fun q => Zm9 μ q.2) := by
  have z0 : Zm9 μ μ := Zm9.rf
  rw [p_X12_digits_eq]
  refine pk_bvy (fun v1 _ => ?_)
  exact pk_mono (x_X12_digits_b8 FUEL a1 a2 v1 μ) (fun _ hq => z0.tr hq)
theorem x_X12_readNumber_b161 (a1 : Int32) (a2 : Int32) (k0 : UInt32) (μ : Mem) : pk (p_X12_readNumber_b161 a1 a2 k0 μ) (fun q => Zm9 μ q.2) := by
  have z0 : Zm9 μ μ := Zm9.rf
  rw [p_X12_readNumber_b161_eq]
  refine pk_bvy (fun μ25 ez1 => ?_)
  have z1 : Zm9 μ μ25 := by rw [ez1]; exact z0.sF (px_f (by decide))
  refine pk_ite (fun _ => ?_) (fun _ => ?_)
  · refine pk_gd (fun _ => ?_)
    refine pk_bvy (fun μ28 ez2 => ?_)
    have z2 : Zm9 μ μ28 := by rw [ez2]; exact z1.sF (px_f (by decide))
    exact pk_some z2
  · refine pk_gd (fun _ => ?_)
    refine pk_bvy (fun μ30 ez3 => ?_)
    have z3 : Zm9 μ μ30 := by rw [ez3]; exact z1.sF (px_f (by decide))
    exact pk_some z3
theorem x_X12_readNumber_b71 (a1 : Int32) (a2 : Int32) (k0 : Int32) (μ : Mem) : pk (p_X12_readNumber_b71 a1 a2 k0 μ) (fun q => Zm9 μ q.2) := by
  have z0 : Zm9 μ μ := Zm9.rf
  rw [p_X12_readNumber_b71_eq]
  refine pk_bvy (fun μ12 ez1 => ?_)
  have z1 : Zm9 μ μ12 := by rw [ez1]; exact z0.sF (px_f (by decide))
  refine pk_bd (x_X12_here μ12) (fun r14 μ13 ez2 => ?_)
  have z2 : Zm9 μ μ13 := z1.tr ez2
  refine pk_ite (fun _ => ?_) (fun _ => ?_)
  · refine pk_bvy (fun μ16 ez3 => ?_)
    have z3 : Zm9 μ μ16 := by rw [ez3]; exact z2.sF (px_f (by decide))
    refine pk_bd (x_X12_here μ16) (fun r18 μ17 ez4 => ?_)
    have z4 : Zm9 μ μ17 := z3.tr ez4
    refine pk_ite (fun _ => ?_) (fun _ => ?_)
    · refine pk_bd (x_X12_fails (μ17.1 0 4) μ17) (fun r32 μ31 ez5 => ?_)
      have z5 : Zm9 μ μ31 := z4.tr ez5
      refine pk_gd (fun _ => ?_)
      exact pk_some z5
    · refine pk_bvy (fun v20 _ => ?_)
      refine pk_bd (x_X12_digits (3 : Int32) a2 μ17) (fun r22 μ21 ez6 => ?_)
      have z6 : Zm9 μ μ21 := z4.tr ez6
      refine pk_ite (fun _ => ?_) (fun _ => ?_)
      · exact pk_mono (x_X12_readNumber_b161 a1 r22 (1092616192) μ21) (fun _ hq => z6.tr hq)
      · refine pk_ite (fun _ => ?_) (fun _ => ?_)
        · exact pk_mono (x_X12_readNumber_b161 a1 r22 (1120403456) μ21) (fun _ hq => z6.tr hq)
        · exact pk_mono (x_X12_readNumber_b161 a1 r22 (1148846080) μ21) (fun _ hq => z6.tr hq)
  · exact pk_some z2
theorem x_X12_readNumber_b29 (a1 : Int32) (μ : Mem) : pk (p_X12_readNumber_b29 a1 μ) (fun q => Zm9 μ q.2) := by
  have z0 : Zm9 μ μ := Zm9.rf
  rw [p_X12_readNumber_b29_eq]
  refine pk_bd (x_X12_here μ) (fun r6 μ5 ez1 => ?_)
  have z1 : Zm9 μ μ5 := z0.tr ez1
  refine pk_ite (fun _ => ?_) (fun _ => ?_)
  · refine pk_bd (x_X12_fails (μ5.1 0 4) μ5) (fun r35 μ34 ez2 => ?_)
    have z2 : Zm9 μ μ34 := z1.tr ez2
    refine pk_gd (fun _ => ?_)
    exact pk_some z2
  · refine pk_bd (x_X12_digits (5 : Int32) (0 : Int32) μ5) (fun r9 μ8 ez3 => ?_)
    have z3 : Zm9 μ μ8 := z1.tr ez3
    refine pk_bvy (fun μ10 ez4 => ?_)
    have z4 : Zm9 μ μ10 := by rw [ez4]; exact z3.sF (px_f (by decide))
    refine pk_ite (fun _ => ?_) (fun _ => ?_)
    · exact pk_mono (x_X12_readNumber_b71 a1 r9 r9 μ10) (fun _ hq => z4.tr hq)
    · exact pk_mono (x_X12_readNumber_b71 a1 r9 (-r9) μ10) (fun _ hq => z4.tr hq)
theorem x_X12_readNumber_b14 (k0 : Int32) (μ : Mem) : pk (p_X12_readNumber_b14 k0 μ) (fun q => Zm9 μ q.2) := by
  have z0 : Zm9 μ μ := Zm9.rf
  rw [p_X12_readNumber_b14_eq]
  refine pk_ite (fun _ => ?_) (fun _ => ?_)
  · exact pk_mono (x_X12_readNumber_b29 k0 μ) (fun _ hq => z0.tr hq)
  · refine pk_bvy (fun μ37 ez1 => ?_)
    have z1 : Zm9 μ μ37 := by rw [ez1]; exact z0.sF (px_f (by decide))
    exact pk_mono (x_X12_readNumber_b29 k0 μ37) (fun _ hq => z1.tr hq)
theorem x_X12_readNumber (μ : Mem) : pk (p_X12_readNumber μ) (fun q => Zm9 μ q.2) := by
  have z0 : Zm9 μ μ := Zm9.rf
  rw [p_X12_readNumber_eq]
  refine pk_bd (x_X12_here μ) (fun r2 μ1 ez1 => ?_)
  have z1 : Zm9 μ μ1 := z0.tr ez1
  refine pk_ite (fun _ => ?_) (fun _ => ?_)
  · exact pk_mono (x_X12_readNumber_b14 (1 : Int32) μ1) (fun _ hq => z1.tr hq)
  · exact pk_mono (x_X12_readNumber_b14 (0 : Int32) μ1) (fun _ hq => z1.tr hq)
theorem x_X12_lay (a1 : Int32) (a2 : Int32) (a3 : Int32) (μ : Mem) : pk (p_X12_lay a1 a2 a3 μ) (fun q => Zm9 μ q.2) := by
  have z0 : Zm9 μ μ := Zm9.rf
  rw [p_X12_lay_eq]
  refine pk_gd (fun _ => ?_)
  refine pk_bvy (fun μ1 ez1 => ?_)
  have z1 : Zm9 μ μ1 := by rw [ez1]; exact z0.sF (px_a (by decide) (by decide))
  refine pk_gd (fun _ => ?_)
  refine pk_bvy (fun μ2 ez2 => ?_)
  have z2 : Zm9 μ μ2 := by rw [ez2]; exact z1.sF (px_a (by decide) (by decide))
  refine pk_gd (fun _ => ?_)
  refine pk_bvy (fun μ3 ez3 => ?_)
  have z3 : Zm9 μ μ3 := by rw [ez3]; exact z2.sF (px_a (by decide) (by decide))
  refine pk_bvy (fun μ4 ez4 => ?_)
  have z4 : Zm9 μ μ4 := by rw [ez4]; exact z3.sF (px_f (by decide))
  exact pk_some z4
theorem x_X12_openThing (μ : Mem) : pk (p_X12_openThing μ) (fun q => Zm9 μ q) := by
  have z0 : Zm9 μ μ := Zm9.rf
  rw [p_X12_openThing_eq]
  refine pk_gd (fun _ => ?_)
  refine pk_bvy (fun μ1 ez1 => ?_)
  have z1 : Zm9 μ μ1 := by rw [ez1]; exact z0.sF (px_a (by decide) (by decide))
  refine pk_gd (fun _ => ?_)
  refine pk_bvy (fun μ2 ez2 => ?_)
  have z2 : Zm9 μ μ2 := by rw [ez2]; exact z1.sF (px_a (by decide) (by decide))
  refine pk_bvy (fun μ3 ez3 => ?_)
  have z3 : Zm9 μ μ3 := by rw [ez3]; exact z2.sF (px_f (by decide))
  exact pk_some z3
theorem x_X12_layOpen (a1 : Int32) (a2 : Int32) (a3 : Int32) (μ : Mem) : pk (p_X12_layOpen a1 a2 a3 μ) (fun q => Zm9 μ q.2) := by
  have z0 : Zm9 μ μ := Zm9.rf
  rw [p_X12_layOpen_eq]
  refine pk_bvy (fun μ1 ez1 => ?_)
  have z1 : Zm9 μ μ1 := by rw [ez1]; exact z0.sF (px_f (by decide))
  refine pk_bd (x_X12_lay a1 a2 a3 μ1) (fun r3 μ2 ez2 => ?_)
  have z2 : Zm9 μ μ2 := z1.tr ez2
  refine pk_bw (x_X12_openThing μ2) (fun μ4 ez3 => ?_)
  have z3 : Zm9 μ μ4 := z2.tr ez3
  refine pk_gd (fun _ => ?_)
  exact pk_some z3
theorem x_X12_readPlace (μ : Mem) : pk (p_X12_readPlace μ) (fun q => Zm9 μ q.2) := by
  have z0 : Zm9 μ μ := Zm9.rf
  rw [p_X12_readPlace_eq]
  refine pk_bvy (fun μ1 ez1 => ?_)
  have z1 : Zm9 μ μ1 := by rw [ez1]; exact z0.sF (px_f (by decide))
  refine pk_bd (x_X12_here μ1) (fun r3 μ2 ez2 => ?_)
  have z2 : Zm9 μ μ2 := z1.tr ez2
  refine pk_ite (fun _ => ?_) (fun _ => ?_)
  · refine pk_bd (x_X12_fails (μ2.1 0 4) μ2) (fun r6 μ5 ez3 => ?_)
    have z3 : Zm9 μ μ5 := z2.tr ez3
    refine pk_ite (fun _ => ?_) (fun _ => ?_)
    · exact pk_some z3
    · exact pk_some z3
  · exact pk_some z2
theorem x_X12_readLet (μ : Mem) : pk (p_X12_readLet μ) (fun q => Zm9 μ q.2) := by
  have z0 : Zm9 μ μ := Zm9.rf
  rw [p_X12_readLet_eq]
  refine pk_bvy (fun μ1 ez1 => ?_)
  have z1 : Zm9 μ μ1 := by rw [ez1]; exact z0.sF (px_f (by decide))
  refine pk_bd (x_X12_here μ1) (fun r3 μ2 ez2 => ?_)
  have z2 : Zm9 μ μ2 := z1.tr ez2
  refine pk_ite (fun _ => ?_) (fun _ => ?_)
  · refine pk_bd (x_X12_fails (μ2.1 0 4) μ2) (fun r15 μ14 ez3 => ?_)
    have z3 : Zm9 μ μ14 := z2.tr ez3
    refine pk_gd (fun _ => ?_)
    exact pk_some z3
  · refine pk_bd (x_X12_here μ2) (fun r6 μ5 ez4 => ?_)
    have z4 : Zm9 μ μ5 := z2.tr ez4
    refine pk_bvy (fun v7 _ => ?_)
    refine pk_bd (x_X12_layOpen (11 : Int32) v7 (2 : Int32) μ5) (fun r9 μ8 ez5 => ?_)
    have z5 : Zm9 μ μ8 := z4.tr ez5
    refine pk_ite (fun _ => ?_) (fun _ => ?_)
    · exact pk_some z5
    · refine pk_bd (x_X12_takes (61 : Int32) μ8) (fun r12 μ11 ez6 => ?_)
      have z6 : Zm9 μ μ11 := z5.tr ez6
      refine pk_ite (fun _ => ?_) (fun _ => ?_)
      · exact pk_some z6
      · exact pk_some z6
theorem x_X12_readCall_b30 (k0 : Int32) (μ : Mem) : pk (p_X12_readCall_b30 k0 μ) (fun q => Zm9 μ q.2) := by
  have z0 : Zm9 μ μ := Zm9.rf
  rw [p_X12_readCall_b30_eq]
  refine pk_ite (fun _ => ?_) (fun _ => ?_)
  · refine pk_gd (fun _ => ?_)
    exact pk_some z0
  · refine pk_bd (x_X12_here μ) (fun r7 μ6 ez1 => ?_)
    have z1 : Zm9 μ μ6 := z0.tr ez1
    refine pk_ite (fun _ => ?_) (fun _ => ?_)
    · refine pk_bvy (fun μ10 ez2 => ?_)
      have z2 : Zm9 μ μ10 := by rw [ez2]; exact z1.sF (px_f (by decide))
      refine pk_bvy (fun μ11 ez3 => ?_)
      have z3 : Zm9 μ μ11 := by rw [ez3]; exact z2.sF (px_f (by decide))
      refine pk_gd (fun _ => ?_)
      exact pk_some z3
    · refine pk_gd (fun _ => ?_)
      exact pk_some z1
theorem x_X12_readCall_b29 (μ : Mem) : pk (p_X12_readCall_b29 μ) (fun q => Zm9 μ q.2) := by
  have z0 : Zm9 μ μ := Zm9.rf
  rw [p_X12_readCall_b29_eq]
  exact pk_mono (x_X12_readCall_b30 (0 : Int32) μ) (fun _ hq => z0.tr hq)
theorem x_X12_readCall (a1 : Int32) (μ : Mem) : pk (p_X12_readCall a1 μ) (fun q => Zm9 μ q.2) := by
  have z0 : Zm9 μ μ := Zm9.rf
  rw [p_X12_readCall_eq]
  refine pk_bd (x_X12_layOpen (12 : Int32) ((a1 - (97 : Int32)) + (1 : Int32)) (0 : Int32) μ) (fun r2 μ1 ez1 => ?_)
  have z1 : Zm9 μ μ1 := z0.tr ez1
  refine pk_ite (fun _ => ?_) (fun _ => ?_)
  · exact pk_mono (x_X12_readCall_b29 μ1) (fun _ hq => z1.tr hq)
  · refine pk_bd (x_X12_takes (40 : Int32) μ1) (fun r14 μ13 ez2 => ?_)
    have z2 : Zm9 μ μ13 := z1.tr ez2
    refine pk_ite (fun _ => ?_) (fun _ => ?_)
    · exact pk_mono (x_X12_readCall_b29 μ13) (fun _ hq => z2.tr hq)
    · exact pk_mono (x_X12_readCall_b30 (1 : Int32) μ13) (fun _ hq => z2.tr hq)
theorem x_X12_readThing_b86 (a1 : Int32) (a2 : Int32) (k0 : Int32) (μ : Mem) : pk (p_X12_readThing_b86 a1 a2 k0 μ) (fun q => Zm9 μ q.2) := by
  have z0 : Zm9 μ μ := Zm9.rf
  rw [p_X12_readThing_b86_eq]
  refine pk_ite (fun _ => ?_) (fun _ => ?_)
  · refine pk_bd (x_X12_fails a2 μ) (fun r9 μ8 ez1 => ?_)
    have z1 : Zm9 μ μ8 := z0.tr ez1
    refine pk_gd (fun _ => ?_)
    exact pk_some z1
  · refine pk_gd (fun _ => ?_)
    refine pk_ite (fun _ => ?_) (fun _ => ?_)
    · refine pk_bd (x_X12_fails a2 μ) (fun r13 μ12 ez2 => ?_)
      have z2 : Zm9 μ μ12 := z0.tr ez2
      refine pk_gd (fun _ => ?_)
      exact pk_some z2
    · refine pk_ite (fun _ => ?_) (fun _ => ?_)
      · refine pk_bd (x_X12_fails a2 μ) (fun r89 μ88 ez3 => ?_)
        have z3 : Zm9 μ μ88 := z0.tr ez3
        refine pk_gd (fun _ => ?_)
        exact pk_some z3
      · refine pk_bd (x_X12_beginsNumber μ) (fun r17 μ16 ez4 => ?_)
        have z4 : Zm9 μ μ16 := z0.tr ez4
        refine pk_ite (fun _ => ?_) (fun _ => ?_)
        · refine pk_ite (fun _ => ?_) (fun _ => ?_)
          · refine pk_ite (fun _ => ?_) (fun _ => ?_)
            · refine pk_ite (fun _ => ?_) (fun _ => ?_)
              · refine pk_bd (x_X12_layOpen (8 : Int32) (0 : Int32) (1 : Int32) μ16) (fun r24 μ23 ez5 => ?_)
                have z5 : Zm9 μ μ23 := z4.tr ez5
                refine pk_gd (fun _ => ?_)
                exact pk_some z5
              · refine pk_ite (fun _ => ?_) (fun _ => ?_)
                · refine pk_bd (x_X12_readPlace μ16) (fun r28 μ27 ez6 => ?_)
                  have z6 : Zm9 μ μ27 := z4.tr ez6
                  refine pk_ite (fun _ => ?_) (fun _ => ?_)
                  · exact pk_some z6
                  · refine pk_bd (x_X12_here μ27) (fun r31 μ30 ez7 => ?_)
                    have z7 : Zm9 μ μ30 := z6.tr ez7
                    refine pk_bd (x_X12_layOpen (9 : Int32) (r31 - (48 : Int32)) (1 : Int32) μ30) (fun r33 μ32 ez8 => ?_)
                    have z8 : Zm9 μ μ32 := z7.tr ez8
                    refine pk_ite (fun _ => ?_) (fun _ => ?_)
                    · exact pk_some z8
                    · exact pk_some z8
                · refine pk_ite (fun _ => ?_) (fun _ => ?_)
                  · refine pk_bd (x_X12_layOpen (5 : Int32) (0 : Int32) (2 : Int32) μ16) (fun r37 μ36 ez9 => ?_)
                    have z9 : Zm9 μ μ36 := z4.tr ez9
                    refine pk_gd (fun _ => ?_)
                    exact pk_some z9
                  · refine pk_ite (fun _ => ?_) (fun _ => ?_)
                    · refine pk_bd (x_X12_readLet μ16) (fun r41 μ40 ez10 => ?_)
                      have z10 : Zm9 μ μ40 := z4.tr ez10
                      refine pk_gd (fun _ => ?_)
                      exact pk_some z10
                    · refine pk_ite (fun _ => ?_) (fun _ => ?_)
                      · refine pk_bd (x_X12_layOpen (7 : Int32) (0 : Int32) (3 : Int32) μ16) (fun r45 μ44 ez11 => ?_)
                        have z11 : Zm9 μ μ44 := z4.tr ez11
                        refine pk_ite (fun _ => ?_) (fun _ => ?_)
                        · exact pk_some z11
                        · refine pk_bd (x_X12_takes (40 : Int32) μ44) (fun r48 μ47 ez12 => ?_)
                          have z12 : Zm9 μ μ47 := z11.tr ez12
                          refine pk_ite (fun _ => ?_) (fun _ => ?_)
                          · exact pk_some z12
                          · exact pk_some z12
                      · refine pk_ite (fun _ => ?_) (fun _ => ?_)
                        · refine pk_bd (x_X12_layOpen (2 : Int32) (0 : Int32) (2 : Int32) μ16) (fun r52 μ51 ez13 => ?_)
                          have z13 : Zm9 μ μ51 := z4.tr ez13
                          refine pk_gd (fun _ => ?_)
                          exact pk_some z13
                        · refine pk_ite (fun _ => ?_) (fun _ => ?_)
                          · refine pk_bd (x_X12_readPlace μ16) (fun r56 μ55 ez14 => ?_)
                            have z14 : Zm9 μ μ55 := z4.tr ez14
                            refine pk_ite (fun _ => ?_) (fun _ => ?_)
                            · exact pk_some z14
                            · refine pk_bd (x_X12_here μ55) (fun r59 μ58 ez15 => ?_)
                              have z15 : Zm9 μ μ58 := z14.tr ez15
                              refine pk_bd (x_X12_lay (10 : Int32) (r59 - (48 : Int32)) (0 : Int32) μ58) (fun r61 μ60 ez16 => ?_)
                              have z16 : Zm9 μ μ60 := z15.tr ez16
                              refine pk_ite (fun _ => ?_) (fun _ => ?_)
                              · exact pk_some z16
                              · refine pk_bd (x_X12_here μ60) (fun r64 μ63 ez17 => ?_)
                                have z17 : Zm9 μ μ63 := z16.tr ez17
                                refine pk_bd (x_X12_takes r64 μ63) (fun r66 μ65 ez18 => ?_)
                                have z18 : Zm9 μ μ65 := z17.tr ez18
                                refine pk_ite (fun _ => ?_) (fun _ => ?_)
                                · exact pk_some z18
                                · exact pk_some z18
                          · refine pk_bd (x_X12_readCall a1 μ16) (fun r69 μ68 ez19 => ?_)
                            have z19 : Zm9 μ μ68 := z4.tr ez19
                            refine pk_gd (fun _ => ?_)
                            exact pk_some z19
            · refine pk_bd (x_X12_layOpen (6 : Int32) (s_X12_signOf a1) (1 : Int32) μ16) (fun r72 μ71 ez20 => ?_)
              have z20 : Zm9 μ μ71 := z4.tr ez20
              refine pk_gd (fun _ => ?_)
              exact pk_some z20
          · refine pk_gd (fun _ => ?_)
            refine pk_ite (fun _ => ?_) (fun _ => ?_)
            · refine pk_bd (x_X12_fails a2 μ16) (fun r80 μ79 ez21 => ?_)
              have z21 : Zm9 μ μ79 := z4.tr ez21
              refine pk_gd (fun _ => ?_)
              exact pk_some z21
            · refine pk_bvy (fun μ75 ez22 => ?_)
              have z22 : Zm9 μ μ75 := by rw [ez22]; exact z4.sF (px_f (by decide))
              refine pk_bd (x_X12_lay (4 : Int32) (a1 - (109 : Int32)) (0 : Int32) μ75) (fun r77 μ76 ez23 => ?_)
              have z23 : Zm9 μ μ76 := z22.tr ez23
              refine pk_gd (fun _ => ?_)
              exact pk_some z23
        · refine pk_bd (x_X12_readNumber μ16) (fun r83 μ82 ez24 => ?_)
          have z24 : Zm9 μ μ82 := z4.tr ez24
          refine pk_ite (fun _ => ?_) (fun _ => ?_)
          · exact pk_some z24
          · refine pk_bd (x_X12_lay (μ82.1 0 6) (μ82.1 0 7) (0 : Int32) μ82) (fun r86 μ85 ez25 => ?_)
            have z25 : Zm9 μ μ85 := z24.tr ez25
            refine pk_ite (fun _ => ?_) (fun _ => ?_)
            · exact pk_some z25
            · exact pk_some z25
theorem x_X12_readThing_b81 (a1 : Int32) (a2 : Int32) (μ : Mem) : pk (p_X12_readThing_b81 a1 a2 μ) (fun q => Zm9 μ q.2) := by
  have z0 : Zm9 μ μ := Zm9.rf
  rw [p_X12_readThing_b81_eq]
  exact pk_mono (x_X12_readThing_b86 a1 a2 (1 : Int32) μ) (fun _ hq => z0.tr hq)
theorem x_X12_readThing (μ : Mem) : pk (p_X12_readThing μ) (fun q => Zm9 μ q.2) := by
  have z0 : Zm9 μ μ := Zm9.rf
  rw [p_X12_readThing_eq]
  refine pk_bd (x_X12_here μ) (fun r2 μ1 ez1 => ?_)
  have z1 : Zm9 μ μ1 := z0.tr ez1
  refine pk_bvy (fun v3 _ => ?_)
  refine pk_bd (x_X12_beginsNumber μ1) (fun r5 μ4 ez2 => ?_)
  have z2 : Zm9 μ μ4 := z1.tr ez2
  refine pk_ite (fun _ => ?_) (fun _ => ?_)
  · refine pk_ite (fun _ => ?_) (fun _ => ?_)
    · refine pk_ite (fun _ => ?_) (fun _ => ?_)
      · refine pk_ite (fun _ => ?_) (fun _ => ?_)
        · refine pk_ite (fun _ => ?_) (fun _ => ?_)
          · exact pk_mono (x_X12_readThing_b81 r2 v3 μ4) (fun _ hq => z2.tr hq)
          · refine pk_ite (fun _ => ?_) (fun _ => ?_)
            · exact pk_mono (x_X12_readThing_b81 r2 v3 μ4) (fun _ hq => z2.tr hq)
            · refine pk_ite (fun _ => ?_) (fun _ => ?_)
              · exact pk_mono (x_X12_readThing_b81 r2 v3 μ4) (fun _ hq => z2.tr hq)
              · refine pk_ite (fun _ => ?_) (fun _ => ?_)
                · exact pk_mono (x_X12_readThing_b81 r2 v3 μ4) (fun _ hq => z2.tr hq)
                · refine pk_ite (fun _ => ?_) (fun _ => ?_)
                  · exact pk_mono (x_X12_readThing_b81 r2 v3 μ4) (fun _ hq => z2.tr hq)
                  · refine pk_ite (fun _ => ?_) (fun _ => ?_)
                    · exact pk_mono (x_X12_readThing_b81 r2 v3 μ4) (fun _ hq => z2.tr hq)
                    · refine pk_ite (fun _ => ?_) (fun _ => ?_)
                      · exact pk_mono (x_X12_readThing_b81 r2 v3 μ4) (fun _ hq => z2.tr hq)
                      · exact pk_mono (x_X12_readThing_b86 r2 v3 (0 : Int32) μ4) (fun _ hq => z2.tr hq)
        · exact pk_mono (x_X12_readThing_b81 r2 v3 μ4) (fun _ hq => z2.tr hq)
      · exact pk_mono (x_X12_readThing_b81 r2 v3 μ4) (fun _ hq => z2.tr hq)
    · exact pk_mono (x_X12_readThing_b81 r2 v3 μ4) (fun _ hq => z2.tr hq)
  · exact pk_mono (x_X12_readThing_b81 r2 v3 μ4) (fun _ hq => z2.tr hq)
theorem x_X12_goesOn (a1 : Int32) (a2 : Int32) (μ : Mem) : pk (p_X12_goesOn a1 a2 μ) (fun q => Zm9 μ q.2) := by
  have z0 : Zm9 μ μ := Zm9.rf
  rw [p_X12_goesOn_eq]
  refine pk_ite (fun _ => ?_) (fun _ => ?_)
  · refine pk_bd (x_X12_here μ) (fun r12 μ11 ez1 => ?_)
    have z1 : Zm9 μ μ11 := z0.tr ez1
    refine pk_ite (fun _ => ?_) (fun _ => ?_)
    · refine pk_bd (x_X12_fails (μ11.1 0 4) μ11) (fun r19 μ18 ez2 => ?_)
      have z2 : Zm9 μ μ18 := z1.tr ez2
      refine pk_gd (fun _ => ?_)
      exact pk_some z2
    · refine pk_bd (x_X12_here μ11) (fun r15 μ14 ez3 => ?_)
      have z3 : Zm9 μ μ14 := z1.tr ez3
      refine pk_gd (fun _ => ?_)
      refine pk_bvy (fun μ16 ez4 => ?_)
      have z4 : Zm9 μ μ16 := by rw [ez4]; exact z3.sF (px_a (by decide) (by decide))
      refine pk_bvy (fun μ17 ez5 => ?_)
      have z5 : Zm9 μ μ17 := by rw [ez5]; exact z4.sF (px_f (by decide))
      exact pk_some z5
  · refine pk_ite (fun _ => ?_) (fun _ => ?_)
    · refine pk_gd (fun _ => ?_)
      refine pk_bvy (fun v6 _ => ?_)
      refine pk_gd (fun _ => ?_)
      refine pk_gd (fun _ => ?_)
      refine pk_bvy (fun μ7 ez6 => ?_)
      have z6 : Zm9 μ μ7 := by rw [ez6]; exact z0.sF (px_a (by decide) (by decide))
      refine pk_bd (x_X12_takes (44 : Int32) μ7) (fun r9 μ8 ez7 => ?_)
      have z7 : Zm9 μ μ8 := z6.tr ez7
      refine pk_gd (fun _ => ?_)
      exact pk_some z7
    · refine pk_bd (x_X12_takes (44 : Int32) μ) (fun r4 μ3 ez8 => ?_)
      have z8 : Zm9 μ μ3 := z0.tr ez8
      refine pk_gd (fun _ => ?_)
      exact pk_some z8
theorem x_X12_hasMore_b188 (K0 : Mem → Option (Int32 × Mem)) (hK0 : ∀ (y0 : Mem), pk (K0 y0) (fun q => Zm9 y0 q.2)) (μ : Mem) : pk (p_X12_hasMore_b188 K0 μ) (fun q => Zm9 μ q.2) := by
  have z0 : Zm9 μ μ := Zm9.rf
  rw [p_X12_hasMore_b188_eq]
  refine pk_bvy (fun μ13 ez1 => ?_)
  have z1 : Zm9 μ μ13 := by rw [ez1]; exact z0.sF (px_f (by decide))
  exact pk_mono (hK0 μ13) (fun _ hq => z1.tr hq)
theorem x_X12_hasMore_b167 (K0 : Mem → Option (Int32 × Mem)) (hK0 : ∀ (y0 : Mem), pk (K0 y0) (fun q => Zm9 y0 q.2)) (a1 : Int32) (a3 : Int32) (μ : Mem) : pk (p_X12_hasMore_b167 K0 a1 a3 μ) (fun q => Zm9 μ q.2) := by
  have z0 : Zm9 μ μ := Zm9.rf
  rw [p_X12_hasMore_b167_eq]
  refine pk_ite (fun _ => ?_) (fun _ => ?_)
  · refine pk_gd (fun _ => ?_)
    refine pk_bvy (fun v14 _ => ?_)
    refine pk_gd (fun _ => ?_)
    refine pk_gd (fun _ => ?_)
    refine pk_bvy (fun μ15 ez1 => ?_)
    have z1 : Zm9 μ μ15 := by rw [ez1]; exact z0.sF (px_a (by decide) (by decide))
    exact pk_mono (x_X12_hasMore_b188 K0 hK0 μ15) (fun _ hq => z1.tr hq)
  · exact pk_mono (x_X12_hasMore_b188 K0 hK0 μ) (fun _ hq => z0.tr hq)
theorem x_X12_hasMore_b148 (K0 : Mem → Option (Int32 × Mem)) (hK0 : ∀ (y0 : Mem), pk (K0 y0) (fun q => Zm9 y0 q.2)) (a1 : Int32) (a3 : Int32) (k0 : Int32) (μ : Mem) : pk (p_X12_hasMore_b148 K0 a1 a3 k0 μ) (fun q => Zm9 μ q.2) := by
  have z0 : Zm9 μ μ := Zm9.rf
  rw [p_X12_hasMore_b148_eq]
  refine pk_ite (fun _ => ?_) (fun _ => ?_)
  · exact pk_mono (x_X12_hasMore_b167 K0 hK0 a1 a3 μ) (fun _ hq => z0.tr hq)
  · refine pk_bd (x_X12_takes k0 μ) (fun r17 μ16 ez1 => ?_)
    have z1 : Zm9 μ μ16 := z0.tr ez1
    refine pk_ite (fun _ => ?_) (fun _ => ?_)
    · exact pk_some z1
    · exact pk_mono (x_X12_hasMore_b167 K0 hK0 a1 a3 μ16) (fun _ hq => z1.tr hq)
theorem x_X12_hasMore_b132 (K0 : Mem → Option (Int32 × Mem)) (hK0 : ∀ (y0 : Mem), pk (K0 y0) (fun q => Zm9 y0 q.2)) (a1 : Int32) (a3 : Int32) (μ : Mem) : pk (p_X12_hasMore_b132 K0 a1 a3 μ) (fun q => Zm9 μ q.2) := by
  have z0 : Zm9 μ μ := Zm9.rf
  rw [p_X12_hasMore_b132_eq]
  exact pk_mono (x_X12_hasMore_b148 K0 hK0 a1 a3 (41 : Int32) μ) (fun _ hq => z0.tr hq)
theorem x_X12_hasMore_b98 (K0 : Mem → Option (Int32 × Mem)) (hK0 : ∀ (y0 : Mem), pk (K0 y0) (fun q => Zm9 y0 q.2)) (a1 : Int32) (a2 : Int32) (a3 : Int32) (μ : Mem) : pk (p_X12_hasMore_b98 K0 a1 a2 a3 μ) (fun q => Zm9 μ q.2) := by
  have z0 : Zm9 μ μ := Zm9.rf
  rw [p_X12_hasMore_b98_eq]
  refine pk_gd (fun _ => ?_)
  refine pk_ite (fun _ => ?_) (fun _ => ?_)
  · refine pk_ite (fun _ => ?_) (fun _ => ?_)
    · exact pk_mono (x_X12_hasMore_b132 K0 hK0 a1 a3 μ) (fun _ hq => z0.tr hq)
    · refine pk_ite (fun _ => ?_) (fun _ => ?_)
      · exact pk_mono (x_X12_hasMore_b132 K0 hK0 a1 a3 μ) (fun _ hq => z0.tr hq)
      · refine pk_ite (fun _ => ?_) (fun _ => ?_)
        · exact pk_mono (x_X12_hasMore_b132 K0 hK0 a1 a3 μ) (fun _ hq => z0.tr hq)
        · refine pk_ite (fun _ => ?_) (fun _ => ?_)
          · exact pk_mono (x_X12_hasMore_b148 K0 hK0 a1 a3 (93 : Int32) μ) (fun _ hq => z0.tr hq)
          · exact pk_mono (x_X12_hasMore_b148 K0 hK0 a1 a3 (-1 : Int32) μ) (fun _ hq => z0.tr hq)
  · refine pk_bd (x_X12_goesOn a1 a3 μ) (fun r23 μ22 ez1 => ?_)
    have z1 : Zm9 μ μ22 := z0.tr ez1
    refine pk_gd (fun _ => ?_)
    exact pk_some z1
theorem x_X12_hasMore_b85 (K0 : Mem → Option (Int32 × Mem)) (hK0 : ∀ (y0 : Mem), pk (K0 y0) (fun q => Zm9 y0 q.2)) (a1 : Int32) (a2 : Int32) (a3 : Int32) (μ : Mem) : pk (p_X12_hasMore_b85 K0 a1 a2 a3 μ) (fun q => Zm9 μ q.2) := by
  have z0 : Zm9 μ μ := Zm9.rf
  rw [p_X12_hasMore_b85_eq]
  refine pk_ite (fun _ => ?_) (fun _ => ?_)
  · refine pk_gd (fun _ => ?_)
    refine pk_bvy (fun μ25 ez1 => ?_)
    have z1 : Zm9 μ μ25 := by rw [ez1]; exact z0.sF (px_a (by decide) (by decide))
    exact pk_mono (x_X12_hasMore_b98 K0 hK0 a1 a2 a3 μ25) (fun _ hq => z1.tr hq)
  · exact pk_mono (x_X12_hasMore_b98 K0 hK0 a1 a2 a3 μ) (fun _ hq => z0.tr hq)
theorem x_X12_hasMore_b0 : ∀ (n : Nat) (μ : Mem), pk (p_X12_hasMore_b0  n μ) (fun q => Zm9 μ q.2) := by
  intro n
  induction n with
  | zero => intro μ r e; rw [p_X12_hasMore_b0_z] at e; cases e
  | succ n ih =>
    intro μ
    have z0 : Zm9 μ μ := Zm9.rf
    rw [p_X12_hasMore_b0_s]
    refine pk_ite (fun _ => ?_) (fun _ => ?_)
    · exact pk_some z0
    · refine pk_gd (fun _ => ?_)
      refine pk_bvy (fun v2 _ => ?_)
      refine pk_bvy (fun v3 _ => ?_)
      refine pk_gd (fun _ => ?_)
      refine pk_gd (fun _ => ?_)
      refine pk_bvy (fun μ4 ez1 => ?_)
      have z1 : Zm9 μ μ4 := by rw [ez1]; exact z0.sF (px_a (by decide) (by decide))
      refine pk_gd (fun _ => ?_)
      refine pk_bvy (fun v5 _ => ?_)
      refine pk_gd (fun _ => ?_)
      refine pk_bvy (fun v6 _ => ?_)
      refine pk_ite (fun _ => ?_) (fun _ => ?_)
      · refine pk_bd (x_X12_here μ4) (fun r27 μ26 ez2 => ?_)
        have z2 : Zm9 μ μ26 := z1.tr ez2
        refine pk_ite (fun _ => ?_) (fun _ => ?_)
        · refine pk_ite (fun _ => ?_) (fun _ => ?_)
          · exact pk_mono (x_X12_hasMore_b85 (p_X12_hasMore_b0  n) ih v2 v5 v6 μ26) (fun _ hq => z2.tr hq)
          · refine pk_bvy (fun μ30 ez3 => ?_)
            have z3 : Zm9 μ μ30 := by rw [ez3]; exact z2.sF (px_f (by decide))
            exact pk_some z3
        · exact pk_mono (x_X12_hasMore_b85 (p_X12_hasMore_b0  n) ih v2 v5 v6 μ26) (fun _ hq => z2.tr hq)
      · exact pk_mono (x_X12_hasMore_b85 (p_X12_hasMore_b0  n) ih v2 v5 v6 μ4) (fun _ hq => z1.tr hq)
theorem x_X12_hasMore (μ : Mem) : pk (p_X12_hasMore μ) (fun q => Zm9 μ q.2) := by
  have z0 : Zm9 μ μ := Zm9.rf
  rw [p_X12_hasMore_eq]
  exact pk_mono (x_X12_hasMore_b0 FUEL μ) (fun _ hq => z0.tr hq)
theorem x_X12_readExpression_b62 (K7 : Int32 → Mem → Option (Int32 × Mem)) (hK7 : ∀ (y0 : Int32) (y1 : Mem), pk (K7 y0 y1) (fun q => Zm9 y1 q.2)) (k0 : Int32) (μ : Mem) : pk (p_X12_readExpression_b62 K7 k0 μ) (fun q => Zm9 μ q.2) := by
  have z0 : Zm9 μ μ := Zm9.rf
  rw [p_X12_readExpression_b62_eq]
  refine pk_ite (fun _ => ?_) (fun _ => ?_)
  · exact pk_mono (hK7 k0 μ) (fun _ hq => z0.tr hq)
  · exact pk_some z0
theorem x_X12_readExpression_b57 (K7 : Int32 → Mem → Option (Int32 × Mem)) (hK7 : ∀ (y0 : Int32) (y1 : Mem), pk (K7 y0 y1) (fun q => Zm9 y1 q.2)) (μ : Mem) : pk (p_X12_readExpression_b57 K7 μ) (fun q => Zm9 μ q.2) := by
  have z0 : Zm9 μ μ := Zm9.rf
  rw [p_X12_readExpression_b57_eq]
  exact pk_mono (x_X12_readExpression_b62 K7 hK7 (1 : Int32) μ) (fun _ hq => z0.tr hq)
theorem x_X12_readExpression_b43 (K7 : Int32 → Mem → Option (Int32 × Mem)) (hK7 : ∀ (y0 : Int32) (y1 : Mem), pk (K7 y0 y1) (fun q => Zm9 y1 q.2)) (k0 : Int32) (μ : Mem) : pk (p_X12_readExpression_b43 K7 k0 μ) (fun q => Zm9 μ q.2) := by
  have z0 : Zm9 μ μ := Zm9.rf
  rw [p_X12_readExpression_b43_eq]
  refine pk_ite (fun _ => ?_) (fun _ => ?_)
  · refine pk_bd (x_X12_hasMore μ) (fun r12 μ11 ez1 => ?_)
    have z1 : Zm9 μ μ11 := z0.tr ez1
    refine pk_ite (fun _ => ?_) (fun _ => ?_)
    · exact pk_mono (x_X12_readExpression_b62 K7 hK7 (0 : Int32) μ11) (fun _ hq => z1.tr hq)
    · exact pk_mono (x_X12_readExpression_b57 K7 hK7 μ11) (fun _ hq => z1.tr hq)
  · exact pk_mono (x_X12_readExpression_b57 K7 hK7 μ) (fun _ hq => z0.tr hq)
theorem x_X12_readExpression_b7 : ∀ (n : Nat) (a1 : Int32) (μ : Mem), pk (p_X12_readExpression_b7  n a1 μ) (fun q => Zm9 μ q.2) := by
  intro n
  induction n with
  | zero => intro a1 μ r e; rw [p_X12_readExpression_b7_z] at e; cases e
  | succ n ih =>
    intro a1 μ
    have z0 : Zm9 μ μ := Zm9.rf
    rw [p_X12_readExpression_b7_s]
    refine pk_ite (fun _ => ?_) (fun _ => ?_)
    · exact pk_some z0
    · refine pk_bvy (fun v3 _ => ?_)
      refine pk_bvy (fun v4 _ => ?_)
      refine pk_bd (x_X12_readThing μ) (fun r6 μ5 ez1 => ?_)
      have z1 : Zm9 μ μ5 := z0.tr ez1
      refine pk_ite (fun _ => ?_) (fun _ => ?_)
      · exact pk_some z1
      · refine pk_ite (fun _ => ?_) (fun _ => ?_)
        · exact pk_mono (x_X12_readExpression_b43 (p_X12_readExpression_b7  n) ih (0 : Int32) μ5) (fun _ hq => z1.tr hq)
        · exact pk_mono (x_X12_readExpression_b43 (p_X12_readExpression_b7  n) ih (1 : Int32) μ5) (fun _ hq => z1.tr hq)
theorem x_X12_readExpression (μ : Mem) : pk (p_X12_readExpression μ) (fun q => Zm9 μ q.2) := by
  have z0 : Zm9 μ μ := Zm9.rf
  rw [p_X12_readExpression_eq]
  refine pk_bvy (fun μ1 ez1 => ?_)
  have z1 : Zm9 μ μ1 := by rw [ez1]; exact z0.sF (px_f (by decide))
  exact pk_mono (x_X12_readExpression_b7 FUEL (1 : Int32) μ1) (fun _ hq => z1.tr hq)
theorem x_X12_readVars_b160 (K46 : Int32 → Int32 → Mem → Option (Int32 × Mem)) (hK46 : ∀ (y0 : Int32) (y1 : Int32) (y2 : Mem), pk (K46 y0 y1 y2) (fun q => Zm9 y2 q.2)) (a1 : Int32) (a2 : Int32) (μ : Mem) : pk (p_X12_readVars_b160 K46 a1 a2 μ) (fun q => Zm9 μ q.2) := by
  have z0 : Zm9 μ μ := Zm9.rf
  rw [p_X12_readVars_b160_eq]
  exact pk_mono (hK46 a1 a2 μ) (fun _ hq => z0.tr hq)
theorem x_X12_readVars_b145 (K46 : Int32 → Int32 → Mem → Option (Int32 × Mem)) (hK46 : ∀ (y0 : Int32) (y1 : Int32) (y2 : Mem), pk (K46 y0 y1 y2) (fun q => Zm9 y2 q.2)) (a1 : Int32) (k0 : Int32) (μ : Mem) : pk (p_X12_readVars_b145 K46 a1 k0 μ) (fun q => Zm9 μ q.2) := by
  have z0 : Zm9 μ μ := Zm9.rf
  rw [p_X12_readVars_b145_eq]
  refine pk_ite (fun _ => ?_) (fun _ => ?_)
  · exact pk_mono (x_X12_readVars_b160 K46 hK46 a1 k0 μ) (fun _ hq => z0.tr hq)
  · refine pk_bvy (fun μ24 ez1 => ?_)
    have z1 : Zm9 μ μ24 := by rw [ez1]; exact z0.sF (px_f (by decide))
    exact pk_mono (x_X12_readVars_b160 K46 hK46 a1 k0 μ24) (fun _ hq => z1.tr hq)
theorem x_X12_readVars_b144 (K46 : Int32 → Int32 → Mem → Option (Int32 × Mem)) (hK46 : ∀ (y0 : Int32) (y1 : Int32) (y2 : Mem), pk (K46 y0 y1 y2) (fun q => Zm9 y2 q.2)) (a1 : Int32) (μ : Mem) : pk (p_X12_readVars_b144 K46 a1 μ) (fun q => Zm9 μ q.2) := by
  have z0 : Zm9 μ μ := Zm9.rf
  rw [p_X12_readVars_b144_eq]
  exact pk_mono (x_X12_readVars_b145 K46 hK46 a1 (0 : Int32) μ) (fun _ hq => z0.tr hq)
theorem x_X12_readVars_b46 : ∀ (n : Nat) (a1 : Int32) (a2 : Int32) (μ : Mem), pk (p_X12_readVars_b46  n a1 a2 μ) (fun q => Zm9 μ q.2) := by
  intro n
  induction n with
  | zero => intro a1 a2 μ r e; rw [p_X12_readVars_b46_z] at e; cases e
  | succ n ih =>
    intro a1 a2 μ
    have z0 : Zm9 μ μ := Zm9.rf
    rw [p_X12_readVars_b46_s]
    refine pk_ite (fun _ => ?_) (fun _ => ?_)
    · refine pk_gd (fun _ => ?_)
      refine pk_bvy (fun μ7 ez1 => ?_)
      have z1 : Zm9 μ μ7 := by rw [ez1]; exact z0.sF (px_a (by decide) (by decide))
      exact pk_some z1
    · refine pk_bd (x_X12_here μ) (fun r9 μ8 ez2 => ?_)
      have z2 : Zm9 μ μ8 := z0.tr ez2
      refine pk_ite (fun _ => ?_) (fun _ => ?_)
      · refine pk_bd (x_X12_fails (μ8.1 0 4) μ8) (fun r12 μ11 ez3 => ?_)
        have z3 : Zm9 μ μ11 := z2.tr ez3
        refine pk_gd (fun _ => ?_)
        exact pk_some z3
      · refine pk_gd (fun _ => ?_)
        refine pk_ite (fun _ => ?_) (fun _ => ?_)
        · refine pk_bvy (fun v15 _ => ?_)
          refine pk_gd (fun _ => ?_)
          refine pk_gd (fun _ => ?_)
          refine pk_bvy (fun μ16 ez4 => ?_)
          have z4 : Zm9 μ μ16 := by rw [ez4]; exact z2.sF (px_a (by decide) (by decide))
          refine pk_gd (fun _ => ?_)
          refine pk_bvy (fun μ17 ez5 => ?_)
          have z5 : Zm9 μ μ17 := by rw [ez5]; exact z4.sF (px_a (by decide) (by decide))
          refine pk_bvy (fun v18 _ => ?_)
          refine pk_bvy (fun μ19 ez6 => ?_)
          have z6 : Zm9 μ μ19 := by rw [ez6]; exact z5.sF (px_f (by decide))
          refine pk_bd (x_X12_here μ19) (fun r21 μ20 ez7 => ?_)
          have z7 : Zm9 μ μ20 := z6.tr ez7
          refine pk_ite (fun _ => ?_) (fun _ => ?_)
          · refine pk_ite (fun _ => ?_) (fun _ => ?_)
            · exact pk_mono (x_X12_readVars_b144 (p_X12_readVars_b46  n) ih v18 μ20) (fun _ hq => z7.tr hq)
            · exact pk_mono (x_X12_readVars_b145 (p_X12_readVars_b46  n) ih v18 (1 : Int32) μ20) (fun _ hq => z7.tr hq)
          · exact pk_mono (x_X12_readVars_b144 (p_X12_readVars_b46  n) ih v18 μ20) (fun _ hq => z7.tr hq)
        · refine pk_bd (x_X12_fails (μ8.1 0 4) μ8) (fun r27 μ26 ez8 => ?_)
          have z8 : Zm9 μ μ26 := z2.tr ez8
          refine pk_gd (fun _ => ?_)
          exact pk_some z8
theorem x_X12_readVars_b4 : ∀ (n : Nat) (a1 : Int32) (a2 : Int32) (μ : Mem), pk (p_X12_readVars_b4  n a1 a2 μ) (fun q => Zm9 μ q.2) := by
  intro n
  induction n with
  | zero => intro a1 a2 μ r e; rw [p_X12_readVars_b4_z] at e; cases e
  | succ n ih =>
    intro a1 a2 μ
    have z0 : Zm9 μ μ := Zm9.rf
    rw [p_X12_readVars_b4_s]
    refine pk_ite (fun _ => ?_) (fun _ => ?_)
    · refine pk_gd (fun _ => ?_)
      refine pk_bvy (fun μ2 ez1 => ?_)
      have z1 : Zm9 μ μ2 := by rw [ez1]; exact z0.sF (px_a (by decide) (by decide))
      refine pk_bd (x_X12_here μ2) (fun r4 μ3 ez2 => ?_)
      have z2 : Zm9 μ μ3 := z1.tr ez2
      refine pk_ite (fun _ => ?_) (fun _ => ?_)
      · exact pk_some z2
      · exact pk_mono (x_X12_readVars_b46 FUEL a1 (1 : Int32) μ3) (fun _ hq => z2.tr hq)
    · refine pk_gd (fun _ => ?_)
      refine pk_bvy (fun μ29 ez3 => ?_)
      have z3 : Zm9 μ μ29 := by rw [ez3]; exact z0.sF (px_a (by decide) (by decide))
      refine pk_bvy (fun v30 _ => ?_)
      exact pk_mono (ih a1 v30 μ29) (fun _ hq => z3.tr hq)
theorem x_X12_readVars (μ : Mem) : pk (p_X12_readVars μ) (fun q => Zm9 μ q.2) := by
  have z0 : Zm9 μ μ := Zm9.rf
  rw [p_X12_readVars_eq]
  exact pk_mono (x_X12_readVars_b4 FUEL (0 : Int32) (0 : Int32) μ) (fun _ hq => z0.tr hq)
theorem x_X12_isNew_b32 (K2 : Int32 → Int32 → Int32 → Mem → Option (Int32 × Mem)) (hK2 : ∀ (y0 : Int32) (y1 : Int32) (y2 : Int32) (y3 : Mem), pk (K2 y0 y1 y2 y3) (fun q => Zm9 y3 q.2)) (a1 : Int32) (a2 : Int32) (a3 : Int32) (μ : Mem) : pk (p_X12_isNew_b32 K2 a1 a2 a3 μ) (fun q => Zm9 μ q.2) := by
  have z0 : Zm9 μ μ := Zm9.rf
  rw [p_X12_isNew_b32_eq]
  refine pk_bvy (fun v3 _ => ?_)
  exact pk_mono (hK2 a1 a2 v3 μ) (fun _ hq => z0.tr hq)
theorem x_X12_isNew_b2 : ∀ (n : Nat) (a1 : Int32) (a2 : Int32) (a3 : Int32) (μ : Mem), pk (p_X12_isNew_b2  n a1 a2 a3 μ) (fun q => Zm9 μ q.2) := by
  intro n
  induction n with
  | zero => intro a1 a2 a3 μ r e; rw [p_X12_isNew_b2_z] at e; cases e
  | succ n ih =>
    intro a1 a2 a3 μ
    have z0 : Zm9 μ μ := Zm9.rf
    rw [p_X12_isNew_b2_s]
    refine pk_ite (fun _ => ?_) (fun _ => ?_)
    · exact pk_some z0
    · refine pk_gd (fun _ => ?_)
      refine pk_ite (fun _ => ?_) (fun _ => ?_)
      · refine pk_gd (fun _ => ?_)
        refine pk_ite (fun _ => ?_) (fun _ => ?_)
        · exact pk_some z0
        · exact pk_mono (x_X12_isNew_b32 (p_X12_isNew_b2  n) ih a1 a2 a3 μ) (fun _ hq => z0.tr hq)
      · exact pk_mono (x_X12_isNew_b32 (p_X12_isNew_b2  n) ih a1 a2 a3 μ) (fun _ hq => z0.tr hq)
theorem x_X12_isNew (a1 : Int32) (a2 : Int32) (μ : Mem) : pk (p_X12_isNew a1 a2 μ) (fun q => Zm9 μ q.2) := by
  have z0 : Zm9 μ μ := Zm9.rf
  rw [p_X12_isNew_eq]
  exact pk_mono (x_X12_isNew_b2 FUEL a1 a2 (0 : Int32) μ) (fun _ hq => z0.tr hq)
theorem x_X12_readFunction (μ : Mem) : pk (p_X12_readFunction μ) (fun q => Zm9 μ q.2) := by
  have z0 : Zm9 μ μ := Zm9.rf
  rw [p_X12_readFunction_eq]
  refine pk_bvy (fun v1 _ => ?_)
  refine pk_bd (x_X12_here μ) (fun r3 μ2 ez1 => ?_)
  have z1 : Zm9 μ μ2 := z0.tr ez1
  refine pk_ite (fun _ => ?_) (fun _ => ?_)
  · refine pk_bd (x_X12_fails (μ2.1 0 4) μ2) (fun r42 μ41 ez2 => ?_)
    have z2 : Zm9 μ μ41 := z1.tr ez2
    refine pk_gd (fun _ => ?_)
    exact pk_some z2
  · refine pk_bd (x_X12_here μ2) (fun r6 μ5 ez3 => ?_)
    have z3 : Zm9 μ μ5 := z1.tr ez3
    refine pk_bvy (fun v7 _ => ?_)
    refine pk_bvy (fun μ8 ez4 => ?_)
    have z4 : Zm9 μ μ8 := by rw [ez4]; exact z3.sF (px_f (by decide))
    refine pk_gd (fun _ => ?_)
    refine pk_bvy (fun μ9 ez5 => ?_)
    have z5 : Zm9 μ μ9 := by rw [ez5]; exact z4.sF (px_a (by decide) (by decide))
    refine pk_bd (x_X12_takes (40 : Int32) μ9) (fun r11 μ10 ez6 => ?_)
    have z6 : Zm9 μ μ10 := z5.tr ez6
    refine pk_ite (fun _ => ?_) (fun _ => ?_)
    · exact pk_some z6
    · refine pk_bd (x_X12_readVars μ10) (fun r14 μ13 ez7 => ?_)
      have z7 : Zm9 μ μ13 := z6.tr ez7
      refine pk_ite (fun _ => ?_) (fun _ => ?_)
      · exact pk_some z7
      · refine pk_bd (x_X12_takes (41 : Int32) μ13) (fun r17 μ16 ez8 => ?_)
        have z8 : Zm9 μ μ16 := z7.tr ez8
        refine pk_ite (fun _ => ?_) (fun _ => ?_)
        · exact pk_some z8
        · refine pk_bd (x_X12_here μ16) (fun r20 μ19 ez9 => ?_)
          have z9 : Zm9 μ μ19 := z8.tr ez9
          refine pk_ite (fun _ => ?_) (fun _ => ?_)
          · refine pk_gd (fun _ => ?_)
            refine pk_bd (x_X12_isNew v7 (μ19.1 12 (μ19.1 0 27).toNatClampNeg) μ19) (fun r23 μ22 ez10 => ?_)
            have z10 : Zm9 μ μ22 := z9.tr ez10
            refine pk_ite (fun _ => ?_) (fun _ => ?_)
            · refine pk_bd (x_X12_fails v1 μ22) (fun r36 μ35 ez11 => ?_)
              have z11 : Zm9 μ μ35 := z10.tr ez11
              refine pk_gd (fun _ => ?_)
              exact pk_some z11
            · refine pk_bvy (fun μ25 ez12 => ?_)
              have z12 : Zm9 μ μ25 := by rw [ez12]; exact z10.sF (px_f (by decide))
              refine pk_gd (fun _ => ?_)
              refine pk_bvy (fun μ26 ez13 => ?_)
              have z13 : Zm9 μ μ26 := by rw [ez13]; exact z12.sF (px_a (by decide) (by decide))
              refine pk_bd (x_X12_readExpression μ26) (fun r28 μ27 ez14 => ?_)
              have z14 : Zm9 μ μ27 := z13.tr ez14
              refine pk_ite (fun _ => ?_) (fun _ => ?_)
              · exact pk_some z14
              · refine pk_bd (x_X12_takes (59 : Int32) μ27) (fun r31 μ30 ez15 => ?_)
                have z15 : Zm9 μ μ30 := z14.tr ez15
                refine pk_ite (fun _ => ?_) (fun _ => ?_)
                · exact pk_some z15
                · refine pk_gd (fun _ => ?_)
                  refine pk_gd (fun _ => ?_)
                  refine pk_bvy (fun μ33 ez16 => ?_)
                  have z16 : Zm9 μ μ33 := by rw [ez16]; exact z15.sF (px_a (by decide) (by decide))
                  refine pk_bvy (fun μ34 ez17 => ?_)
                  have z17 : Zm9 μ μ34 := by rw [ez17]; exact z16.sF (px_f (by decide))
                  exact pk_some z17
          · refine pk_bd (x_X12_fails (μ19.1 0 4) μ19) (fun r39 μ38 ez18 => ?_)
            have z18 : Zm9 μ μ38 := z9.tr ez18
            refine pk_gd (fun _ => ?_)
            exact pk_some z18
theorem x_X12_readProgram_b14 : ∀ (n : Nat) (μ : Mem), pk (p_X12_readProgram_b14  n μ) (fun q => Zm9 μ q.2) := by
  intro n
  induction n with
  | zero => intro μ r e; rw [p_X12_readProgram_b14_z] at e; cases e
  | succ n ih =>
    intro μ
    have z0 : Zm9 μ μ := Zm9.rf
    rw [p_X12_readProgram_b14_s]
    refine pk_ite (fun _ => ?_) (fun _ => ?_)
    · exact pk_some z0
    · refine pk_bd (x_X12_readFunction μ) (fun r7 μ6 ez1 => ?_)
      have z1 : Zm9 μ μ6 := z0.tr ez1
      refine pk_ite (fun _ => ?_) (fun _ => ?_)
      · exact pk_some z1
      · exact pk_mono (ih μ6) (fun _ hq => z1.tr hq)
theorem x_X12_readProgram (μ : Mem) : pk (p_X12_readProgram μ) (fun q => Zm9 μ q.2) := by
  have z0 : Zm9 μ μ := Zm9.rf
  rw [p_X12_readProgram_eq]
  refine pk_bw (x_X12_beginText μ) (fun μ1 ez1 => ?_)
  have z1 : Zm9 μ μ1 := z0.tr ez1
  refine pk_bvy (fun μ3 ez2 => ?_)
  have z2 : Zm9 μ μ3 := by rw [ez2]; exact z1.sF (px_f (by decide))
  refine pk_bvy (fun μ4 ez3 => ?_)
  have z3 : Zm9 μ μ4 := by rw [ez3]; exact z2.sF (px_f (by decide))
  exact pk_mono (x_X12_readProgram_b14 FUEL μ4) (fun _ hq => z3.tr hq)
theorem x_X12_copy_b3 : ∀ (n : Nat) (a0 : Nat) (a1 : Int32) (a2 : Int32) (a3 : Nat) (a4 : Int32) (a5 : Int32) (μ : Mem) (hcp : a3 ≠ 0 ∧ ¬ (a3 = 2 ∨ a3 = 3 ∨ a3 = 4 ∨ a3 = 5 ∨ a3 = 6 ∨ a3 = 7 ∨ a3 = 8 ∨ a3 = 9 ∨ a3 = 46 ∨ a3 = 47 ∨ a3 = 48 ∨ a3 = 49 ∨ a3 = 50 ∨ a3 = 51 ∨ a3 = 52 ∨ a3 = 53 ∨ a3 = 54 ∨ a3 = 57 ∨ a3 = 58 ∨ a3 = 59 ∨ a3 = 60 ∨ a3 = 61 ∨ a3 = 62 ∨ a3 = 63 ∨ a3 = 64 ∨ a3 = 65 ∨ a3 = 66)), pk (p_X12_copy_b3  n a0 a1 a2 a3 a4 a5 μ) (fun q => Zm9 μ q) := by
  intro n
  induction n with
  | zero => intro a0 a1 a2 a3 a4 a5 μ hcp r e; rw [p_X12_copy_b3_z] at e; cases e
  | succ n ih =>
    intro a0 a1 a2 a3 a4 a5 μ hcp
    have z0 : Zm9 μ μ := Zm9.rf
    rw [p_X12_copy_b3_s]
    refine pk_ite (fun _ => ?_) (fun _ => ?_)
    · exact pk_some z0
    · refine pk_gd (fun _ => ?_)
      refine pk_gd (fun _ => ?_)
      refine pk_bvy (fun μ2 ez1 => ?_)
      have z1 : Zm9 μ μ2 := by rw [ez1]; exact z0.sF (px_a hcp.1 hcp.2)
      refine pk_bvy (fun v3 _ => ?_)
      exact pk_mono (ih a0 a1 a2 a3 a4 v3 μ2 hcp) (fun _ hq => z1.tr hq)
theorem x_X12_copy (a0 : Nat) (a1 : Int32) (a2 : Int32) (a3 : Nat) (a4 : Int32) (μ : Mem) (hcp : a3 ≠ 0 ∧ ¬ (a3 = 2 ∨ a3 = 3 ∨ a3 = 4 ∨ a3 = 5 ∨ a3 = 6 ∨ a3 = 7 ∨ a3 = 8 ∨ a3 = 9 ∨ a3 = 46 ∨ a3 = 47 ∨ a3 = 48 ∨ a3 = 49 ∨ a3 = 50 ∨ a3 = 51 ∨ a3 = 52 ∨ a3 = 53 ∨ a3 = 54 ∨ a3 = 57 ∨ a3 = 58 ∨ a3 = 59 ∨ a3 = 60 ∨ a3 = 61 ∨ a3 = 62 ∨ a3 = 63 ∨ a3 = 64 ∨ a3 = 65 ∨ a3 = 66)) : pk (p_X12_copy a0 a1 a2 a3 a4 μ) (fun q => Zm9 μ q) := by
  have z0 : Zm9 μ μ := Zm9.rf
  rw [p_X12_copy_eq]
  exact pk_mono (x_X12_copy_b3 FUEL a0 a1 a2 a3 a4 (0 : Int32) μ hcp) (fun _ hq => z0.tr hq)
theorem x_X12_layBehind_b17 (K7 : Int32 → Mem → Option Mem) (hK7 : ∀ (y0 : Int32) (y1 : Mem), pk (K7 y0 y1) (fun q => Zm9 y1 q)) : ∀ (n : Nat) (a1 : Int32) (a2 : Int32) (a3 : Int32) (μ : Mem), pk (p_X12_layBehind_b17 K7 n a1 a2 a3 μ) (fun q => Zm9 μ q) := by
  intro n
  induction n with
  | zero => intro a1 a2 a3 μ r e; rw [p_X12_layBehind_b17_z] at e; cases e
  | succ n ih =>
    intro a1 a2 a3 μ
    have z0 : Zm9 μ μ := Zm9.rf
    rw [p_X12_layBehind_b17_s]
    refine pk_gd (fun _ => ?_)
    refine pk_ite (fun _ => ?_) (fun _ => ?_)
    · refine pk_gd (fun _ => ?_)
      refine pk_bvy (fun μ5 ez1 => ?_)
      have z1 : Zm9 μ μ5 := by rw [ez1]; exact z0.sF (px_a (by decide) (by decide))
      refine pk_bvy (fun v6 _ => ?_)
      exact pk_mono (hK7 v6 μ5) (fun _ hq => z1.tr hq)
    · refine pk_gd (fun _ => ?_)
      refine pk_bvy (fun v7 _ => ?_)
      refine pk_bvy (fun v8 _ => ?_)
      exact pk_mono (ih a1 v7 v8 μ) (fun _ hq => z0.tr hq)
theorem x_X12_layBehind_b7 : ∀ (n : Nat) (a1 : Int32) (μ : Mem), pk (p_X12_layBehind_b7  n a1 μ) (fun q => Zm9 μ q) := by
  intro n
  induction n with
  | zero => intro a1 μ r e; rw [p_X12_layBehind_b7_z] at e; cases e
  | succ n ih =>
    intro a1 μ
    have z0 : Zm9 μ μ := Zm9.rf
    rw [p_X12_layBehind_b7_s]
    refine pk_ite (fun _ => ?_) (fun _ => ?_)
    · exact pk_some z0
    · refine pk_bvy (fun v3 _ => ?_)
      exact pk_mono (x_X12_layBehind_b17 (p_X12_layBehind_b7  n) ih FUEL a1 v3 (0 : Int32) μ) (fun _ hq => z0.tr hq)
theorem x_X12_layBehind (μ : Mem) : pk (p_X12_layBehind μ) (fun q => Zm9 μ q) := by
  have z0 : Zm9 μ μ := Zm9.rf
  rw [p_X12_layBehind_eq]
  refine pk_bvy (fun v1 _ => ?_)
  exact pk_mono (x_X12_layBehind_b7 FUEL v1 μ) (fun _ hq => z0.tr hq)
theorem x_X12_layRead (a1 : Int32) (a2 : Int32) (μ : Mem) : pk (p_X12_layRead a1 a2 μ) (fun q => Zm9 μ q) := by
  have z0 : Zm9 μ μ := Zm9.rf
  rw [p_X12_layRead_eq]
  refine pk_gd (fun _ => ?_)
  refine pk_bvy (fun μ1 ez1 => ?_)
  have z1 : Zm9 μ μ1 := by rw [ez1]; exact z0.sF (px_a (by decide) (by decide))
  refine pk_gd (fun _ => ?_)
  refine pk_bvy (fun μ2 ez2 => ?_)
  have z2 : Zm9 μ μ2 := by rw [ez2]; exact z1.sF (px_a (by decide) (by decide))
  refine pk_bvy (fun μ3 ez3 => ?_)
  have z3 : Zm9 μ μ3 := by rw [ez3]; exact z2.sF (px_f (by decide))
  exact pk_some z3
theorem x_X12_closeAll_b2 : ∀ (n : Nat) (a2 : Int32) (μ : Mem), pk (p_X12_closeAll_b2  n a2 μ) (fun q => Zm9 μ q.2) := by
  intro n
  induction n with
  | zero => intro a2 μ r e; rw [p_X12_closeAll_b2_z] at e; cases e
  | succ n ih =>
    intro a2 μ
    have z0 : Zm9 μ μ := Zm9.rf
    rw [p_X12_closeAll_b2_s]
    refine pk_ite (fun _ => ?_) (fun _ => ?_)
    · exact pk_some z0
    · refine pk_bvy (fun v2 _ => ?_)
      refine pk_gd (fun _ => ?_)
      refine pk_gd (fun _ => ?_)
      refine pk_bvy (fun μ3 ez1 => ?_)
      have z1 : Zm9 μ μ3 := by rw [ez1]; exact z0.sF (px_a (by decide) (by decide))
      refine pk_gd (fun _ => ?_)
      refine pk_ite (fun _ => ?_) (fun _ => ?_)
      · refine pk_bd (x_X12_takes (44 : Int32) μ3) (fun r10 μ9 ez2 => ?_)
        have z2 : Zm9 μ μ9 := z1.tr ez2
        exact pk_some z2
      · refine pk_bd (x_X12_takes (93 : Int32) μ3) (fun r6 μ5 ez3 => ?_)
        have z3 : Zm9 μ μ5 := z1.tr ez3
        refine pk_ite (fun _ => ?_) (fun _ => ?_)
        · exact pk_some z3
        · refine pk_bvy (fun v8 _ => ?_)
          exact pk_mono (ih v8 μ5) (fun _ hq => z3.tr hq)
theorem x_X12_closeAll (a1 : Int32) (μ : Mem) : pk (p_X12_closeAll a1 μ) (fun q => Zm9 μ q.2) := by
  have z0 : Zm9 μ μ := Zm9.rf
  rw [p_X12_closeAll_eq]
  exact pk_mono (x_X12_closeAll_b2 FUEL a1 μ) (fun _ hq => z0.tr hq)
theorem x_X12_readPart_b200 (K4 : Int32 → Int32 → Int32 → Mem → Option (Int32 × Mem)) (hK4 : ∀ (y0 : Int32) (y1 : Int32) (y2 : Int32) (y3 : Mem), pk (K4 y0 y1 y2 y3) (fun q => Zm9 y3 q.2)) (a1 : Int32) (a2 : Int32) (k0 : Int32) (μ : Mem) : pk (p_X12_readPart_b200 K4 a1 a2 k0 μ) (fun q => Zm9 μ q.2) := by
  have z0 : Zm9 μ μ := Zm9.rf
  rw [p_X12_readPart_b200_eq]
  exact pk_mono (hK4 a1 a2 k0 μ) (fun _ hq => z0.tr hq)
theorem x_X12_readPart_b199 (K4 : Int32 → Int32 → Int32 → Mem → Option (Int32 × Mem)) (hK4 : ∀ (y0 : Int32) (y1 : Int32) (y2 : Int32) (y3 : Mem), pk (K4 y0 y1 y2 y3) (fun q => Zm9 y3 q.2)) (a1 : Int32) (a2 : Int32) (μ : Mem) : pk (p_X12_readPart_b199 K4 a1 a2 μ) (fun q => Zm9 μ q.2) := by
  have z0 : Zm9 μ μ := Zm9.rf
  rw [p_X12_readPart_b199_eq]
  exact pk_mono (x_X12_readPart_b200 K4 hK4 a1 a2 (0 : Int32) μ) (fun _ hq => z0.tr hq)
theorem x_X12_readPart_b177 (K4 : Int32 → Int32 → Int32 → Mem → Option (Int32 × Mem)) (hK4 : ∀ (y0 : Int32) (y1 : Int32) (y2 : Int32) (y3 : Mem), pk (K4 y0 y1 y2 y3) (fun q => Zm9 y3 q.2)) (a1 : Int32) (a2 : Int32) (μ : Mem) : pk (p_X12_readPart_b177 K4 a1 a2 μ) (fun q => Zm9 μ q.2) := by
  have z0 : Zm9 μ μ := Zm9.rf
  rw [p_X12_readPart_b177_eq]
  refine pk_bd (x_X12_closeAll a2 μ) (fun r20 μ19 ez1 => ?_)
  have z1 : Zm9 μ μ19 := z0.tr ez1
  refine pk_ite (fun _ => ?_) (fun _ => ?_)
  · exact pk_mono (x_X12_readPart_b199 K4 hK4 a1 r20 μ19) (fun _ hq => z1.tr hq)
  · refine pk_ite (fun _ => ?_) (fun _ => ?_)
    · exact pk_mono (x_X12_readPart_b200 K4 hK4 a1 r20 (1 : Int32) μ19) (fun _ hq => z1.tr hq)
    · exact pk_mono (x_X12_readPart_b199 K4 hK4 a1 r20 μ19) (fun _ hq => z1.tr hq)
theorem x_X12_readPart_b83 (K4 : Int32 → Int32 → Int32 → Mem → Option (Int32 × Mem)) (hK4 : ∀ (y0 : Int32) (y1 : Int32) (y2 : Int32) (y3 : Mem), pk (K4 y0 y1 y2 y3) (fun q => Zm9 y3 q.2)) (a1 : Int32) (a2 : Int32) (a3 : Int32) (a4 : Int32) (a5 : Int32) (μ : Mem) : pk (p_X12_readPart_b83 K4 a1 a2 a3 a4 a5 μ) (fun q => Zm9 μ q.2) := by
  have z0 : Zm9 μ μ := Zm9.rf
  rw [p_X12_readPart_b83_eq]
  refine pk_ite (fun _ => ?_) (fun _ => ?_)
  · refine pk_bvy (fun μ27 ez1 => ?_)
    have z1 : Zm9 μ μ27 := by rw [ez1]; exact z0.sF (px_f (by decide))
    refine pk_bw (x_X12_layRead (2 : Int32) (0 : Int32) μ27) (fun μ28 ez2 => ?_)
    have z2 : Zm9 μ μ28 := z1.tr ez2
    refine pk_gd (fun _ => ?_)
    refine pk_bvy (fun μ30 ez3 => ?_)
    have z3 : Zm9 μ μ30 := by rw [ez3]; exact z2.sF (px_a (by decide) (by decide))
    refine pk_bvy (fun v31 _ => ?_)
    exact pk_mono (hK4 a1 v31 a3 μ30) (fun _ hq => z3.tr hq)
  · refine pk_ite (fun _ => ?_) (fun _ => ?_)
    · refine pk_bd (x_X12_readNumber μ) (fun r15 μ14 ez4 => ?_)
      have z4 : Zm9 μ μ14 := z0.tr ez4
      refine pk_ite (fun _ => ?_) (fun _ => ?_)
      · exact pk_some z4
      · refine pk_bw (x_X12_layRead (μ14.1 0 6) (μ14.1 0 7) μ14) (fun μ17 ez5 => ?_)
        have z5 : Zm9 μ μ17 := z4.tr ez5
        exact pk_mono (x_X12_readPart_b177 K4 hK4 a1 a2 μ17) (fun _ hq => z5.tr hq)
    · refine pk_bvy (fun μ23 ez6 => ?_)
      have z6 : Zm9 μ μ23 := by rw [ez6]; exact z0.sF (px_f (by decide))
      refine pk_bvy (fun μ24 ez7 => ?_)
      have z7 : Zm9 μ μ24 := by rw [ez7]; exact z6.sF (px_f (by decide))
      refine pk_bw (x_X12_layRead (3 : Int32) (0 : Int32) μ24) (fun μ25 ez8 => ?_)
      have z8 : Zm9 μ μ25 := z7.tr ez8
      exact pk_mono (x_X12_readPart_b177 K4 hK4 a1 a2 μ25) (fun _ hq => z8.tr hq)
theorem x_X12_readPart_b51 (K4 : Int32 → Int32 → Int32 → Mem → Option (Int32 × Mem)) (hK4 : ∀ (y0 : Int32) (y1 : Int32) (y2 : Int32) (y3 : Mem), pk (K4 y0 y1 y2 y3) (fun q => Zm9 y3 q.2)) (a1 : Int32) (a2 : Int32) (a3 : Int32) (a4 : Int32) (a5 : Int32) (μ : Mem) : pk (p_X12_readPart_b51 K4 a1 a2 a3 a4 a5 μ) (fun q => Zm9 μ q.2) := by
  have z0 : Zm9 μ μ := Zm9.rf
  rw [p_X12_readPart_b51_eq]
  refine pk_ite (fun _ => ?_) (fun _ => ?_)
  · refine pk_bd (x_X12_fails (μ.1 0 4) μ) (fun r9 μ8 ez1 => ?_)
    have z1 : Zm9 μ μ8 := z0.tr ez1
    refine pk_gd (fun _ => ?_)
    exact pk_some z1
  · refine pk_ite (fun _ => ?_) (fun _ => ?_)
    · exact pk_mono (x_X12_readPart_b83 K4 hK4 a1 a2 a3 a4 a5 μ) (fun _ hq => z0.tr hq)
    · refine pk_ite (fun _ => ?_) (fun _ => ?_)
      · refine pk_bd (x_X12_fails (μ.1 0 4) μ) (fun r34 μ33 ez2 => ?_)
        have z2 : Zm9 μ μ33 := z0.tr ez2
        refine pk_gd (fun _ => ?_)
        exact pk_some z2
      · exact pk_mono (x_X12_readPart_b83 K4 hK4 a1 a2 a3 a4 a5 μ) (fun _ hq => z0.tr hq)
theorem x_X12_readPart_b30 (K4 : Int32 → Int32 → Int32 → Mem → Option (Int32 × Mem)) (hK4 : ∀ (y0 : Int32) (y1 : Int32) (y2 : Int32) (y3 : Mem), pk (K4 y0 y1 y2 y3) (fun q => Zm9 y3 q.2)) (a1 : Int32) (a2 : Int32) (a3 : Int32) (a4 : Int32) (k0 : Int32) (μ : Mem) : pk (p_X12_readPart_b30 K4 a1 a2 a3 a4 k0 μ) (fun q => Zm9 μ q.2) := by
  have z0 : Zm9 μ μ := Zm9.rf
  rw [p_X12_readPart_b30_eq]
  refine pk_ite (fun _ => ?_) (fun _ => ?_)
  · refine pk_ite (fun _ => ?_) (fun _ => ?_)
    · exact pk_mono (x_X12_readPart_b51 K4 hK4 a1 a2 a3 a4 k0 μ) (fun _ hq => z0.tr hq)
    · refine pk_bd (x_X12_beginsNumber μ) (fun r38 μ37 ez1 => ?_)
      have z1 : Zm9 μ μ37 := z0.tr ez1
      refine pk_ite (fun _ => ?_) (fun _ => ?_)
      · refine pk_bd (x_X12_fails (μ37.1 0 4) μ37) (fun r41 μ40 ez2 => ?_)
        have z2 : Zm9 μ μ40 := z1.tr ez2
        refine pk_gd (fun _ => ?_)
        exact pk_some z2
      · exact pk_mono (x_X12_readPart_b51 K4 hK4 a1 a2 a3 a4 k0 μ37) (fun _ hq => z1.tr hq)
  · exact pk_mono (x_X12_readPart_b51 K4 hK4 a1 a2 a3 a4 k0 μ) (fun _ hq => z0.tr hq)
theorem x_X12_readPart_b29 (K4 : Int32 → Int32 → Int32 → Mem → Option (Int32 × Mem)) (hK4 : ∀ (y0 : Int32) (y1 : Int32) (y2 : Int32) (y3 : Mem), pk (K4 y0 y1 y2 y3) (fun q => Zm9 y3 q.2)) (a1 : Int32) (a2 : Int32) (a3 : Int32) (a4 : Int32) (μ : Mem) : pk (p_X12_readPart_b29 K4 a1 a2 a3 a4 μ) (fun q => Zm9 μ q.2) := by
  have z0 : Zm9 μ μ := Zm9.rf
  rw [p_X12_readPart_b29_eq]
  exact pk_mono (x_X12_readPart_b30 K4 hK4 a1 a2 a3 a4 (0 : Int32) μ) (fun _ hq => z0.tr hq)
theorem x_X12_readPart_b4 : ∀ (n : Nat) (a1 : Int32) (a2 : Int32) (a3 : Int32) (μ : Mem), pk (p_X12_readPart_b4  n a1 a2 a3 μ) (fun q => Zm9 μ q.2) := by
  intro n
  induction n with
  | zero => intro a1 a2 a3 μ r e; rw [p_X12_readPart_b4_z] at e; cases e
  | succ n ih =>
    intro a1 a2 a3 μ
    have z0 : Zm9 μ μ := Zm9.rf
    rw [p_X12_readPart_b4_s]
    refine pk_ite (fun _ => ?_) (fun _ => ?_)
    · refine pk_ite (fun _ => ?_) (fun _ => ?_)
      · exact pk_some z0
      · exact pk_some z0
    · refine pk_bd (x_X12_here μ) (fun r4 μ3 ez1 => ?_)
      have z1 : Zm9 μ μ3 := z0.tr ez1
      refine pk_ite (fun _ => ?_) (fun _ => ?_)
      · refine pk_ite (fun _ => ?_) (fun _ => ?_)
        · exact pk_mono (x_X12_readPart_b29 (p_X12_readPart_b4  n) ih a1 a2 a3 r4 μ3) (fun _ hq => z1.tr hq)
        · exact pk_mono (x_X12_readPart_b30 (p_X12_readPart_b4  n) ih a1 a2 a3 r4 (1 : Int32) μ3) (fun _ hq => z1.tr hq)
      · exact pk_mono (x_X12_readPart_b29 (p_X12_readPart_b4  n) ih a1 a2 a3 r4 μ3) (fun _ hq => z1.tr hq)
theorem x_X12_readPart (a1 : Int32) (μ : Mem) : pk (p_X12_readPart a1 μ) (fun q => Zm9 μ q.2) := by
  have z0 : Zm9 μ μ := Zm9.rf
  rw [p_X12_readPart_eq]
  exact pk_mono (x_X12_readPart_b4 FUEL a1 (0 : Int32) (1 : Int32) μ) (fun _ hq => z0.tr hq)
theorem x_X12_readTask_b133 (K87 : Int32 → Mem → Option (Int32 × Mem)) (hK87 : ∀ (y0 : Int32) (y1 : Mem), pk (K87 y0 y1) (fun q => Zm9 y1 q.2)) (k0 : Int32) (μ : Mem) : pk (p_X12_readTask_b133 K87 k0 μ) (fun q => Zm9 μ q.2) := by
  have z0 : Zm9 μ μ := Zm9.rf
  rw [p_X12_readTask_b133_eq]
  refine pk_ite (fun _ => ?_) (fun _ => ?_)
  · exact pk_mono (hK87 k0 μ) (fun _ hq => z0.tr hq)
  · refine pk_bvy (fun μ35 ez1 => ?_)
    have z1 : Zm9 μ μ35 := by rw [ez1]; exact z0.sF (px_f (by decide))
    exact pk_mono (hK87 k0 μ35) (fun _ hq => z1.tr hq)
theorem x_X12_readTask_b132 (K87 : Int32 → Mem → Option (Int32 × Mem)) (hK87 : ∀ (y0 : Int32) (y1 : Mem), pk (K87 y0 y1) (fun q => Zm9 y1 q.2)) (μ : Mem) : pk (p_X12_readTask_b132 K87 μ) (fun q => Zm9 μ q.2) := by
  have z0 : Zm9 μ μ := Zm9.rf
  rw [p_X12_readTask_b132_eq]
  exact pk_mono (x_X12_readTask_b133 K87 hK87 (0 : Int32) μ) (fun _ hq => z0.tr hq)
theorem x_X12_readTask_b87 : ∀ (n : Nat) (a1 : Int32) (μ : Mem), pk (p_X12_readTask_b87  n a1 μ) (fun q => Zm9 μ q.2) := by
  intro n
  induction n with
  | zero => intro a1 μ r e; rw [p_X12_readTask_b87_z] at e; cases e
  | succ n ih =>
    intro a1 μ
    have z0 : Zm9 μ μ := Zm9.rf
    rw [p_X12_readTask_b87_s]
    refine pk_ite (fun _ => ?_) (fun _ => ?_)
    · refine pk_bd (x_X12_takes (41 : Int32) μ) (fun r21 μ20 ez1 => ?_)
      have z1 : Zm9 μ μ20 := z0.tr ez1
      refine pk_ite (fun _ => ?_) (fun _ => ?_)
      · exact pk_some z1
      · refine pk_ite (fun _ => ?_) (fun _ => ?_)
        · exact pk_some z1
        · refine pk_bd (x_X12_fails (μ20.1 0 4) μ20) (fun r25 μ24 ez2 => ?_)
          have z2 : Zm9 μ μ24 := z1.tr ez2
          refine pk_ite (fun _ => ?_) (fun _ => ?_)
          · exact pk_some z2
          · exact pk_some z2
    · refine pk_bd (x_X12_readPart (1 : Int32) μ) (fun r28 μ27 ez3 => ?_)
      have z3 : Zm9 μ μ27 := z0.tr ez3
      refine pk_ite (fun _ => ?_) (fun _ => ?_)
      · exact pk_some z3
      · refine pk_bvy (fun μ30 ez4 => ?_)
        have z4 : Zm9 μ μ30 := by rw [ez4]; exact z3.sF (px_f (by decide))
        refine pk_bd (x_X12_here μ30) (fun r32 μ31 ez5 => ?_)
        have z5 : Zm9 μ μ31 := z4.tr ez5
        refine pk_ite (fun _ => ?_) (fun _ => ?_)
        · refine pk_ite (fun _ => ?_) (fun _ => ?_)
          · exact pk_mono (x_X12_readTask_b132 (p_X12_readTask_b87  n) ih μ31) (fun _ hq => z5.tr hq)
          · exact pk_mono (x_X12_readTask_b133 (p_X12_readTask_b87  n) ih (1 : Int32) μ31) (fun _ hq => z5.tr hq)
        · exact pk_mono (x_X12_readTask_b132 (p_X12_readTask_b87  n) ih μ31) (fun _ hq => z5.tr hq)
theorem x_X12_readTask_b86 (k0 : Int32) (μ : Mem) : pk (p_X12_readTask_b86 k0 μ) (fun q => Zm9 μ q.2) := by
  have z0 : Zm9 μ μ := Zm9.rf
  rw [p_X12_readTask_b86_eq]
  exact pk_mono (x_X12_readTask_b87 FUEL k0 μ) (fun _ hq => z0.tr hq)
theorem x_X12_readTask (μ : Mem) : pk (p_X12_readTask μ) (fun q => Zm9 μ q.2) := by
  have z0 : Zm9 μ μ := Zm9.rf
  rw [p_X12_readTask_eq]
  refine pk_bw (x_X12_beginText μ) (fun μ1 ez1 => ?_)
  have z1 : Zm9 μ μ1 := z0.tr ez1
  refine pk_bvy (fun μ3 ez2 => ?_)
  have z2 : Zm9 μ μ3 := by rw [ez2]; exact z1.sF (px_f (by decide))
  refine pk_bvy (fun μ4 ez3 => ?_)
  have z3 : Zm9 μ μ4 := by rw [ez3]; exact z2.sF (px_f (by decide))
  refine pk_bvy (fun μ5 ez4 => ?_)
  have z4 : Zm9 μ μ5 := by rw [ez4]; exact z3.sF (px_f (by decide))
  refine pk_bd (x_X12_here μ5) (fun r7 μ6 ez5 => ?_)
  have z5 : Zm9 μ μ6 := z4.tr ez5
  refine pk_ite (fun _ => ?_) (fun _ => ?_)
  · refine pk_bd (x_X12_fails (μ6.1 0 4) μ6) (fun r38 μ37 ez6 => ?_)
    have z6 : Zm9 μ μ37 := z5.tr ez6
    refine pk_gd (fun _ => ?_)
    exact pk_some z6
  · refine pk_bd (x_X12_here μ6) (fun r10 μ9 ez7 => ?_)
    have z7 : Zm9 μ μ9 := z5.tr ez7
    refine pk_bvy (fun μ11 ez8 => ?_)
    have z8 : Zm9 μ μ11 := by rw [ez8]; exact z7.sF (px_f (by decide))
    refine pk_bvy (fun μ12 ez9 => ?_)
    have z9 : Zm9 μ μ12 := by rw [ez9]; exact z8.sF (px_f (by decide))
    refine pk_bd (x_X12_takes (40 : Int32) μ12) (fun r14 μ13 ez10 => ?_)
    have z10 : Zm9 μ μ13 := z9.tr ez10
    refine pk_ite (fun _ => ?_) (fun _ => ?_)
    · exact pk_some z10
    · refine pk_bd (x_X12_here μ13) (fun r17 μ16 ez11 => ?_)
      have z11 : Zm9 μ μ16 := z10.tr ez11
      refine pk_ite (fun _ => ?_) (fun _ => ?_)
      · exact pk_mono (x_X12_readTask_b86 (0 : Int32) μ16) (fun _ hq => z11.tr hq)
      · exact pk_mono (x_X12_readTask_b86 (1 : Int32) μ16) (fun _ hq => z11.tr hq)
theorem x_X12_readValues_b37 (K16 : Int32 → Mem → Option (Int32 × Mem)) (hK16 : ∀ (y0 : Int32) (y1 : Mem), pk (K16 y0 y1) (fun q => Zm9 y1 q.2)) (a1 : Int32) (μ : Mem) : pk (p_X12_readValues_b37 K16 a1 μ) (fun q => Zm9 μ q.2) := by
  have z0 : Zm9 μ μ := Zm9.rf
  rw [p_X12_readValues_b37_eq]
  refine pk_bd (x_X12_readPart (0 : Int32) μ) (fun r12 μ11 ez1 => ?_)
  have z1 : Zm9 μ μ11 := z0.tr ez1
  refine pk_ite (fun _ => ?_) (fun _ => ?_)
  · exact pk_some z1
  · refine pk_bvy (fun v14 _ => ?_)
    exact pk_mono (hK16 v14 μ11) (fun _ hq => z1.tr hq)
theorem x_X12_readValues_b16 : ∀ (n : Nat) (a1 : Int32) (μ : Mem), pk (p_X12_readValues_b16  n a1 μ) (fun q => Zm9 μ q.2) := by
  intro n
  induction n with
  | zero => intro a1 μ r e; rw [p_X12_readValues_b16_z] at e; cases e
  | succ n ih =>
    intro a1 μ
    have z0 : Zm9 μ μ := Zm9.rf
    rw [p_X12_readValues_b16_s]
    refine pk_ite (fun _ => ?_) (fun _ => ?_)
    · refine pk_ite (fun _ => ?_) (fun _ => ?_)
      · exact pk_some z0
      · refine pk_bd (x_X12_fails (μ.1 0 4) μ) (fun r8 μ7 ez1 => ?_)
        have z1 : Zm9 μ μ7 := z0.tr ez1
        refine pk_ite (fun _ => ?_) (fun _ => ?_)
        · exact pk_some z1
        · exact pk_some z1
    · refine pk_ite (fun _ => ?_) (fun _ => ?_)
      · exact pk_mono (x_X12_readValues_b37 (p_X12_readValues_b16  n) ih a1 μ) (fun _ hq => z0.tr hq)
      · refine pk_bd (x_X12_takes (44 : Int32) μ) (fun r16 μ15 ez2 => ?_)
        have z2 : Zm9 μ μ15 := z0.tr ez2
        refine pk_ite (fun _ => ?_) (fun _ => ?_)
        · exact pk_some z2
        · exact pk_mono (x_X12_readValues_b37 (p_X12_readValues_b16  n) ih a1 μ15) (fun _ hq => z2.tr hq)
theorem x_X12_readValues (μ : Mem) : pk (p_X12_readValues μ) (fun q => Zm9 μ q.2) := by
  have z0 : Zm9 μ μ := Zm9.rf
  rw [p_X12_readValues_eq]
  refine pk_bw (x_X12_beginText μ) (fun μ1 ez1 => ?_)
  have z1 : Zm9 μ μ1 := z0.tr ez1
  refine pk_bvy (fun μ3 ez2 => ?_)
  have z2 : Zm9 μ μ3 := by rw [ez2]; exact z1.sF (px_f (by decide))
  refine pk_bvy (fun μ4 ez3 => ?_)
  have z3 : Zm9 μ μ4 := by rw [ez3]; exact z2.sF (px_f (by decide))
  exact pk_mono (x_X12_readValues_b16 FUEL (0 : Int32) μ4) (fun _ hq => z3.tr hq)
theorem x_X12_values (μ : Mem) : pk (p_X12_values μ) (fun q => Zm9 μ q.2) := by
  have z0 : Zm9 μ μ := Zm9.rf
  rw [p_X12_values_eq]
  refine pk_bd (x_X12_readValues μ) (fun r2 μ1 ez1 => ?_)
  have z1 : Zm9 μ μ1 := z0.tr ez1
  refine pk_bvy (fun μ3 ez2 => ?_)
  have z2 : Zm9 μ μ3 := by rw [ez2]; exact z1.sF (px_f (by decide))
  refine pk_ite (fun _ => ?_) (fun _ => ?_)
  · exact pk_some z2
  · refine pk_bvy (fun μ5 ez3 => ?_)
    have z3 : Zm9 μ μ5 := by rw [ez3]; exact z2.sF (px_f (by decide))
    refine pk_bvy (fun μ6 ez4 => ?_)
    have z4 : Zm9 μ μ6 := by rw [ez4]; exact z3.sF (px_f (by decide))
    refine pk_bw (x_X12_copy 22 (0 : Int32) (μ6.1 0 36) 27 (0 : Int32) μ6 ⟨by decide, by decide⟩) (fun μ7 ez5 => ?_)
    have z5 : Zm9 μ μ7 := z4.tr ez5
    refine pk_bw (x_X12_copy 23 (0 : Int32) (μ7.1 0 36) 28 (0 : Int32) μ7 ⟨by decide, by decide⟩) (fun μ9 ez6 => ?_)
    have z6 : Zm9 μ μ9 := z5.tr ez6
    exact pk_some z6
theorem x_X12_fault (μ : Mem) : pk (p_X12_fault μ) (fun q => Zm9 μ q.2) := by
  have z0 : Zm9 μ μ := Zm9.rf
  rw [p_X12_fault_eq]
  exact pk_some z0
theorem x_X12_is (a1 : Int32) (μ : Mem) : pk (p_X12_is a1 μ) (fun q => Zm9 μ q.2) := by
  have z0 : Zm9 μ μ := Zm9.rf
  rw [p_X12_is_eq]
  refine pk_ite (fun _ => ?_) (fun _ => ?_)
  · exact pk_some z0
  · refine pk_ite (fun _ => ?_) (fun _ => ?_)
    · exact pk_some z0
    · refine pk_ite (fun _ => ?_) (fun _ => ?_)
      · exact pk_some z0
      · refine pk_ite (fun _ => ?_) (fun _ => ?_)
        · refine pk_gd (fun _ => ?_)
          exact pk_some z0
        · refine pk_ite (fun _ => ?_) (fun _ => ?_)
          · refine pk_gd (fun _ => ?_)
            exact pk_some z0
          · refine pk_ite (fun _ => ?_) (fun _ => ?_)
            · refine pk_gd (fun _ => ?_)
              exact pk_some z0
            · refine pk_ite (fun _ => ?_) (fun _ => ?_)
              · exact pk_some z0
              · refine pk_ite (fun _ => ?_) (fun _ => ?_)
                · exact pk_some z0
                · exact pk_some z0
theorem x_X12_countThings_b58 (K11 : Int32 → Int32 → Int32 → Int32 → Int32 → Mem → Option (Int32 × Mem)) (hK11 : ∀ (y0 : Int32) (y1 : Int32) (y2 : Int32) (y3 : Int32) (y4 : Int32) (y5 : Mem), pk (K11 y0 y1 y2 y3 y4 y5) (fun q => Zm9 y5 q.2)) (a1 : Int32) (a2 : Int32) (a3 : Int32) (a5 : Int32) (k0 : Int32) (k1 : Int32) (μ : Mem) : pk (p_X12_countThings_b58 K11 a1 a2 a3 a5 k0 k1 μ) (fun q => Zm9 μ q.2) := by
  have z0 : Zm9 μ μ := Zm9.rf
  rw [p_X12_countThings_b58_eq]
  refine pk_bvy (fun v4 _ => ?_)
  refine pk_bvy (fun v5 _ => ?_)
  exact pk_mono (hK11 a1 a2 a3 v4 v5 μ) (fun _ hq => z0.tr hq)
theorem x_X12_countThings_b53 (K11 : Int32 → Int32 → Int32 → Int32 → Int32 → Mem → Option (Int32 × Mem)) (hK11 : ∀ (y0 : Int32) (y1 : Int32) (y2 : Int32) (y3 : Int32) (y4 : Int32) (y5 : Mem), pk (K11 y0 y1 y2 y3 y4 y5) (fun q => Zm9 y5 q.2)) (a1 : Int32) (a2 : Int32) (a3 : Int32) (a5 : Int32) (k0 : Int32) (μ : Mem) : pk (p_X12_countThings_b53 K11 a1 a2 a3 a5 k0 μ) (fun q => Zm9 μ q.2) := by
  have z0 : Zm9 μ μ := Zm9.rf
  rw [p_X12_countThings_b53_eq]
  exact pk_mono (x_X12_countThings_b58 K11 hK11 a1 a2 a3 a5 (1 : Int32) k0 μ) (fun _ hq => z0.tr hq)
theorem x_X12_countThings_b11 : ∀ (n : Nat) (a1 : Int32) (a2 : Int32) (a3 : Int32) (a4 : Int32) (a5 : Int32) (μ : Mem), pk (p_X12_countThings_b11  n a1 a2 a3 a4 a5 μ) (fun q => Zm9 μ q.2) := by
  intro n
  induction n with
  | zero => intro a1 a2 a3 a4 a5 μ r e; rw [p_X12_countThings_b11_z] at e; cases e
  | succ n ih =>
    intro a1 a2 a3 a4 a5 μ
    have z0 : Zm9 μ μ := Zm9.rf
    rw [p_X12_countThings_b11_s]
    refine pk_gd (fun _ => ?_)
    refine pk_gd (fun _ => ?_)
    refine pk_ite (fun _ => ?_) (fun _ => ?_)
    · exact pk_some z0
    · refine pk_gd (fun _ => ?_)
      refine pk_ite (fun _ => ?_) (fun _ => ?_)
      · exact pk_mono (x_X12_countThings_b53 (p_X12_countThings_b11  n) ih a1 a2 a3 a5 a4 μ) (fun _ hq => z0.tr hq)
      · refine pk_gd (fun _ => ?_)
        refine pk_ite (fun _ => ?_) (fun _ => ?_)
        · exact pk_mono (x_X12_countThings_b53 (p_X12_countThings_b11  n) ih a1 a2 a3 a5 a4 μ) (fun _ hq => z0.tr hq)
        · exact pk_mono (x_X12_countThings_b58 (p_X12_countThings_b11  n) ih a1 a2 a3 a5 (0 : Int32) a4 μ) (fun _ hq => z0.tr hq)
theorem x_X12_countThings (a1 : Int32) (a2 : Int32) (a3 : Int32) (μ : Mem) : pk (p_X12_countThings a1 a2 a3 μ) (fun q => Zm9 μ q.2) := by
  have z0 : Zm9 μ μ := Zm9.rf
  rw [p_X12_countThings_eq]
  refine pk_gd (fun _ => ?_)
  refine pk_bvy (fun v1 _ => ?_)
  exact pk_mono (x_X12_countThings_b11 FUEL a1 a2 a3 (0 : Int32) v1 μ) (fun _ hq => z0.tr hq)
theorem x_X12_function (a1 : Int32) (a2 : Int32) (μ : Mem) : pk (p_X12_function a1 a2 μ) (fun q => Zm9 μ q.2) := by
  have z0 : Zm9 μ μ := Zm9.rf
  rw [p_X12_function_eq]
  refine pk_ite (fun _ => ?_) (fun _ => ?_)
  · exact pk_some z0
  · refine pk_ite (fun _ => ?_) (fun _ => ?_)
    · refine pk_gd (fun _ => ?_)
      exact pk_some z0
    · refine pk_ite (fun _ => ?_) (fun _ => ?_)
      · refine pk_gd (fun _ => ?_)
        exact pk_some z0
      · refine pk_ite (fun _ => ?_) (fun _ => ?_)
        · refine pk_gd (fun _ => ?_)
          exact pk_some z0
        · refine pk_ite (fun _ => ?_) (fun _ => ?_)
          · refine pk_bd (x_X12_countThings a1 (12 : Int32) (12 : Int32) μ) (fun r8 μ7 ez1 => ?_)
            have z1 : Zm9 μ μ7 := z0.tr ez1
            exact pk_some z1
          · refine pk_ite (fun _ => ?_) (fun _ => ?_)
            · refine pk_bd (x_X12_countThings a1 (8 : Int32) (8 : Int32) μ) (fun r11 μ10 ez2 => ?_)
              have z2 : Zm9 μ μ10 := z0.tr ez2
              exact pk_some z2
            · refine pk_ite (fun _ => ?_) (fun _ => ?_)
              · refine pk_bd (x_X12_countThings a1 (9 : Int32) (10 : Int32) μ) (fun r14 μ13 ez3 => ?_)
                have z3 : Zm9 μ μ13 := z0.tr ez3
                exact pk_some z3
              · exact pk_some z0
theorem x_X12_node (a1 : Int32) (a2 : Int32) (μ : Mem) : pk (p_X12_node a1 a2 μ) (fun q => Zm9 μ q.2) := by
  have z0 : Zm9 μ μ := Zm9.rf
  rw [p_X12_node_eq]
  refine pk_gd (fun _ => ?_)
  refine pk_bvy (fun μ1 ez1 => ?_)
  have z1 : Zm9 μ μ1 := by rw [ez1]; exact z0.sF (px_a (by decide) (by decide))
  refine pk_gd (fun _ => ?_)
  refine pk_bvy (fun μ2 ez2 => ?_)
  have z2 : Zm9 μ μ2 := by rw [ez2]; exact z1.sF (px_a (by decide) (by decide))
  refine pk_gd (fun _ => ?_)
  refine pk_bvy (fun μ3 ez3 => ?_)
  have z3 : Zm9 μ μ3 := by rw [ez3]; exact z2.sF (px_a (by decide) (by decide))
  refine pk_gd (fun _ => ?_)
  refine pk_bvy (fun μ4 ez4 => ?_)
  have z4 : Zm9 μ μ4 := by rw [ez4]; exact z3.sF (px_a (by decide) (by decide))
  refine pk_gd (fun _ => ?_)
  refine pk_bvy (fun μ5 ez5 => ?_)
  have z5 : Zm9 μ μ5 := by rw [ez5]; exact z4.sF (px_a (by decide) (by decide))
  refine pk_bvy (fun μ6 ez6 => ?_)
  have z6 : Zm9 μ μ6 := by rw [ez6]; exact z5.sF (px_f (by decide))
  exact pk_some z6
theorem x_X12_given (μ : Mem) : pk (p_X12_given μ) (fun q => Zm9 μ q.2) := by
  have z0 : Zm9 μ μ := Zm9.rf
  rw [p_X12_given_eq]
  refine pk_bd (x_X12_node (μ.1 0 0) (μ.1 0 1) μ) (fun r2 μ1 ez1 => ?_)
  have z1 : Zm9 μ μ1 := z0.tr ez1
  exact pk_some z1
theorem x_X12_pair (a1 : Int32) (a2 : Int32) (μ : Mem) : pk (p_X12_pair a1 a2 μ) (fun q => Zm9 μ q.2) := by
  have z0 : Zm9 μ μ := Zm9.rf
  rw [p_X12_pair_eq]
  refine pk_bd (x_X12_node (2 : Int32) a1 μ) (fun r2 μ1 ez1 => ?_)
  have z1 : Zm9 μ μ1 := z0.tr ez1
  refine pk_gd (fun _ => ?_)
  refine pk_bvy (fun μ3 ez2 => ?_)
  have z2 : Zm9 μ μ3 := by rw [ez2]; exact z1.sF (px_a (by decide) (by decide))
  refine pk_gd (fun _ => ?_)
  refine pk_gd (fun _ => ?_)
  refine pk_bvy (fun v4 _ => ?_)
  refine pk_gd (fun _ => ?_)
  refine pk_bvy (fun μ5 ez3 => ?_)
  have z3 : Zm9 μ μ5 := by rw [ez3]; exact z2.sF (px_a (by decide) (by decide))
  refine pk_gd (fun _ => ?_)
  refine pk_gd (fun _ => ?_)
  refine pk_ite (fun _ => ?_) (fun _ => ?_)
  · refine pk_gd (fun _ => ?_)
    refine pk_gd (fun _ => ?_)
    refine pk_bvy (fun μ7 ez4 => ?_)
    have z4 : Zm9 μ μ7 := by rw [ez4]; exact z3.sF (px_a (by decide) (by decide))
    exact pk_some z4
  · refine pk_gd (fun _ => ?_)
    refine pk_gd (fun _ => ?_)
    refine pk_bvy (fun μ8 ez5 => ?_)
    have z5 : Zm9 μ μ8 := by rw [ez5]; exact z3.sF (px_a (by decide) (by decide))
    exact pk_some z5
theorem x_X12_num_b2 : ∀ (n : Nat) (a2 : Int32) (μ : Mem), pk (p_X12_num_b2  n a2 μ) (fun q => Zm9 μ q.2) := by
  intro n
  induction n with
  | zero => intro a2 μ r e; rw [p_X12_num_b2_z] at e; cases e
  | succ n ih =>
    intro a2 μ
    have z0 : Zm9 μ μ := Zm9.rf
    rw [p_X12_num_b2_s]
    refine pk_gd (fun _ => ?_)
    refine pk_ite (fun _ => ?_) (fun _ => ?_)
    · refine pk_gd (fun _ => ?_)
      refine pk_bvy (fun v2 _ => ?_)
      exact pk_mono (ih v2 μ) (fun _ hq => z0.tr hq)
    · exact pk_some z0
theorem x_X12_num (a1 : Int32) (μ : Mem) : pk (p_X12_num a1 μ) (fun q => Zm9 μ q.2) := by
  have z0 : Zm9 μ μ := Zm9.rf
  rw [p_X12_num_eq]
  exact pk_mono (x_X12_num_b2 FUEL a1 μ) (fun _ hq => z0.tr hq)
theorem x_X12_build (a1 : Int32) (μ : Mem) : pk (p_X12_build a1 μ) (fun q => Zm9 μ q) := by
  have z0 : Zm9 μ μ := Zm9.rf
  rw [p_X12_build_eq]
  refine pk_gd (fun _ => ?_)
  refine pk_bvy (fun μ1 ez1 => ?_)
  have z1 : Zm9 μ μ1 := by rw [ez1]; exact z0.sF (px_a (by decide) (by decide))
  refine pk_bvy (fun μ2 ez2 => ?_)
  have z2 : Zm9 μ μ2 := by rw [ez2]; exact z1.sF (px_f (by decide))
  exact pk_some z2
theorem x_X12_unbuild (μ : Mem) : pk (p_X12_unbuild μ) (fun q => Zm9 μ q.2) := by
  have z0 : Zm9 μ μ := Zm9.rf
  rw [p_X12_unbuild_eq]
  refine pk_bvy (fun μ1 ez1 => ?_)
  have z1 : Zm9 μ μ1 := by rw [ez1]; exact z0.sF (px_f (by decide))
  refine pk_gd (fun _ => ?_)
  exact pk_some z1
theorem x_X12_buildOne (a1 : Int32) (a2 : Int32) (μ : Mem) : pk (p_X12_buildOne a1 a2 μ) (fun q => Zm9 μ q) := by
  have z0 : Zm9 μ μ := Zm9.rf
  rw [p_X12_buildOne_eq]
  refine pk_ite (fun _ => ?_) (fun _ => ?_)
  · refine pk_bd (x_X12_unbuild μ) (fun r3 μ2 ez1 => ?_)
    have z1 : Zm9 μ μ2 := z0.tr ez1
    refine pk_bd (x_X12_unbuild μ2) (fun r5 μ4 ez2 => ?_)
    have z2 : Zm9 μ μ4 := z1.tr ez2
    refine pk_bd (x_X12_pair r3 r5 μ4) (fun r7 μ6 ez3 => ?_)
    have z3 : Zm9 μ μ6 := z2.tr ez3
    refine pk_bw (x_X12_build r7 μ6) (fun μ8 ez4 => ?_)
    have z4 : Zm9 μ μ8 := z3.tr ez4
    exact pk_some z4
  · refine pk_bd (x_X12_node a1 a2 μ) (fun r11 μ10 ez5 => ?_)
    have z5 : Zm9 μ μ10 := z0.tr ez5
    refine pk_bw (x_X12_build r11 μ10) (fun μ12 ez6 => ?_)
    have z6 : Zm9 μ μ12 := z5.tr ez6
    exact pk_some z6
theorem x_X12_buildLeaves_b40 : ∀ (n : Nat) (a1 : Int32) (μ : Mem), pk (p_X12_buildLeaves_b40  n a1 μ) (fun q => Zm9 μ q) := by
  intro n
  induction n with
  | zero => intro a1 μ r e; rw [p_X12_buildLeaves_b40_z] at e; cases e
  | succ n ih =>
    intro a1 μ
    have z0 : Zm9 μ μ := Zm9.rf
    rw [p_X12_buildLeaves_b40_s]
    refine pk_ite (fun _ => ?_) (fun _ => ?_)
    · exact pk_some z0
    · refine pk_bd (x_X12_unbuild μ) (fun r6 μ5 ez1 => ?_)
      have z1 : Zm9 μ μ5 := z0.tr ez1
      refine pk_gd (fun _ => ?_)
      refine pk_bvy (fun μ7 ez2 => ?_)
      have z2 : Zm9 μ μ7 := by rw [ez2]; exact z1.sF (px_a (by decide) (by decide))
      refine pk_bvy (fun v8 _ => ?_)
      exact pk_mono (ih v8 μ7) (fun _ hq => z2.tr hq)
theorem x_X12_buildLeaves_b12 : ∀ (n : Nat) (a1 : Int32) (μ : Mem), pk (p_X12_buildLeaves_b12  n a1 μ) (fun q => Zm9 μ q) := by
  intro n
  induction n with
  | zero => intro a1 μ r e; rw [p_X12_buildLeaves_b12_z] at e; cases e
  | succ n ih =>
    intro a1 μ
    have z0 : Zm9 μ μ := Zm9.rf
    rw [p_X12_buildLeaves_b12_s]
    refine pk_ite (fun _ => ?_) (fun _ => ?_)
    · exact pk_mono (x_X12_buildLeaves_b40 FUEL (0 : Int32) μ) (fun _ hq => z0.tr hq)
    · refine pk_gd (fun _ => ?_)
      refine pk_gd (fun _ => ?_)
      refine pk_bw (x_X12_buildOne (μ.1 27 a1.toNatClampNeg) (μ.1 28 a1.toNatClampNeg) μ) (fun μ9 ez1 => ?_)
      have z1 : Zm9 μ μ9 := z0.tr ez1
      refine pk_bvy (fun v11 _ => ?_)
      exact pk_mono (ih v11 μ9) (fun _ hq => z1.tr hq)
theorem x_X12_buildLeaves (μ : Mem) : pk (p_X12_buildLeaves μ) (fun q => Zm9 μ q) := by
  have z0 : Zm9 μ μ := Zm9.rf
  rw [p_X12_buildLeaves_eq]
  refine pk_bvy (fun μ1 ez1 => ?_)
  have z1 : Zm9 μ μ1 := by rw [ez1]; exact z0.sF (px_f (by decide))
  refine pk_bvy (fun v2 _ => ?_)
  exact pk_mono (x_X12_buildLeaves_b12 FUEL v2 μ1) (fun _ hq => z1.tr hq)
theorem x_X12_begin (a1 : Int32) (μ : Mem) : pk (p_X12_begin a1 μ) (fun q => Zm9 μ q) := by
  have z0 : Zm9 μ μ := Zm9.rf
  rw [p_X12_begin_eq]
  refine pk_gd (fun _ => ?_)
  refine pk_bvy (fun μ1 ez1 => ?_)
  have z1 : Zm9 μ μ1 := by rw [ez1]; exact z0.sF (px_f (by decide))
  refine pk_bvy (fun μ3 ez2 => ?_)
  have z2 : Zm9 μ μ3 := by rw [ez2]; exact z1.sF (px_f (by decide))
  refine pk_bvy (fun μ4 ez3 => ?_)
  have z3 : Zm9 μ μ4 := by rw [ez3]; exact z2.sF (px_f (by decide))
  refine pk_bvy (fun μ5 ez4 => ?_)
  have z4 : Zm9 μ μ5 := by rw [ez4]; exact z3.sF (px_f (by decide))
  refine pk_bvy (fun μ6 ez5 => ?_)
  have z5 : Zm9 μ μ6 := by rw [ez5]; exact z4.sF (px_f (by decide))
  exact pk_some z5
theorem x_X12_show (a1 : Int32) (μ : Mem) : pk (p_X12_show a1 μ) (fun q => Zm9 μ q) := by
  have z0 : Zm9 μ μ := Zm9.rf
  rw [p_X12_show_eq]
  refine pk_ite (fun _ => ?_) (fun _ => ?_)
  · refine pk_bvy (fun μ2 ez1 => ?_)
    have z1 : Zm9 μ μ2 := by rw [ez1]; exact z0.sF (px_f (by decide))
    exact pk_some z1
  · refine pk_gd (fun _ => ?_)
    refine pk_gd (fun _ => ?_)
    refine pk_bvy (fun μ3 ez2 => ?_)
    have z2 : Zm9 μ μ3 := by rw [ez2]; exact z0.sF (px_a (by decide) (by decide))
    refine pk_gd (fun _ => ?_)
    refine pk_gd (fun _ => ?_)
    refine pk_bvy (fun μ4 ez3 => ?_)
    have z3 : Zm9 μ μ4 := by rw [ez3]; exact z2.sF (px_a (by decide) (by decide))
    refine pk_bvy (fun μ5 ez4 => ?_)
    have z4 : Zm9 μ μ5 := by rw [ez4]; exact z3.sF (px_f (by decide))
    exact pk_some z4
theorem x_X12_holdAt (a1 : Int32) (a2 : Int32) (μ : Mem) : pk (p_X12_holdAt a1 a2 μ) (fun q => Zm9 μ q) := by
  have z0 : Zm9 μ μ := Zm9.rf
  rw [p_X12_holdAt_eq]
  refine pk_ite (fun _ => ?_) (fun _ => ?_)
  · refine pk_gd (fun _ => ?_)
    refine pk_gd (fun _ => ?_)
    refine pk_bw (x_X12_give (1 : Int32) (s_X12_floatOf (μ.1 30 a2.toNatClampNeg) (μ.1 31 a2.toNatClampNeg)) μ) (fun μ2 ez1 => ?_)
    have z1 : Zm9 μ μ2 := z0.tr ez1
    exact pk_some z1
  · refine pk_gd (fun _ => ?_)
    refine pk_gd (fun _ => ?_)
    refine pk_bsy (fun r4 => ?_)
    refine pk_bw (x_X12_give (0 : Int32) r4 μ) (fun μ5 ez2 => ?_)
    have z2 : Zm9 μ μ5 := z0.tr ez2
    exact pk_some z2
theorem x_X12_beginsCall_b18 (μ : Mem) : pk (p_X12_beginsCall_b18 μ) (fun q => Zm9 μ q.2) := by
  have z0 : Zm9 μ μ := Zm9.rf
  rw [p_X12_beginsCall_b18_eq]
  refine pk_ite (fun _ => ?_) (fun _ => ?_)
  · refine pk_bvy (fun μ4 ez1 => ?_)
    have z1 : Zm9 μ μ4 := by rw [ez1]; exact z0.sF (px_f (by decide))
    exact pk_some z1
  · refine pk_bvy (fun μ3 ez2 => ?_)
    have z2 : Zm9 μ μ3 := by rw [ez2]; exact z0.sF (px_f (by decide))
    exact pk_some z2
theorem x_X12_beginsCall (μ : Mem) : pk (p_X12_beginsCall μ) (fun q => Zm9 μ q.2) := by
  have z0 : Zm9 μ μ := Zm9.rf
  rw [p_X12_beginsCall_eq]
  refine pk_ite (fun _ => ?_) (fun _ => ?_)
  · exact pk_mono (x_X12_beginsCall_b18 μ) (fun _ hq => z0.tr hq)
  · refine pk_ite (fun _ => ?_) (fun _ => ?_)
    · exact pk_mono (x_X12_beginsCall_b18 μ) (fun _ hq => z0.tr hq)
    · refine pk_bvy (fun μ6 ez1 => ?_)
      have z1 : Zm9 μ μ6 := by rw [ez1]; exact z0.sF (px_f (by decide))
      refine pk_bvy (fun μ7 ez2 => ?_)
      have z2 : Zm9 μ μ7 := by rw [ez2]; exact z1.sF (px_f (by decide))
      refine pk_ite (fun _ => ?_) (fun _ => ?_)
      · refine pk_bvy (fun μ9 ez3 => ?_)
        have z3 : Zm9 μ μ9 := by rw [ez3]; exact z2.sF (px_f (by decide))
        exact pk_some z3
      · refine pk_bvy (fun μ10 ez4 => ?_)
        have z4 : Zm9 μ μ10 := by rw [ez4]; exact z2.sF (px_f (by decide))
        exact pk_some z4
theorem x_X12_countKind_b38 (K10 : Int32 → Int32 → Int32 → Int32 → Mem → Option (Int32 × Mem)) (hK10 : ∀ (y0 : Int32) (y1 : Int32) (y2 : Int32) (y3 : Int32) (y4 : Mem), pk (K10 y0 y1 y2 y3 y4) (fun q => Zm9 y4 q.2)) (a1 : Int32) (a2 : Int32) (a4 : Int32) (k0 : Int32) (k1 : Int32) (μ : Mem) : pk (p_X12_countKind_b38 K10 a1 a2 a4 k0 k1 μ) (fun q => Zm9 μ q.2) := by
  have z0 : Zm9 μ μ := Zm9.rf
  rw [p_X12_countKind_b38_eq]
  refine pk_bvy (fun v4 _ => ?_)
  refine pk_bvy (fun v5 _ => ?_)
  exact pk_mono (hK10 a1 a2 v4 v5 μ) (fun _ hq => z0.tr hq)
theorem x_X12_countKind_b10 : ∀ (n : Nat) (a1 : Int32) (a2 : Int32) (a3 : Int32) (a4 : Int32) (μ : Mem), pk (p_X12_countKind_b10  n a1 a2 a3 a4 μ) (fun q => Zm9 μ q.2) := by
  intro n
  induction n with
  | zero => intro a1 a2 a3 a4 μ r e; rw [p_X12_countKind_b10_z] at e; cases e
  | succ n ih =>
    intro a1 a2 a3 a4 μ
    have z0 : Zm9 μ μ := Zm9.rf
    rw [p_X12_countKind_b10_s]
    refine pk_gd (fun _ => ?_)
    refine pk_ite (fun _ => ?_) (fun _ => ?_)
    · exact pk_some z0
    · refine pk_gd (fun _ => ?_)
      refine pk_ite (fun _ => ?_) (fun _ => ?_)
      · exact pk_mono (x_X12_countKind_b38 (p_X12_countKind_b10  n) ih a1 a2 a4 (1 : Int32) a3 μ) (fun _ hq => z0.tr hq)
      · exact pk_mono (x_X12_countKind_b38 (p_X12_countKind_b10  n) ih a1 a2 a4 (0 : Int32) a3 μ) (fun _ hq => z0.tr hq)
theorem x_X12_countKind (a1 : Int32) (a2 : Int32) (μ : Mem) : pk (p_X12_countKind a1 a2 μ) (fun q => Zm9 μ q.2) := by
  have z0 : Zm9 μ μ := Zm9.rf
  rw [p_X12_countKind_eq]
  refine pk_gd (fun _ => ?_)
  refine pk_bvy (fun v1 _ => ?_)
  exact pk_mono (x_X12_countKind_b10 FUEL a1 a2 (0 : Int32) v1 μ) (fun _ hq => z0.tr hq)
theorem x_X12_countAll_b4 : ∀ (n : Nat) (a1 : Int32) (a2 : Int32) (a3 : Int32) (μ : Mem), pk (p_X12_countAll_b4  n a1 a2 a3 μ) (fun q => Zm9 μ q.2) := by
  intro n
  induction n with
  | zero => intro a1 a2 a3 μ r e; rw [p_X12_countAll_b4_z] at e; cases e
  | succ n ih =>
    intro a1 a2 a3 μ
    have z0 : Zm9 μ μ := Zm9.rf
    rw [p_X12_countAll_b4_s]
    refine pk_ite (fun _ => ?_) (fun _ => ?_)
    · exact pk_some z0
    · refine pk_bd (x_X12_countKind a3 a1 μ) (fun r3 μ2 ez1 => ?_)
      have z1 : Zm9 μ μ2 := z0.tr ez1
      refine pk_bvy (fun v4 _ => ?_)
      refine pk_bvy (fun v5 _ => ?_)
      exact pk_mono (ih a1 v4 v5 μ2) (fun _ hq => z1.tr hq)
theorem x_X12_countAll (a1 : Int32) (μ : Mem) : pk (p_X12_countAll a1 μ) (fun q => Zm9 μ q.2) := by
  have z0 : Zm9 μ μ := Zm9.rf
  rw [p_X12_countAll_eq]
  exact pk_mono (x_X12_countAll_b4 FUEL a1 (0 : Int32) (0 : Int32) μ) (fun _ hq => z0.tr hq)
theorem x_X12_residue (a1 : Int32) (μ : Mem) : pk (p_X12_residue a1 μ) (fun q => Zm9 μ q.2) := by
  have z0 : Zm9 μ μ := Zm9.rf
  rw [p_X12_residue_eq]
  refine pk_ite (fun _ => ?_) (fun _ => ?_)
  · exact pk_some z0
  · refine pk_ite (fun _ => ?_) (fun _ => ?_)
    · exact pk_some z0
    · refine pk_ite (fun _ => ?_) (fun _ => ?_)
      · exact pk_some z0
      · refine pk_ite (fun _ => ?_) (fun _ => ?_)
        · exact pk_some z0
        · refine pk_ite (fun _ => ?_) (fun _ => ?_)
          · refine pk_bd (x_X12_countAll (11 : Int32) μ) (fun r8 μ7 ez1 => ?_)
            have z1 : Zm9 μ μ7 := z0.tr ez1
            exact pk_some z1
          · refine pk_ite (fun _ => ?_) (fun _ => ?_)
            · refine pk_bd (x_X12_countAll (7 : Int32) μ) (fun r11 μ10 ez2 => ?_)
              have z2 : Zm9 μ μ10 := z0.tr ez2
              exact pk_some z2
            · refine pk_ite (fun _ => ?_) (fun _ => ?_)
              · refine pk_bd (x_X12_countAll (8 : Int32) μ) (fun r14 μ13 ez3 => ?_)
                have z3 : Zm9 μ μ13 := z0.tr ez3
                refine pk_bd (x_X12_countAll (9 : Int32) μ13) (fun r16 μ15 ez4 => ?_)
                have z4 : Zm9 μ μ15 := z3.tr ez4
                exact pk_some z4
              · refine pk_ite (fun _ => ?_) (fun _ => ?_)
                · refine pk_bd (x_X12_countAll (10 : Int32) μ) (fun r19 μ18 ez5 => ?_)
                  have z5 : Zm9 μ μ18 := z0.tr ez5
                  exact pk_some z5
                · refine pk_ite (fun _ => ?_) (fun _ => ?_)
                  · refine pk_bd (x_X12_countAll (6 : Int32) μ) (fun r22 μ21 ez6 => ?_)
                    have z6 : Zm9 μ μ21 := z0.tr ez6
                    exact pk_some z6
                  · refine pk_ite (fun _ => ?_) (fun _ => ?_)
                    · exact pk_some z0
                    · refine pk_ite (fun _ => ?_) (fun _ => ?_)
                      · exact pk_some z0
                      · exact pk_some z0
theorem x_X12_isVariant (a1 : Int32) (μ : Mem) : pk (p_X12_isVariant a1 μ) (fun q => Zm9 μ q.2) := by
  have z0 : Zm9 μ μ := Zm9.rf
  rw [p_X12_isVariant_eq]
  refine pk_ite (fun _ => ?_) (fun _ => ?_)
  · exact pk_some z0
  · refine pk_ite (fun _ => ?_) (fun _ => ?_)
    · exact pk_some z0
    · exact pk_some z0
theorem x_X12_knownIn_b42 (K8 : Int32 → Int32 → Int32 → Mem → Option (Int32 × Mem)) (hK8 : ∀ (y0 : Int32) (y1 : Int32) (y2 : Int32) (y3 : Mem), pk (K8 y0 y1 y2 y3) (fun q => Zm9 y3 q.2)) (a1 : Int32) (a3 : Int32) (k0 : Int32) (k1 : Int32) (μ : Mem) : pk (p_X12_knownIn_b42 K8 a1 a3 k0 k1 μ) (fun q => Zm9 μ q.2) := by
  have z0 : Zm9 μ μ := Zm9.rf
  rw [p_X12_knownIn_b42_eq]
  refine pk_bvy (fun v4 _ => ?_)
  refine pk_bvy (fun v5 _ => ?_)
  exact pk_mono (hK8 a1 v4 v5 μ) (fun _ hq => z0.tr hq)
theorem x_X12_knownIn_b8 : ∀ (n : Nat) (a1 : Int32) (a2 : Int32) (a3 : Int32) (μ : Mem), pk (p_X12_knownIn_b8  n a1 a2 a3 μ) (fun q => Zm9 μ q.2) := by
  intro n
  induction n with
  | zero => intro a1 a2 a3 μ r e; rw [p_X12_knownIn_b8_z] at e; cases e
  | succ n ih =>
    intro a1 a2 a3 μ
    have z0 : Zm9 μ μ := Zm9.rf
    rw [p_X12_knownIn_b8_s]
    refine pk_gd (fun _ => ?_)
    refine pk_ite (fun _ => ?_) (fun _ => ?_)
    · exact pk_some z0
    · refine pk_gd (fun _ => ?_)
      refine pk_ite (fun _ => ?_) (fun _ => ?_)
      · exact pk_mono (x_X12_knownIn_b42 (p_X12_knownIn_b8  n) ih a1 a3 (0 : Int32) a2 μ) (fun _ hq => z0.tr hq)
      · exact pk_mono (x_X12_knownIn_b42 (p_X12_knownIn_b8  n) ih a1 a3 (1 : Int32) a2 μ) (fun _ hq => z0.tr hq)
theorem x_X12_knownIn (a1 : Int32) (μ : Mem) : pk (p_X12_knownIn a1 μ) (fun q => Zm9 μ q.2) := by
  have z0 : Zm9 μ μ := Zm9.rf
  rw [p_X12_knownIn_eq]
  refine pk_bvy (fun v1 _ => ?_)
  exact pk_mono (x_X12_knownIn_b8 FUEL a1 (0 : Int32) v1 μ) (fun _ hq => z0.tr hq)
theorem x_X12_callsOf_b39 (K4 : Int32 → Int32 → Int32 → Mem → Option (Int32 × Mem)) (hK4 : ∀ (y0 : Int32) (y1 : Int32) (y2 : Int32) (y3 : Mem), pk (K4 y0 y1 y2 y3) (fun q => Zm9 y3 q.2)) (a1 : Int32) (a3 : Int32) (k0 : Int32) (k1 : Int32) (μ : Mem) : pk (p_X12_callsOf_b39 K4 a1 a3 k0 k1 μ) (fun q => Zm9 μ q.2) := by
  have z0 : Zm9 μ μ := Zm9.rf
  rw [p_X12_callsOf_b39_eq]
  refine pk_bvy (fun v3 _ => ?_)
  refine pk_bvy (fun v4 _ => ?_)
  exact pk_mono (hK4 a1 v3 v4 μ) (fun _ hq => z0.tr hq)
theorem x_X12_callsOf_b38 (K4 : Int32 → Int32 → Int32 → Mem → Option (Int32 × Mem)) (hK4 : ∀ (y0 : Int32) (y1 : Int32) (y2 : Int32) (y3 : Mem), pk (K4 y0 y1 y2 y3) (fun q => Zm9 y3 q.2)) (a1 : Int32) (a3 : Int32) (k0 : Int32) (μ : Mem) : pk (p_X12_callsOf_b38 K4 a1 a3 k0 μ) (fun q => Zm9 μ q.2) := by
  have z0 : Zm9 μ μ := Zm9.rf
  rw [p_X12_callsOf_b38_eq]
  exact pk_mono (x_X12_callsOf_b39 K4 hK4 a1 a3 (0 : Int32) k0 μ) (fun _ hq => z0.tr hq)
theorem x_X12_callsOf_b4 : ∀ (n : Nat) (a1 : Int32) (a2 : Int32) (a3 : Int32) (μ : Mem), pk (p_X12_callsOf_b4  n a1 a2 a3 μ) (fun q => Zm9 μ q.2) := by
  intro n
  induction n with
  | zero => intro a1 a2 a3 μ r e; rw [p_X12_callsOf_b4_z] at e; cases e
  | succ n ih =>
    intro a1 a2 a3 μ
    have z0 : Zm9 μ μ := Zm9.rf
    rw [p_X12_callsOf_b4_s]
    refine pk_ite (fun _ => ?_) (fun _ => ?_)
    · exact pk_some z0
    · refine pk_gd (fun _ => ?_)
      refine pk_ite (fun _ => ?_) (fun _ => ?_)
      · refine pk_gd (fun _ => ?_)
        refine pk_ite (fun _ => ?_) (fun _ => ?_)
        · exact pk_mono (x_X12_callsOf_b39 (p_X12_callsOf_b4  n) ih a1 a3 (1 : Int32) a2 μ) (fun _ hq => z0.tr hq)
        · exact pk_mono (x_X12_callsOf_b38 (p_X12_callsOf_b4  n) ih a1 a3 a2 μ) (fun _ hq => z0.tr hq)
      · exact pk_mono (x_X12_callsOf_b38 (p_X12_callsOf_b4  n) ih a1 a3 a2 μ) (fun _ hq => z0.tr hq)
theorem x_X12_callsOf (a1 : Int32) (μ : Mem) : pk (p_X12_callsOf a1 μ) (fun q => Zm9 μ q.2) := by
  have z0 : Zm9 μ μ := Zm9.rf
  rw [p_X12_callsOf_eq]
  exact pk_mono (x_X12_callsOf_b4 FUEL a1 (0 : Int32) (0 : Int32) μ) (fun _ hq => z0.tr hq)
theorem x_X12_instructionsOf (a1 : Int32) (μ : Mem) : pk (p_X12_instructionsOf a1 μ) (fun q => Zm9 μ q.2) := by
  have z0 : Zm9 μ μ := Zm9.rf
  rw [p_X12_instructionsOf_eq]
  refine pk_gd (fun _ => ?_)
  refine pk_gd (fun _ => ?_)
  refine pk_bd (x_X12_countKind a1 (13 : Int32) μ) (fun r2 μ1 ez1 => ?_)
  have z1 : Zm9 μ μ1 := z0.tr ez1
  refine pk_bd (x_X12_countKind a1 (14 : Int32) μ1) (fun r4 μ3 ez2 => ?_)
  have z2 : Zm9 μ μ3 := z1.tr ez2
  exact pk_some z2
theorem x_X12_variant (a1 : Int32) (a2 : Int32) (μ : Mem) : pk (p_X12_variant a1 a2 μ) (fun q => Zm9 μ q.2) := by
  have z0 : Zm9 μ μ := Zm9.rf
  rw [p_X12_variant_eq]
  refine pk_bd (x_X12_isVariant a1 μ) (fun r2 μ1 ez1 => ?_)
  have z1 : Zm9 μ μ1 := z0.tr ez1
  refine pk_ite (fun _ => ?_) (fun _ => ?_)
  · exact pk_some z1
  · refine pk_ite (fun _ => ?_) (fun _ => ?_)
    · refine pk_gd (fun _ => ?_)
      refine pk_gd (fun _ => ?_)
      exact pk_some z1
    · refine pk_ite (fun _ => ?_) (fun _ => ?_)
      · refine pk_gd (fun _ => ?_)
        exact pk_some z1
      · refine pk_ite (fun _ => ?_) (fun _ => ?_)
        · refine pk_gd (fun _ => ?_)
          exact pk_some z1
        · refine pk_ite (fun _ => ?_) (fun _ => ?_)
          · refine pk_bd (x_X12_instructionsOf a1 μ1) (fun r10 μ9 ez2 => ?_)
            have z2 : Zm9 μ μ9 := z1.tr ez2
            exact pk_some z2
          · refine pk_ite (fun _ => ?_) (fun _ => ?_)
            · refine pk_gd (fun _ => ?_)
              exact pk_some z1
            · refine pk_ite (fun _ => ?_) (fun _ => ?_)
              · refine pk_bd (x_X12_callsOf a1 μ1) (fun r14 μ13 ez3 => ?_)
                have z3 : Zm9 μ μ13 := z1.tr ez3
                exact pk_some z3
              · refine pk_ite (fun _ => ?_) (fun _ => ?_)
                · refine pk_bd (x_X12_knownIn a1 μ1) (fun r17 μ16 ez4 => ?_)
                  have z4 : Zm9 μ μ16 := z1.tr ez4
                  exact pk_some z4
                · exact pk_some z1
theorem x_X12_kinds (a1 : Int32) (a2 : Int32) (μ : Mem) : pk (p_X12_kinds a1 a2 μ) (fun q => Zm9 μ q.2) := by
  have z0 : Zm9 μ μ := Zm9.rf
  rw [p_X12_kinds_eq]
  refine pk_bd (x_X12_isVariant a1 μ) (fun r2 μ1 ez1 => ?_)
  have z1 : Zm9 μ μ1 := z0.tr ez1
  refine pk_ite (fun _ => ?_) (fun _ => ?_)
  · exact pk_some z1
  · refine pk_ite (fun _ => ?_) (fun _ => ?_)
    · exact pk_some z1
    · refine pk_bd (x_X12_countKind a1 a2 μ1) (fun r6 μ5 ez2 => ?_)
      have z2 : Zm9 μ μ5 := z1.tr ez2
      exact pk_some z2
theorem x_X12_beginRun_b32 : ∀ (n : Nat) (a1 : Int32) (μ : Mem), pk (p_X12_beginRun_b32  n a1 μ) (fun q => Zm9 μ q) := by
  intro n
  induction n with
  | zero => intro a1 μ r e; rw [p_X12_beginRun_b32_z] at e; cases e
  | succ n ih =>
    intro a1 μ
    have z0 : Zm9 μ μ := Zm9.rf
    rw [p_X12_beginRun_b32_s]
    refine pk_ite (fun _ => ?_) (fun _ => ?_)
    · refine pk_bw (x_X12_begin (0 : Int32) μ) (fun μ8 ez1 => ?_)
      have z1 : Zm9 μ μ8 := z0.tr ez1
      refine pk_bw (x_X12_buildLeaves μ8) (fun μ10 ez2 => ?_)
      have z2 : Zm9 μ μ10 := z1.tr ez2
      exact pk_some z2
    · refine pk_gd (fun _ => ?_)
      refine pk_bvy (fun μ12 ez3 => ?_)
      have z3 : Zm9 μ μ12 := by rw [ez3]; exact z0.sF (px_a (by decide) (by decide))
      refine pk_bvy (fun v13 _ => ?_)
      exact pk_mono (ih v13 μ12) (fun _ hq => z3.tr hq)
theorem x_X12_beginRun (μ : Mem) : pk (p_X12_beginRun μ) (fun q => Zm9 μ q) := by
  have z0 : Zm9 μ μ := Zm9.rf
  rw [p_X12_beginRun_eq]
  refine pk_bvy (fun μ1 ez1 => ?_)
  have z1 : Zm9 μ μ1 := by rw [ez1]; exact z0.sF (px_f (by decide))
  refine pk_bvy (fun μ2 ez2 => ?_)
  have z2 : Zm9 μ μ2 := by rw [ez2]; exact z1.sF (px_f (by decide))
  refine pk_bvy (fun μ3 ez3 => ?_)
  have z3 : Zm9 μ μ3 := by rw [ez3]; exact z2.sF (px_f (by decide))
  refine pk_bvy (fun μ4 ez4 => ?_)
  have z4 : Zm9 μ μ4 := by rw [ez4]; exact z3.sF (px_f (by decide))
  refine pk_bvy (fun μ5 ez5 => ?_)
  have z5 : Zm9 μ μ5 := by rw [ez5]; exact z4.sF (px_f (by decide))
  refine pk_bvy (fun μ6 ez6 => ?_)
  have z6 : Zm9 μ μ6 := by rw [ez6]; exact z5.sF (px_f (by decide))
  exact pk_mono (x_X12_beginRun_b32 FUEL (0 : Int32) μ6) (fun _ hq => z6.tr hq)
theorem x_X12_layRow_b66 (K9 : Int32 → Mem → Option Mem) (hK9 : ∀ (y0 : Int32) (y1 : Mem), pk (K9 y0 y1) (fun q => Zm9 y1 q)) (a2 : Int32) (a3 : Int32) (k0 : Int32) (k1 : Int32) (μ : Mem) : pk (p_X12_layRow_b66 K9 a2 a3 k0 k1 μ) (fun q => Zm9 μ q) := by
  have z0 : Zm9 μ μ := Zm9.rf
  rw [p_X12_layRow_b66_eq]
  refine pk_gd (fun _ => ?_)
  refine pk_bvy (fun μ7 ez1 => ?_)
  have z1 : Zm9 μ μ7 := by rw [ez1]; exact z0.sF (px_a (by decide) (by decide))
  refine pk_bvy (fun μ8 ez2 => ?_)
  have z2 : Zm9 μ μ8 := by rw [ez2]; exact z1.sF (px_f (by decide))
  refine pk_gd (fun _ => ?_)
  refine pk_ite (fun _ => ?_) (fun _ => ?_)
  · refine pk_gd (fun _ => ?_)
    refine pk_gd (fun _ => ?_)
    refine pk_bvy (fun μ10 ez3 => ?_)
    have z3 : Zm9 μ μ10 := by rw [ez3]; exact z2.sF (px_a (by decide) (by decide))
    refine pk_gd (fun _ => ?_)
    refine pk_gd (fun _ => ?_)
    refine pk_bvy (fun μ11 ez4 => ?_)
    have z4 : Zm9 μ μ11 := by rw [ez4]; exact z3.sF (px_a (by decide) (by decide))
    refine pk_bvy (fun v12 _ => ?_)
    exact pk_mono (hK9 v12 μ11) (fun _ hq => z4.tr hq)
  · exact pk_mono (hK9 a2 μ8) (fun _ hq => z2.tr hq)
theorem x_X12_layRow_b9 : ∀ (n : Nat) (a2 : Int32) (μ : Mem), pk (p_X12_layRow_b9  n a2 μ) (fun q => Zm9 μ q) := by
  intro n
  induction n with
  | zero => intro a2 μ r e; rw [p_X12_layRow_b9_z] at e; cases e
  | succ n ih =>
    intro a2 μ
    have z0 : Zm9 μ μ := Zm9.rf
    rw [p_X12_layRow_b9_s]
    refine pk_ite (fun _ => ?_) (fun _ => ?_)
    · exact pk_some z0
    · refine pk_bvy (fun v3 _ => ?_)
      refine pk_gd (fun _ => ?_)
      refine pk_bvy (fun v4 _ => ?_)
      refine pk_gd (fun _ => ?_)
      refine pk_gd (fun _ => ?_)
      refine pk_bvy (fun μ5 ez1 => ?_)
      have z1 : Zm9 μ μ5 := by rw [ez1]; exact z0.sF (px_a (by decide) (by decide))
      refine pk_gd (fun _ => ?_)
      refine pk_ite (fun _ => ?_) (fun _ => ?_)
      · exact pk_mono (x_X12_layRow_b66 (p_X12_layRow_b9  n) ih v3 v4 (0 : Int32) (μ5.1 0 122) μ5) (fun _ hq => z1.tr hq)
      · refine pk_gd (fun _ => ?_)
        exact pk_mono (x_X12_layRow_b66 (p_X12_layRow_b9  n) ih v3 v4 (μ5.1 31 v4.toNatClampNeg) (μ5.1 0 122) μ5) (fun _ hq => z1.tr hq)
theorem x_X12_layRow (a1 : Int32) (μ : Mem) : pk (p_X12_layRow a1 μ) (fun q => Zm9 μ q) := by
  have z0 : Zm9 μ μ := Zm9.rf
  rw [p_X12_layRow_eq]
  refine pk_gd (fun _ => ?_)
  refine pk_bvy (fun μ1 ez1 => ?_)
  have z1 : Zm9 μ μ1 := by rw [ez1]; exact z0.sF (px_a (by decide) (by decide))
  exact pk_mono (x_X12_layRow_b9 FUEL (1 : Int32) μ1) (fun _ hq => z1.tr hq)
theorem x_X12_endRun_b75 (a1 : Int32) (k0 : Int32) (k1 : Int32) (μ : Mem) : pk (p_X12_endRun_b75 a1 k0 k1 μ) (fun q => Zm9 μ q) := by
  have z0 : Zm9 μ μ := Zm9.rf
  rw [p_X12_endRun_b75_eq]
  refine pk_gd (fun _ => ?_)
  refine pk_bvy (fun μ7 ez1 => ?_)
  have z1 : Zm9 μ μ7 := by rw [ez1]; exact z0.sF (px_a (by decide) (by decide))
  refine pk_gd (fun _ => ?_)
  refine pk_bvy (fun μ8 ez2 => ?_)
  have z2 : Zm9 μ μ8 := by rw [ez2]; exact z1.sF (px_a (by decide) (by decide))
  refine pk_ite (fun _ => ?_) (fun _ => ?_)
  · refine pk_bw (x_X12_layRow a1 μ8) (fun μ10 ez3 => ?_)
    have z3 : Zm9 μ μ10 := z2.tr ez3
    exact pk_some z3
  · exact pk_some z2
theorem x_X12_endRun_b52 (a1 : Int32) (k0 : Int32) (k1 : Int32) (μ : Mem) : pk (p_X12_endRun_b52 a1 k0 k1 μ) (fun q => Zm9 μ q) := by
  have z0 : Zm9 μ μ := Zm9.rf
  rw [p_X12_endRun_b52_eq]
  refine pk_gd (fun _ => ?_)
  refine pk_bvy (fun μ5 ez1 => ?_)
  have z1 : Zm9 μ μ5 := by rw [ez1]; exact z0.sF (px_a (by decide) (by decide))
  refine pk_ite (fun _ => ?_) (fun _ => ?_)
  · refine pk_gd (fun _ => ?_)
    exact pk_mono (x_X12_endRun_b75 a1 (μ5.1 34 a1.toNatClampNeg) (4 : Int32) μ5) (fun _ hq => z1.tr hq)
  · exact pk_mono (x_X12_endRun_b75 a1 (0 : Int32) (4 : Int32) μ5) (fun _ hq => z1.tr hq)
theorem x_X12_endRun (a1 : Int32) (μ : Mem) : pk (p_X12_endRun a1 μ) (fun q => Zm9 μ q) := by
  have z0 : Zm9 μ μ := Zm9.rf
  rw [p_X12_endRun_eq]
  refine pk_gd (fun _ => ?_)
  refine pk_bvy (fun μ1 ez1 => ?_)
  have z1 : Zm9 μ μ1 := by rw [ez1]; exact z0.sF (px_a (by decide) (by decide))
  refine pk_gd (fun _ => ?_)
  refine pk_bvy (fun μ2 ez2 => ?_)
  have z2 : Zm9 μ μ2 := by rw [ez2]; exact z1.sF (px_a (by decide) (by decide))
  refine pk_gd (fun _ => ?_)
  refine pk_bvy (fun μ3 ez3 => ?_)
  have z3 : Zm9 μ μ3 := by rw [ez3]; exact z2.sF (px_a (by decide) (by decide))
  refine pk_ite (fun _ => ?_) (fun _ => ?_)
  · refine pk_gd (fun _ => ?_)
    exact pk_mono (x_X12_endRun_b52 a1 (μ3.1 33 a1.toNatClampNeg) (3 : Int32) μ3) (fun _ hq => z3.tr hq)
  · exact pk_mono (x_X12_endRun_b52 a1 (0 : Int32) (3 : Int32) μ3) (fun _ hq => z3.tr hq)
theorem x_X12_enterVariant (a1 : Int32) (a2 : Int32) (μ : Mem) : pk (p_X12_enterVariant a1 a2 μ) (fun q => Zm9 μ q) := by
  have z0 : Zm9 μ μ := Zm9.rf
  rw [p_X12_enterVariant_eq]
  refine pk_gd (fun _ => ?_)
  refine pk_bvy (fun μ1 ez1 => ?_)
  have z1 : Zm9 μ μ1 := by rw [ez1]; exact z0.sF (px_a (by decide) (by decide))
  refine pk_gd (fun _ => ?_)
  refine pk_bvy (fun μ2 ez2 => ?_)
  have z2 : Zm9 μ μ2 := by rw [ez2]; exact z1.sF (px_a (by decide) (by decide))
  exact pk_some z2
theorem x_X12_valueOf (a1 : Int32) (μ : Mem) : pk (p_X12_valueOf a1 μ) (fun q => Zm9 μ q.2) := by
  have z0 : Zm9 μ μ := Zm9.rf
  rw [p_X12_valueOf_eq]
  refine pk_gd (fun _ => ?_)
  refine pk_ite (fun _ => ?_) (fun _ => ?_)
  · refine pk_gd (fun _ => ?_)
    refine pk_gd (fun _ => ?_)
    exact pk_some z0
  · refine pk_gd (fun _ => ?_)
    refine pk_gd (fun _ => ?_)
    refine pk_bd (x_X12_node (μ.1 53 a1.toNatClampNeg) (μ.1 54 a1.toNatClampNeg) μ) (fun r3 μ2 ez1 => ?_)
    have z1 : Zm9 μ μ2 := z0.tr ez1
    exact pk_some z1
theorem x_X12_hold (a1 : Int32) (a2 : Int32) (μ : Mem) : pk (p_X12_hold a1 a2 μ) (fun q => Zm9 μ q) := by
  have z0 : Zm9 μ μ := Zm9.rf
  rw [p_X12_hold_eq]
  refine pk_gd (fun _ => ?_)
  refine pk_gd (fun _ => ?_)
  refine pk_bvy (fun μ1 ez1 => ?_)
  have z1 : Zm9 μ μ1 := by rw [ez1]; exact z0.sF (px_a (by decide) (by decide))
  exact pk_some z1
theorem x_X12_runCall_b11 : ∀ (n : Nat) (a1 : Int32) (a2 : Int32) (μ : Mem), pk (p_X12_runCall_b11  n a1 a2 μ) (fun q => Zm9 μ q.2) := by
  intro n
  induction n with
  | zero => intro a1 a2 μ r e; rw [p_X12_runCall_b11_z] at e; cases e
  | succ n ih =>
    intro a1 a2 μ
    have z0 : Zm9 μ μ := Zm9.rf
    rw [p_X12_runCall_b11_s]
    refine pk_gd (fun _ => ?_)
    refine pk_ite (fun _ => ?_) (fun _ => ?_)
    · refine pk_bvy (fun μ5 ez1 => ?_)
      have z1 : Zm9 μ μ5 := by rw [ez1]; exact z0.sF (px_f (by decide))
      refine pk_gd (fun _ => ?_)
      refine pk_bw (x_X12_enterVariant (μ5.1 48 a1.toNatClampNeg) a1 μ5) (fun μ6 ez2 => ?_)
      have z2 : Zm9 μ μ6 := z1.tr ez2
      refine pk_gd (fun _ => ?_)
      refine pk_gd (fun _ => ?_)
      exact pk_some z2
    · refine pk_gd (fun _ => ?_)
      refine pk_bd (x_X12_valueOf ((μ.1 51 a1.toNatClampNeg) + a2) μ) (fun r9 μ8 ez3 => ?_)
      have z3 : Zm9 μ μ8 := z0.tr ez3
      refine pk_gd (fun _ => ?_)
      refine pk_bvy (fun μ10 ez4 => ?_)
      have z4 : Zm9 μ μ10 := by rw [ez4]; exact z3.sF (px_a (by decide) (by decide))
      refine pk_bvy (fun v11 _ => ?_)
      exact pk_mono (ih a1 v11 μ10) (fun _ hq => z4.tr hq)
theorem x_X12_runCall (a1 : Int32) (μ : Mem) : pk (p_X12_runCall a1 μ) (fun q => Zm9 μ q.2) := by
  have z0 : Zm9 μ μ := Zm9.rf
  rw [p_X12_runCall_eq]
  refine pk_bd (x_X12_beginsCall μ) (fun r2 μ1 ez1 => ?_)
  have z1 : Zm9 μ μ1 := z0.tr ez1
  refine pk_ite (fun _ => ?_) (fun _ => ?_)
  · exact pk_some z1
  · exact pk_mono (x_X12_runCall_b11 FUEL a1 (0 : Int32) μ1) (fun _ hq => z1.tr hq)
theorem x_X12_itemValue_b29 (a1 : Int32) (k0 : Int32) (μ : Mem) : pk (p_X12_itemValue_b29 a1 k0 μ) (fun q => Zm9 μ q.2) := by
  have z0 : Zm9 μ μ := Zm9.rf
  rw [p_X12_itemValue_b29_eq]
  refine pk_gd (fun _ => ?_)
  refine pk_gd (fun _ => ?_)
  refine pk_bd (x_X12_node k0 (μ.1 42 (μ.1 48 a1.toNatClampNeg).toNatClampNeg) μ) (fun r41 μ40 ez1 => ?_)
  have z1 : Zm9 μ μ40 := z0.tr ez1
  exact pk_some z1
theorem x_X12_itemValue (a1 : Int32) (a2 : Int32) (μ : Mem) : pk (p_X12_itemValue a1 a2 μ) (fun q => Zm9 μ q.2) := by
  have z0 : Zm9 μ μ := Zm9.rf
  rw [p_X12_itemValue_eq]
  refine pk_gd (fun _ => ?_)
  refine pk_bvy (fun v1 _ => ?_)
  refine pk_ite (fun _ => ?_) (fun _ => ?_)
  · refine pk_gd (fun _ => ?_)
    refine pk_ite (fun _ => ?_) (fun _ => ?_)
    · exact pk_mono (x_X12_itemValue_b29 a1 (1 : Int32) μ) (fun _ hq => z0.tr hq)
    · exact pk_mono (x_X12_itemValue_b29 a1 (0 : Int32) μ) (fun _ hq => z0.tr hq)
  · refine pk_bd (x_X12_valueOf a2 μ) (fun r4 μ3 ez1 => ?_)
    have z1 : Zm9 μ μ3 := z0.tr ez1
    refine pk_ite (fun _ => ?_) (fun _ => ?_)
    · refine pk_bd (x_X12_valueOf (a2 + (1 : Int32)) μ3) (fun r34 μ33 ez2 => ?_)
      have z2 : Zm9 μ μ33 := z1.tr ez2
      refine pk_bd (x_X12_pair r4 r34 μ33) (fun r36 μ35 ez3 => ?_)
      have z3 : Zm9 μ μ35 := z2.tr ez3
      refine pk_gd (fun _ => ?_)
      refine pk_ite (fun _ => ?_) (fun _ => ?_)
      · exact pk_some z3
      · refine pk_bvy (fun μ38 ez4 => ?_)
        have z4 : Zm9 μ μ38 := by rw [ez4]; exact z3.sF (px_f (by decide))
        exact pk_some z4
    · refine pk_ite (fun _ => ?_) (fun _ => ?_)
      · refine pk_gd (fun _ => ?_)
        refine pk_ite (fun _ => ?_) (fun _ => ?_)
        · refine pk_gd (fun _ => ?_)
          exact pk_some z1
        · exact pk_some z1
      · refine pk_ite (fun _ => ?_) (fun _ => ?_)
        · refine pk_gd (fun _ => ?_)
          refine pk_ite (fun _ => ?_) (fun _ => ?_)
          · refine pk_gd (fun _ => ?_)
            exact pk_some z1
          · refine pk_bd (x_X12_node (0 : Int32) (0 : Int32) μ3) (fun r31 μ30 ez5 => ?_)
            have z5 : Zm9 μ μ30 := z1.tr ez5
            exact pk_some z5
        · refine pk_bd (x_X12_num r4 μ3) (fun r9 μ8 ez6 => ?_)
          have z6 : Zm9 μ μ8 := z1.tr ez6
          refine pk_ite (fun _ => ?_) (fun _ => ?_)
          · refine pk_bd (x_X12_valueOf (a2 + (1 : Int32)) μ8) (fun r22 μ21 ez7 => ?_)
            have z7 : Zm9 μ μ21 := z6.tr ez7
            refine pk_bd (x_X12_num r22 μ21) (fun r24 μ23 ez8 => ?_)
            have z8 : Zm9 μ μ23 := z7.tr ez8
            refine pk_gd (fun _ => ?_)
            refine pk_gd (fun _ => ?_)
            refine pk_gd (fun _ => ?_)
            refine pk_gd (fun _ => ?_)
            refine pk_gd (fun _ => ?_)
            refine pk_bw (x_X12_join (μ23.1 48 a1.toNatClampNeg) (μ23.1 30 r9.toNatClampNeg) (μ23.1 31 r9.toNatClampNeg) (μ23.1 30 r24.toNatClampNeg) (μ23.1 31 r24.toNatClampNeg) μ23) (fun μ25 ez9 => ?_)
            have z9 : Zm9 μ μ25 := z8.tr ez9
            refine pk_bd (x_X12_given μ25) (fun r28 μ27 ez10 => ?_)
            have z10 : Zm9 μ μ27 := z9.tr ez10
            exact pk_some z10
          · refine pk_ite (fun _ => ?_) (fun _ => ?_)
            · refine pk_gd (fun _ => ?_)
              refine pk_bw (x_X12_holdAt (μ8.1 48 a1.toNatClampNeg) r9 μ8) (fun μ16 ez11 => ?_)
              have z11 : Zm9 μ μ16 := z6.tr ez11
              refine pk_gd (fun _ => ?_)
              refine pk_gd (fun _ => ?_)
              refine pk_bvy (fun μ18 ez12 => ?_)
              have z12 : Zm9 μ μ18 := by rw [ez12]; exact z11.sF (px_a (by decide) (by decide))
              refine pk_bd (x_X12_given μ18) (fun r20 μ19 ez13 => ?_)
              have z13 : Zm9 μ μ19 := z12.tr ez13
              exact pk_some z13
            · refine pk_gd (fun _ => ?_)
              refine pk_gd (fun _ => ?_)
              refine pk_bw (x_X12_turn (v1 - (1 : Int32)) (μ8.1 30 r9.toNatClampNeg) (μ8.1 31 r9.toNatClampNeg) μ8) (fun μ12 ez14 => ?_)
              have z14 : Zm9 μ μ12 := z6.tr ez14
              refine pk_bd (x_X12_given μ12) (fun r15 μ14 ez15 => ?_)
              have z15 : Zm9 μ μ14 := z14.tr ez15
              exact pk_some z15
theorem x_X12_runItem (a1 : Int32) (μ : Mem) : pk (p_X12_runItem a1 μ) (fun q => Zm9 μ q.2) := by
  have z0 : Zm9 μ μ := Zm9.rf
  rw [p_X12_runItem_eq]
  refine pk_gd (fun _ => ?_)
  refine pk_bvy (fun v1 _ => ?_)
  refine pk_gd (fun _ => ?_)
  refine pk_ite (fun _ => ?_) (fun _ => ?_)
  · refine pk_bd (x_X12_valueOf v1 μ) (fun r5 μ4 ez1 => ?_)
    have z1 : Zm9 μ μ4 := z0.tr ez1
    refine pk_bd (x_X12_num r5 μ4) (fun r7 μ6 ez2 => ?_)
    have z2 : Zm9 μ μ6 := z1.tr ez2
    refine pk_gd (fun _ => ?_)
    refine pk_gd (fun _ => ?_)
    refine pk_ite (fun _ => ?_) (fun _ => ?_)
    · refine pk_gd (fun _ => ?_)
      exact pk_some z2
    · exact pk_some z2
  · refine pk_ite (fun _ => ?_) (fun _ => ?_)
    · refine pk_bd (x_X12_valueOf v1 μ) (fun r11 μ10 ez3 => ?_)
      have z3 : Zm9 μ μ10 := z0.tr ez3
      refine pk_bd (x_X12_num r11 μ10) (fun r13 μ12 ez4 => ?_)
      have z4 : Zm9 μ μ12 := z3.tr ez4
      refine pk_bw (x_X12_show r13 μ12) (fun μ14 ez5 => ?_)
      have z5 : Zm9 μ μ14 := z4.tr ez5
      exact pk_some z5
    · refine pk_ite (fun _ => ?_) (fun _ => ?_)
      · refine pk_bd (x_X12_itemValue a1 v1 μ) (fun r18 μ17 ez6 => ?_)
        have z6 : Zm9 μ μ17 := z0.tr ez6
        refine pk_bw (x_X12_hold a1 r18 μ17) (fun μ19 ez7 => ?_)
        have z7 : Zm9 μ μ19 := z6.tr ez7
        exact pk_some z7
      · refine pk_ite (fun _ => ?_) (fun _ => ?_)
        · refine pk_bd (x_X12_itemValue a1 v1 μ) (fun r23 μ22 ez8 => ?_)
          have z8 : Zm9 μ μ22 := z0.tr ez8
          refine pk_bw (x_X12_hold a1 r23 μ22) (fun μ24 ez9 => ?_)
          have z9 : Zm9 μ μ24 := z8.tr ez9
          exact pk_some z9
        · refine pk_ite (fun _ => ?_) (fun _ => ?_)
          · refine pk_bd (x_X12_itemValue a1 v1 μ) (fun r28 μ27 ez10 => ?_)
            have z10 : Zm9 μ μ27 := z0.tr ez10
            refine pk_bw (x_X12_hold a1 r28 μ27) (fun μ29 ez11 => ?_)
            have z11 : Zm9 μ μ29 := z10.tr ez11
            exact pk_some z11
          · refine pk_ite (fun _ => ?_) (fun _ => ?_)
            · refine pk_bd (x_X12_runCall a1 μ) (fun r33 μ32 ez12 => ?_)
              have z12 : Zm9 μ μ32 := z0.tr ez12
              exact pk_some z12
            · refine pk_ite (fun _ => ?_) (fun _ => ?_)
              · refine pk_bvy (fun μ35 ez13 => ?_)
                have z13 : Zm9 μ μ35 := by rw [ez13]; exact z0.sF (px_f (by decide))
                exact pk_some z13
              · refine pk_ite (fun _ => ?_) (fun _ => ?_)
                · refine pk_gd (fun _ => ?_)
                  refine pk_bd (x_X12_valueOf v1 μ) (fun r38 μ37 ez14 => ?_)
                  have z14 : Zm9 μ μ37 := z0.tr ez14
                  refine pk_bw (x_X12_hold (μ.1 48 a1.toNatClampNeg) r38 μ37) (fun μ39 ez15 => ?_)
                  have z15 : Zm9 μ μ39 := z14.tr ez15
                  refine pk_gd (fun _ => ?_)
                  refine pk_gd (fun _ => ?_)
                  exact pk_some z15
                · refine pk_ite (fun _ => ?_) (fun _ => ?_)
                  · refine pk_gd (fun _ => ?_)
                    refine pk_bd (x_X12_valueOf v1 μ) (fun r43 μ42 ez16 => ?_)
                    have z16 : Zm9 μ μ42 := z0.tr ez16
                    refine pk_bw (x_X12_hold (μ.1 48 a1.toNatClampNeg) r43 μ42) (fun μ44 ez17 => ?_)
                    have z17 : Zm9 μ μ44 := z16.tr ez17
                    refine pk_gd (fun _ => ?_)
                    refine pk_gd (fun _ => ?_)
                    exact pk_some z17
                  · refine pk_bd (x_X12_itemValue a1 v1 μ) (fun r47 μ46 ez18 => ?_)
                    have z18 : Zm9 μ μ46 := z0.tr ez18
                    refine pk_bw (x_X12_hold a1 r47 μ46) (fun μ48 ez19 => ?_)
                    have z19 : Zm9 μ μ48 := z18.tr ez19
                    exact pk_some z19
theorem x_X12_runResidue_b59 : ∀ (n : Nat) (a1 : Int32) (a2 : Int32) (μ : Mem), pk (p_X12_runResidue_b59  n a1 a2 μ) (fun q => Zm9 μ q) := by
  intro n
  induction n with
  | zero => intro a1 a2 μ r e; rw [p_X12_runResidue_b59_z] at e; cases e
  | succ n ih =>
    intro a1 a2 μ
    have z0 : Zm9 μ μ := Zm9.rf
    rw [p_X12_runResidue_b59_s]
    refine pk_ite (fun _ => ?_) (fun _ => ?_)
    · refine pk_bw (x_X12_endRun a1 μ) (fun μ14 ez1 => ?_)
      have z1 : Zm9 μ μ14 := z0.tr ez1
      exact pk_some z1
    · refine pk_ite (fun _ => ?_) (fun _ => ?_)
      · refine pk_gd (fun _ => ?_)
        refine pk_bvy (fun v19 _ => ?_)
        refine pk_gd (fun _ => ?_)
        refine pk_ite (fun _ => ?_) (fun _ => ?_)
        · refine pk_gd (fun _ => ?_)
          refine pk_bd (x_X12_valueOf (μ.1 64 v19.toNatClampNeg) μ) (fun r22 μ21 ez2 => ?_)
          have z2 : Zm9 μ μ21 := z0.tr ez2
          refine pk_gd (fun _ => ?_)
          refine pk_bvy (fun v23 _ => ?_)
          refine pk_bvy (fun μ24 ez3 => ?_)
          have z3 : Zm9 μ μ24 := by rw [ez3]; exact z2.sF (px_f (by decide))
          refine pk_bvy (fun μ25 ez4 => ?_)
          have z4 : Zm9 μ μ25 := by rw [ez4]; exact z3.sF (px_f (by decide))
          refine pk_ite (fun _ => ?_) (fun _ => ?_)
          · exact pk_mono (ih r22 v23 μ25) (fun _ hq => z4.tr hq)
          · refine pk_bw (x_X12_hold v23 r22 μ25) (fun μ27 ez5 => ?_)
            have z5 : Zm9 μ μ27 := z4.tr ez5
            refine pk_bvy (fun v29 _ => ?_)
            exact pk_mono (ih r22 v29 μ27) (fun _ hq => z5.tr hq)
        · refine pk_bd (x_X12_runItem a2 μ) (fun r31 μ30 ez6 => ?_)
          have z6 : Zm9 μ μ30 := z0.tr ez6
          exact pk_mono (ih a1 r31 μ30) (fun _ hq => z6.tr hq)
      · refine pk_bw (x_X12_endRun a1 μ) (fun μ17 ez7 => ?_)
        have z7 : Zm9 μ μ17 := z0.tr ez7
        exact pk_some z7
theorem x_X12_runResidue_b20 : ∀ (n : Nat) (a1 : Int32) (a2 : Int32) (μ : Mem), pk (p_X12_runResidue_b20  n a1 a2 μ) (fun q => Zm9 μ q) := by
  intro n
  induction n with
  | zero => intro a1 a2 μ r e; rw [p_X12_runResidue_b20_z] at e; cases e
  | succ n ih =>
    intro a1 a2 μ
    have z0 : Zm9 μ μ := Zm9.rf
    rw [p_X12_runResidue_b20_s]
    refine pk_ite (fun _ => ?_) (fun _ => ?_)
    · refine pk_bw (x_X12_enterVariant (0 : Int32) (-1 : Int32) μ) (fun μ10 ez1 => ?_)
      have z1 : Zm9 μ μ10 := z0.tr ez1
      refine pk_gd (fun _ => ?_)
      refine pk_bvy (fun v12 _ => ?_)
      exact pk_mono (x_X12_runResidue_b59 FUEL a1 v12 μ10) (fun _ hq => z1.tr hq)
    · refine pk_gd (fun _ => ?_)
      refine pk_gd (fun _ => ?_)
      refine pk_bvy (fun μ32 ez2 => ?_)
      have z2 : Zm9 μ μ32 := by rw [ez2]; exact z0.sF (px_a (by decide) (by decide))
      refine pk_bvy (fun v33 _ => ?_)
      exact pk_mono (ih a1 v33 μ32) (fun _ hq => z2.tr hq)
theorem x_X12_runResidue (μ : Mem) : pk (p_X12_runResidue μ) (fun q => Zm9 μ q) := by
  have z0 : Zm9 μ μ := Zm9.rf
  rw [p_X12_runResidue_eq]
  refine pk_bw (x_X12_beginRun μ) (fun μ1 ez1 => ?_)
  have z1 : Zm9 μ μ1 := z0.tr ez1
  refine pk_bd (x_X12_beginsCall μ1) (fun r4 μ3 ez2 => ?_)
  have z2 : Zm9 μ μ3 := z1.tr ez2
  refine pk_ite (fun _ => ?_) (fun _ => ?_)
  · refine pk_bw (x_X12_endRun (-1 : Int32) μ3) (fun μ6 ez3 => ?_)
    have z3 : Zm9 μ μ6 := z2.tr ez3
    exact pk_some z3
  · refine pk_bvy (fun μ8 ez4 => ?_)
    have z4 : Zm9 μ μ8 := by rw [ez4]; exact z2.sF (px_f (by decide))
    exact pk_mono (x_X12_runResidue_b20 FUEL (-1 : Int32) (0 : Int32) μ8) (fun _ hq => z4.tr hq)
theorem x_X12_run_b43 (a2 : Int32) (k0 : Int32) (μ : Mem) : pk (p_X12_run_b43 a2 k0 μ) (fun q => Zm9 μ q.2) := by
  have z0 : Zm9 μ μ := Zm9.rf
  rw [p_X12_run_b43_eq]
  refine pk_bvy (fun μ8 ez1 => ?_)
  have z1 : Zm9 μ μ8 := by rw [ez1]; exact z0.sF (px_f (by decide))
  refine pk_bw (x_X12_copy 43 (0 : Int32) (μ8.1 0 132) 79 (0 : Int32) μ8 ⟨by decide, by decide⟩) (fun μ9 ez2 => ?_)
  have z2 : Zm9 μ μ9 := z1.tr ez2
  refine pk_bw (x_X12_copy 44 (0 : Int32) (μ9.1 0 132) 80 (0 : Int32) μ9 ⟨by decide, by decide⟩) (fun μ11 ez3 => ?_)
  have z3 : Zm9 μ μ11 := z2.tr ez3
  refine pk_bw (x_X12_copy 42 (0 : Int32) (8 : Int32) 81 (0 : Int32) μ11 ⟨by decide, by decide⟩) (fun μ13 ez4 => ?_)
  have z4 : Zm9 μ μ13 := z3.tr ez4
  refine pk_ite (fun _ => ?_) (fun _ => ?_)
  · refine pk_bvy (fun μ16 ez5 => ?_)
    have z5 : Zm9 μ μ16 := by rw [ez5]; exact z4.sF (px_f (by decide))
    refine pk_bw (x_X12_copy 74 (0 : Int32) (μ16.1 0 122) 82 (0 : Int32) μ16 ⟨by decide, by decide⟩) (fun μ17 ez6 => ?_)
    have z6 : Zm9 μ μ17 := z5.tr ez6
    refine pk_bw (x_X12_copy 75 (0 : Int32) (μ17.1 0 122) 83 (0 : Int32) μ17 ⟨by decide, by decide⟩) (fun μ19 ez7 => ?_)
    have z7 : Zm9 μ μ19 := z6.tr ez7
    refine pk_gd (fun _ => ?_)
    exact pk_some z7
  · refine pk_gd (fun _ => ?_)
    exact pk_some z4
theorem x_X12_output (a1 : Int32) (a2 : Int32) (μ : Mem) : pk (p_X12_output a1 a2 μ) (fun q => Zm9 μ q.2) := by
  have z0 : Zm9 μ μ := Zm9.rf
  rw [p_X12_output_eq]
  refine pk_ite (fun _ => ?_) (fun _ => ?_)
  · exact pk_some z0
  · refine pk_ite (fun _ => ?_) (fun _ => ?_)
    · exact pk_some z0
    · refine pk_ite (fun _ => ?_) (fun _ => ?_)
      · refine pk_gd (fun _ => ?_)
        exact pk_some z0
      · refine pk_gd (fun _ => ?_)
        exact pk_some z0
theorem x_X12_place (a1 : Int32) (μ : Mem) : pk (p_X12_place a1 μ) (fun q => Zm9 μ q.2) := by
  have z0 : Zm9 μ μ := Zm9.rf
  rw [p_X12_place_eq]
  refine pk_ite (fun _ => ?_) (fun _ => ?_)
  · exact pk_some z0
  · refine pk_gd (fun _ => ?_)
    exact pk_some z0
theorem x_X12_areLike_b2 : ∀ (n : Nat) (a0 : Nat) (a1 : Nat) (a2 : Int32) (a3 : Int32) (μ : Mem), pk (p_X12_areLike_b2  n a0 a1 a2 a3 μ) (fun q => Zm9 μ q.2) := by
  intro n
  induction n with
  | zero => intro a0 a1 a2 a3 μ r e; rw [p_X12_areLike_b2_z] at e; cases e
  | succ n ih =>
    intro a0 a1 a2 a3 μ
    have z0 : Zm9 μ μ := Zm9.rf
    rw [p_X12_areLike_b2_s]
    refine pk_ite (fun _ => ?_) (fun _ => ?_)
    · exact pk_some z0
    · refine pk_gd (fun _ => ?_)
      refine pk_gd (fun _ => ?_)
      refine pk_ite (fun _ => ?_) (fun _ => ?_)
      · refine pk_bvy (fun v3 _ => ?_)
        exact pk_mono (ih a0 a1 a2 v3 μ) (fun _ hq => z0.tr hq)
      · exact pk_some z0
theorem x_X12_areLike (a0 : Nat) (a1 : Nat) (a2 : Int32) (μ : Mem) : pk (p_X12_areLike a0 a1 a2 μ) (fun q => Zm9 μ q.2) := by
  have z0 : Zm9 μ μ := Zm9.rf
  rw [p_X12_areLike_eq]
  exact pk_mono (x_X12_areLike_b2 FUEL a0 a1 a2 (0 : Int32) μ) (fun _ hq => z0.tr hq)
theorem x_X12_areLikeFrom_b3 : ∀ (n : Nat) (a1 : Nat) (a2 : Int32) (a3 : Nat) (a4 : Int32) (a5 : Int32) (μ : Mem), pk (p_X12_areLikeFrom_b3  n a1 a2 a3 a4 a5 μ) (fun q => Zm9 μ q.2) := by
  intro n
  induction n with
  | zero => intro a1 a2 a3 a4 a5 μ r e; rw [p_X12_areLikeFrom_b3_z] at e; cases e
  | succ n ih =>
    intro a1 a2 a3 a4 a5 μ
    have z0 : Zm9 μ μ := Zm9.rf
    rw [p_X12_areLikeFrom_b3_s]
    refine pk_ite (fun _ => ?_) (fun _ => ?_)
    · exact pk_some z0
    · refine pk_gd (fun _ => ?_)
      refine pk_gd (fun _ => ?_)
      refine pk_ite (fun _ => ?_) (fun _ => ?_)
      · refine pk_bvy (fun v3 _ => ?_)
        exact pk_mono (ih a1 a2 a3 a4 v3 μ) (fun _ hq => z0.tr hq)
      · exact pk_some z0
theorem x_X12_areLikeFrom (a1 : Nat) (a2 : Int32) (a3 : Nat) (a4 : Int32) (μ : Mem) : pk (p_X12_areLikeFrom a1 a2 a3 a4 μ) (fun q => Zm9 μ q.2) := by
  have z0 : Zm9 μ μ := Zm9.rf
  rw [p_X12_areLikeFrom_eq]
  exact pk_mono (x_X12_areLikeFrom_b3 FUEL a1 a2 a3 a4 (0 : Int32) μ) (fun _ hq => z0.tr hq)
theorem x_X12_agree_b216 (a4 : Int32) (k0 : Int32) (μ : Mem) : pk (p_X12_agree_b216 a4 k0 μ) (fun q => Zm9 μ q.2) := by
  have z0 : Zm9 μ μ := Zm9.rf
  rw [p_X12_agree_b216_eq]
  refine pk_ite (fun _ => ?_) (fun _ => ?_)
  · exact pk_some z0
  · refine pk_bd (x_X12_areLikeFrom 74 a4 84 (60 : Int32) μ) (fun r28 μ27 ez1 => ?_)
    have z1 : Zm9 μ μ27 := z0.tr ez1
    refine pk_ite (fun _ => ?_) (fun _ => ?_)
    · exact pk_some z1
    · refine pk_bd (x_X12_areLikeFrom 75 a4 85 (60 : Int32) μ27) (fun r31 μ30 ez2 => ?_)
      have z2 : Zm9 μ μ30 := z1.tr ez2
      refine pk_ite (fun _ => ?_) (fun _ => ?_)
      · exact pk_some z2
      · exact pk_some z2
theorem x_X12_agree_b215 (a4 : Int32) (μ : Mem) : pk (p_X12_agree_b215 a4 μ) (fun q => Zm9 μ q.2) := by
  have z0 : Zm9 μ μ := Zm9.rf
  rw [p_X12_agree_b215_eq]
  exact pk_mono (x_X12_agree_b216 a4 (0 : Int32) μ) (fun _ hq => z0.tr hq)
theorem x_X12_agree_b40 (k0 : Int32) (μ : Mem) : pk (p_X12_agree_b40 k0 μ) (fun q => Zm9 μ q.2) := by
  have z0 : Zm9 μ μ := Zm9.rf
  rw [p_X12_agree_b40_eq]
  refine pk_bw (x_X12_copy 43 (0 : Int32) k0 84 (0 : Int32) μ ⟨by decide, by decide⟩) (fun μ10 ez1 => ?_)
  have z1 : Zm9 μ μ10 := z0.tr ez1
  refine pk_bw (x_X12_copy 44 (0 : Int32) k0 85 (0 : Int32) μ10 ⟨by decide, by decide⟩) (fun μ12 ez2 => ?_)
  have z2 : Zm9 μ μ12 := z1.tr ez2
  refine pk_bw (x_X12_copy 74 (0 : Int32) (μ12.1 0 122) 84 (60 : Int32) μ12 ⟨by decide, by decide⟩) (fun μ14 ez3 => ?_)
  have z3 : Zm9 μ μ14 := z2.tr ez3
  refine pk_bw (x_X12_copy 75 (0 : Int32) (μ14.1 0 122) 85 (60 : Int32) μ14 ⟨by decide, by decide⟩) (fun μ16 ez4 => ?_)
  have z4 : Zm9 μ μ16 := z3.tr ez4
  refine pk_bw (x_X12_copy 42 (0 : Int32) (8 : Int32) 86 (0 : Int32) μ16 ⟨by decide, by decide⟩) (fun μ18 ez5 => ?_)
  have z5 : Zm9 μ μ18 := z4.tr ez5
  refine pk_bvy (fun v20 _ => ?_)
  refine pk_bvy (fun v21 _ => ?_)
  refine pk_bvy (fun v22 _ => ?_)
  refine pk_bw (x_X12_runResidue μ18) (fun μ23 ez6 => ?_)
  have z6 : Zm9 μ μ23 := z5.tr ez6
  refine pk_ite (fun _ => ?_) (fun _ => ?_)
  · refine pk_ite (fun _ => ?_) (fun _ => ?_)
    · refine pk_ite (fun _ => ?_) (fun _ => ?_)
      · refine pk_bd (x_X12_areLike 43 84 k0 μ23) (fun r36 μ35 ez7 => ?_)
        have z7 : Zm9 μ μ35 := z6.tr ez7
        refine pk_ite (fun _ => ?_) (fun _ => ?_)
        · exact pk_mono (x_X12_agree_b215 v22 μ35) (fun _ hq => z7.tr hq)
        · refine pk_bd (x_X12_areLike 44 85 k0 μ35) (fun r39 μ38 ez8 => ?_)
          have z8 : Zm9 μ μ38 := z7.tr ez8
          refine pk_ite (fun _ => ?_) (fun _ => ?_)
          · exact pk_mono (x_X12_agree_b215 v22 μ38) (fun _ hq => z8.tr hq)
          · refine pk_bd (x_X12_areLike 42 86 (8 : Int32) μ38) (fun r42 μ41 ez9 => ?_)
            have z9 : Zm9 μ μ41 := z8.tr ez9
            refine pk_ite (fun _ => ?_) (fun _ => ?_)
            · exact pk_mono (x_X12_agree_b215 v22 μ41) (fun _ hq => z9.tr hq)
            · exact pk_mono (x_X12_agree_b216 v22 (1 : Int32) μ41) (fun _ hq => z9.tr hq)
      · exact pk_mono (x_X12_agree_b215 v22 μ23) (fun _ hq => z6.tr hq)
    · exact pk_mono (x_X12_agree_b215 v22 μ23) (fun _ hq => z6.tr hq)
  · exact pk_mono (x_X12_agree_b215 v22 μ23) (fun _ hq => z6.tr hq)
theorem x_X12_put (a1 : Int32) (μ : Mem) : pk (p_X12_put a1 μ) (fun q => Zm9 μ q) := by
  have z0 : Zm9 μ μ := Zm9.rf
  rw [p_X12_put_eq]
  refine pk_gd (fun _ => ?_)
  refine pk_bvy (fun μ1 ez1 => ?_)
  have z1 : Zm9 μ μ1 := by rw [ez1]; exact z0.sF (px_a (by decide) (by decide))
  refine pk_bvy (fun μ2 ez2 => ?_)
  have z2 : Zm9 μ μ2 := by rw [ez2]; exact z1.sF (px_f (by decide))
  exact pk_some z2
theorem x_X12_putNumber_b47 : ∀ (n : Nat) (a2 : Int64) (a6 : Int64) (μ : Mem), pk (p_X12_putNumber_b47  n a2 a6 μ) (fun q => Zm9 μ q) := by
  intro n
  induction n with
  | zero => intro a2 a6 μ r e; rw [p_X12_putNumber_b47_z] at e; cases e
  | succ n ih =>
    intro a2 a6 μ
    have z0 : Zm9 μ μ := Zm9.rf
    rw [p_X12_putNumber_b47_s]
    refine pk_ite (fun _ => ?_) (fun _ => ?_)
    · exact pk_some z0
    · refine pk_gd (fun _ => ?_)
      refine pk_bw (x_X12_put (((48 : Int64) + ((a2 / a6) - (a2 / a6) / (10 : Int64) * (10 : Int64))).toInt32) μ) (fun μ7 ez1 => ?_)
      have z1 : Zm9 μ μ7 := z0.tr ez1
      refine pk_bvy (fun v9 _ => ?_)
      exact pk_mono (ih a2 v9 μ7) (fun _ hq => z1.tr hq)
theorem x_X12_putNumber_b21 : ∀ (n : Nat) (a2 : Int64) (a4 : Int64) (μ : Mem), pk (p_X12_putNumber_b21  n a2 a4 μ) (fun q => Zm9 μ q) := by
  intro n
  induction n with
  | zero => intro a2 a4 μ r e; rw [p_X12_putNumber_b21_z] at e; cases e
  | succ n ih =>
    intro a2 a4 μ
    have z0 : Zm9 μ μ := Zm9.rf
    rw [p_X12_putNumber_b21_s]
    refine pk_gd (fun _ => ?_)
    refine pk_ite (fun _ => ?_) (fun _ => ?_)
    · exact pk_mono (x_X12_putNumber_b47 FUEL a2 a4 μ) (fun _ hq => z0.tr hq)
    · refine pk_bvy (fun v10 _ => ?_)
      exact pk_mono (ih a2 v10 μ) (fun _ hq => z0.tr hq)
theorem x_X12_putNumber_b18 (a2 : Int64) (μ : Mem) : pk (p_X12_putNumber_b18 a2 μ) (fun q => Zm9 μ q) := by
  have z0 : Zm9 μ μ := Zm9.rf
  rw [p_X12_putNumber_b18_eq]
  exact pk_mono (x_X12_putNumber_b21 FUEL a2 (1 : Int64) μ) (fun _ hq => z0.tr hq)
theorem x_X12_putNumber (a1 : Int32) (μ : Mem) : pk (p_X12_putNumber a1 μ) (fun q => Zm9 μ q) := by
  have z0 : Zm9 μ μ := Zm9.rf
  rw [p_X12_putNumber_eq]
  refine pk_bvy (fun v1 _ => ?_)
  refine pk_ite (fun _ => ?_) (fun _ => ?_)
  · exact pk_mono (x_X12_putNumber_b18 v1 μ) (fun _ hq => z0.tr hq)
  · refine pk_bw (x_X12_put (45 : Int32) μ) (fun μ11 ez1 => ?_)
    have z1 : Zm9 μ μ11 := z0.tr ez1
    refine pk_bvy (fun v13 _ => ?_)
    exact pk_mono (x_X12_putNumber_b18 v13 μ11) (fun _ hq => z1.tr hq)
theorem x_X12_putOne (a1 : Int32) (a2 : Int32) (μ : Mem) : pk (p_X12_putOne a1 a2 μ) (fun q => Zm9 μ q) := by
  have z0 : Zm9 μ μ := Zm9.rf
  rw [p_X12_putOne_eq]
  refine pk_ite (fun _ => ?_) (fun _ => ?_)
  · refine pk_bw (x_X12_putNumber a2 μ) (fun μ2 ez1 => ?_)
    have z1 : Zm9 μ μ2 := z0.tr ez1
    exact pk_some z1
  · refine pk_ite (fun _ => ?_) (fun _ => ?_)
    · refine pk_bw (x_X12_put (102 : Int32) μ) (fun μ9 ez2 => ?_)
      have z2 : Zm9 μ μ9 := z0.tr ez2
      refine pk_bw (x_X12_putNumber a2 μ9) (fun μ11 ez3 => ?_)
      have z3 : Zm9 μ μ11 := z2.tr ez3
      exact pk_some z3
    · refine pk_bw (x_X12_put (114 : Int32) μ) (fun μ5 ez4 => ?_)
      have z4 : Zm9 μ μ5 := z0.tr ez4
      refine pk_bw (x_X12_putNumber a2 μ5) (fun μ7 ez5 => ?_)
      have z5 : Zm9 μ μ7 := z4.tr ez5
      exact pk_some z5
theorem x_X12_putParts_b149 (K6 : Nat → Nat → Int32 → Int32 → Int32 → Int32 → Mem → Option Mem) (hK6 : ∀ (y0 : Nat) (y1 : Nat) (y2 : Int32) (y3 : Int32) (y4 : Int32) (y5 : Int32) (y6 : Mem), pk (K6 y0 y1 y2 y3 y4 y5 y6) (fun q => Zm9 y6 q)) (a1 : Nat) (a2 : Nat) (a3 : Int32) (a4 : Int32) (a5 : Int32) (a6 : Int32) (μ : Mem) : pk (p_X12_putParts_b149 K6 a1 a2 a3 a4 a5 a6 μ) (fun q => Zm9 μ q) := by
  have z0 : Zm9 μ μ := Zm9.rf
  rw [p_X12_putParts_b149_eq]
  refine pk_bvy (fun v10 _ => ?_)
  exact pk_mono (hK6 a1 a2 a3 a4 a5 v10 μ) (fun _ hq => z0.tr hq)
theorem x_X12_putParts_b138 (K6 : Nat → Nat → Int32 → Int32 → Int32 → Int32 → Mem → Option Mem) (hK6 : ∀ (y0 : Nat) (y1 : Nat) (y2 : Int32) (y3 : Int32) (y4 : Int32) (y5 : Int32) (y6 : Mem), pk (K6 y0 y1 y2 y3 y4 y5 y6) (fun q => Zm9 y6 q)) (a1 : Nat) (a2 : Nat) (a3 : Int32) (a4 : Int32) (a5 : Int32) (a6 : Int32) (a7 : Int32) (μ : Mem) : pk (p_X12_putParts_b138 K6 a1 a2 a3 a4 a5 a6 a7 μ) (fun q => Zm9 μ q) := by
  have z0 : Zm9 μ μ := Zm9.rf
  rw [p_X12_putParts_b138_eq]
  refine pk_ite (fun _ => ?_) (fun _ => ?_)
  · exact pk_mono (x_X12_putParts_b149 K6 hK6 a1 a2 a3 a4 a5 a6 μ) (fun _ hq => z0.tr hq)
  · refine pk_bw (x_X12_put (44 : Int32) μ) (fun μ11 ez1 => ?_)
    have z1 : Zm9 μ μ11 := z0.tr ez1
    exact pk_mono (x_X12_putParts_b149 K6 hK6 a1 a2 a3 a4 a5 a6 μ11) (fun _ hq => z1.tr hq)
theorem x_X12_putParts_b120 (K6 : Nat → Nat → Int32 → Int32 → Int32 → Int32 → Mem → Option Mem) (hK6 : ∀ (y0 : Nat) (y1 : Nat) (y2 : Int32) (y3 : Int32) (y4 : Int32) (y5 : Int32) (y6 : Mem), pk (K6 y0 y1 y2 y3 y4 y5 y6) (fun q => Zm9 y6 q)) (a1 : Nat) (a2 : Nat) (a3 : Int32) (a4 : Int32) (a5 : Int32) (a6 : Int32) (a7 : Int32) (μ : Mem) : pk (p_X12_putParts_b120 K6 a1 a2 a3 a4 a5 a6 a7 μ) (fun q => Zm9 μ q) := by
  have z0 : Zm9 μ μ := Zm9.rf
  rw [p_X12_putParts_b120_eq]
  refine pk_ite (fun _ => ?_) (fun _ => ?_)
  · exact pk_mono (x_X12_putParts_b138 K6 hK6 a1 a2 a3 a4 a5 a6 a7 μ) (fun _ hq => z0.tr hq)
  · refine pk_bvy (fun v13 _ => ?_)
    refine pk_gd (fun _ => ?_)
    refine pk_gd (fun _ => ?_)
    refine pk_bvy (fun μ14 ez1 => ?_)
    have z1 : Zm9 μ μ14 := by rw [ez1]; exact z0.sF (px_a (by decide) (by decide))
    exact pk_mono (x_X12_putParts_b138 K6 hK6 a1 a2 a3 a4 a5 a6 a7 μ14) (fun _ hq => z1.tr hq)
theorem x_X12_putParts_b90 (K6 : Nat → Nat → Int32 → Int32 → Int32 → Int32 → Mem → Option Mem) (hK6 : ∀ (y0 : Nat) (y1 : Nat) (y2 : Int32) (y3 : Int32) (y4 : Int32) (y5 : Int32) (y6 : Mem), pk (K6 y0 y1 y2 y3 y4 y5 y6) (fun q => Zm9 y6 q)) : ∀ (n : Nat) (a1 : Nat) (a2 : Nat) (a3 : Int32) (a4 : Int32) (a5 : Int32) (a6 : Int32) (a7 : Int32) (μ : Mem), pk (p_X12_putParts_b90 K6 n a1 a2 a3 a4 a5 a6 a7 μ) (fun q => Zm9 μ q) := by
  intro n
  induction n with
  | zero => intro a1 a2 a3 a4 a5 a6 a7 μ r e; rw [p_X12_putParts_b90_z] at e; cases e
  | succ n ih =>
    intro a1 a2 a3 a4 a5 a6 a7 μ
    have z0 : Zm9 μ μ := Zm9.rf
    rw [p_X12_putParts_b90_s]
    refine pk_ite (fun _ => ?_) (fun _ => ?_)
    · exact pk_mono (x_X12_putParts_b120 K6 hK6 a1 a2 a3 a4 a5 a6 a7 μ) (fun _ hq => z0.tr hq)
    · refine pk_gd (fun _ => ?_)
      refine pk_ite (fun _ => ?_) (fun _ => ?_)
      · refine pk_bw (x_X12_put (93 : Int32) μ) (fun μ16 ez1 => ?_)
        have z1 : Zm9 μ μ16 := z0.tr ez1
        refine pk_bvy (fun v18 _ => ?_)
        exact pk_mono (ih a1 a2 a3 a4 v18 a6 a7 μ16) (fun _ hq => z1.tr hq)
      · exact pk_mono (x_X12_putParts_b120 K6 hK6 a1 a2 a3 a4 a5 a6 a7 μ) (fun _ hq => z0.tr hq)
theorem x_X12_putParts_b88 (K6 : Nat → Nat → Int32 → Int32 → Int32 → Int32 → Mem → Option Mem) (hK6 : ∀ (y0 : Nat) (y1 : Nat) (y2 : Int32) (y3 : Int32) (y4 : Int32) (y5 : Int32) (y6 : Mem), pk (K6 y0 y1 y2 y3 y4 y5 y6) (fun q => Zm9 y6 q)) (a1 : Nat) (a2 : Nat) (a3 : Int32) (a4 : Int32) (a5 : Int32) (a6 : Int32) (k0 : Int32) (μ : Mem) : pk (p_X12_putParts_b88 K6 a1 a2 a3 a4 a5 a6 k0 μ) (fun q => Zm9 μ q) := by
  have z0 : Zm9 μ μ := Zm9.rf
  rw [p_X12_putParts_b88_eq]
  exact pk_mono (x_X12_putParts_b90 K6 hK6 FUEL a1 a2 a3 a4 a5 a6 k0 μ) (fun _ hq => z0.tr hq)
theorem x_X12_putParts_b72 (K6 : Nat → Nat → Int32 → Int32 → Int32 → Int32 → Mem → Option Mem) (hK6 : ∀ (y0 : Nat) (y1 : Nat) (y2 : Int32) (y3 : Int32) (y4 : Int32) (y5 : Int32) (y6 : Mem), pk (K6 y0 y1 y2 y3 y4 y5 y6) (fun q => Zm9 y6 q)) (a1 : Nat) (a2 : Nat) (a3 : Int32) (a4 : Int32) (a5 : Int32) (a6 : Int32) (μ : Mem) : pk (p_X12_putParts_b72 K6 a1 a2 a3 a4 a5 a6 μ) (fun q => Zm9 μ q) := by
  have z0 : Zm9 μ μ := Zm9.rf
  rw [p_X12_putParts_b72_eq]
  refine pk_ite (fun _ => ?_) (fun _ => ?_)
  · exact pk_mono (x_X12_putParts_b88 K6 hK6 a1 a2 a3 a4 a5 a6 (0 : Int32) μ) (fun _ hq => z0.tr hq)
  · exact pk_mono (x_X12_putParts_b88 K6 hK6 a1 a2 a3 a4 a5 a6 (1 : Int32) μ) (fun _ hq => z0.tr hq)
theorem x_X12_putParts_b6 : ∀ (n : Nat) (a1 : Nat) (a2 : Nat) (a3 : Int32) (a4 : Int32) (a5 : Int32) (a6 : Int32) (μ : Mem), pk (p_X12_putParts_b6  n a1 a2 a3 a4 a5 a6 μ) (fun q => Zm9 μ q) := by
  intro n
  induction n with
  | zero => intro a1 a2 a3 a4 a5 a6 μ r e; rw [p_X12_putParts_b6_z] at e; cases e
  | succ n ih =>
    intro a1 a2 a3 a4 a5 a6 μ
    have z0 : Zm9 μ μ := Zm9.rf
    rw [p_X12_putParts_b6_s]
    refine pk_ite (fun _ => ?_) (fun _ => ?_)
    · exact pk_some z0
    · refine pk_gd (fun _ => ?_)
      refine pk_ite (fun _ => ?_) (fun _ => ?_)
      · refine pk_bw (x_X12_put (91 : Int32) μ) (fun μ21 ez1 => ?_)
        have z1 : Zm9 μ μ21 := z0.tr ez1
        refine pk_gd (fun _ => ?_)
        refine pk_bvy (fun μ23 ez2 => ?_)
        have z2 : Zm9 μ μ23 := by rw [ez2]; exact z1.sF (px_a (by decide) (by decide))
        refine pk_bvy (fun v24 _ => ?_)
        exact pk_mono (x_X12_putParts_b149 (p_X12_putParts_b6  n) ih a1 a2 a3 a4 v24 a6 μ23) (fun _ hq => z2.tr hq)
      · refine pk_gd (fun _ => ?_)
        refine pk_ite (fun _ => ?_) (fun _ => ?_)
        · refine pk_bw (x_X12_put (42 : Int32) μ) (fun μ19 ez3 => ?_)
          have z3 : Zm9 μ μ19 := z0.tr ez3
          exact pk_mono (x_X12_putParts_b72 (p_X12_putParts_b6  n) ih a1 a2 a3 a4 a5 a6 μ19) (fun _ hq => z3.tr hq)
        · refine pk_gd (fun _ => ?_)
          refine pk_gd (fun _ => ?_)
          refine pk_bw (x_X12_putOne (μ.1 a1 a6.toNatClampNeg) (μ.1 a2 a6.toNatClampNeg) μ) (fun μ4 ez4 => ?_)
          have z4 : Zm9 μ μ4 := z0.tr ez4
          exact pk_mono (x_X12_putParts_b72 (p_X12_putParts_b6  n) ih a1 a2 a3 a4 a5 a6 μ4) (fun _ hq => z4.tr hq)
theorem x_X12_putParts (a1 : Nat) (a2 : Nat) (a3 : Int32) (a4 : Int32) (μ : Mem) : pk (p_X12_putParts a1 a2 a3 a4 μ) (fun q => Zm9 μ q) := by
  have z0 : Zm9 μ μ := Zm9.rf
  rw [p_X12_putParts_eq]
  exact pk_mono (x_X12_putParts_b6 FUEL a1 a2 a3 a4 (0 : Int32) a3 μ) (fun _ hq => z0.tr hq)
theorem x_X12_value (μ : Mem) : pk (p_X12_value μ) (fun q => Zm9 μ q.2) := by
  have z0 : Zm9 μ μ := Zm9.rf
  rw [p_X12_value_eq]
  refine pk_ite (fun _ => ?_) (fun _ => ?_)
  · exact pk_some z0
  · refine pk_bvy (fun μ2 ez1 => ?_)
    have z1 : Zm9 μ μ2 := by rw [ez1]; exact z0.sF (px_f (by decide))
    refine pk_bw (x_X12_putParts 82 83 (0 : Int32) (μ2.1 0 133) μ2) (fun μ3 ez2 => ?_)
    have z2 : Zm9 μ μ3 := z1.tr ez2
    exact pk_some z2
theorem x_X12_putOperand (a1 : Int32) (μ : Mem) : pk (p_X12_putOperand a1 μ) (fun q => Zm9 μ q) := by
  have z0 : Zm9 μ μ := Zm9.rf
  rw [p_X12_putOperand_eq]
  refine pk_gd (fun _ => ?_)
  refine pk_gd (fun _ => ?_)
  refine pk_bw (x_X12_putOne (μ.1 53 a1.toNatClampNeg) (μ.1 54 a1.toNatClampNeg) μ) (fun μ1 ez1 => ?_)
  have z1 : Zm9 μ μ1 := z0.tr ez1
  exact pk_some z1
theorem x_X12_putList_b64 (K42 : Int32 → Int32 → Int32 → Int32 → Mem → Option Mem) (hK42 : ∀ (y0 : Int32) (y1 : Int32) (y2 : Int32) (y3 : Int32) (y4 : Mem), pk (K42 y0 y1 y2 y3 y4) (fun q => Zm9 y4 q)) (a1 : Int32) (a2 : Int32) (a3 : Int32) (a4 : Int32) (μ : Mem) : pk (p_X12_putList_b64 K42 a1 a2 a3 a4 μ) (fun q => Zm9 μ q) := by
  have z0 : Zm9 μ μ := Zm9.rf
  rw [p_X12_putList_b64_eq]
  refine pk_bw (x_X12_putOperand (a3 + a4) μ) (fun μ12 ez1 => ?_)
  have z1 : Zm9 μ μ12 := z0.tr ez1
  refine pk_bvy (fun v14 _ => ?_)
  exact pk_mono (hK42 a1 a2 a3 v14 μ12) (fun _ hq => z1.tr hq)
theorem x_X12_putList_b42 : ∀ (n : Nat) (a1 : Int32) (a2 : Int32) (a3 : Int32) (a4 : Int32) (μ : Mem), pk (p_X12_putList_b42  n a1 a2 a3 a4 μ) (fun q => Zm9 μ q) := by
  intro n
  induction n with
  | zero => intro a1 a2 a3 a4 μ r e; rw [p_X12_putList_b42_z] at e; cases e
  | succ n ih =>
    intro a1 a2 a3 a4 μ
    have z0 : Zm9 μ μ := Zm9.rf
    rw [p_X12_putList_b42_s]
    refine pk_gd (fun _ => ?_)
    refine pk_ite (fun _ => ?_) (fun _ => ?_)
    · refine pk_ite (fun _ => ?_) (fun _ => ?_)
      · refine pk_bw (x_X12_put (93 : Int32) μ) (fun μ9 ez1 => ?_)
        have z1 : Zm9 μ μ9 := z0.tr ez1
        exact pk_some z1
      · refine pk_bw (x_X12_put (41 : Int32) μ) (fun μ7 ez2 => ?_)
        have z2 : Zm9 μ μ7 := z0.tr ez2
        exact pk_some z2
    · refine pk_ite (fun _ => ?_) (fun _ => ?_)
      · exact pk_mono (x_X12_putList_b64 (p_X12_putList_b42  n) ih a1 a2 a3 a4 μ) (fun _ hq => z0.tr hq)
      · refine pk_bw (x_X12_put (44 : Int32) μ) (fun μ15 ez3 => ?_)
        have z3 : Zm9 μ μ15 := z0.tr ez3
        exact pk_mono (x_X12_putList_b64 (p_X12_putList_b42  n) ih a1 a2 a3 a4 μ15) (fun _ hq => z3.tr hq)
theorem x_X12_putList_b36 (a1 : Int32) (a2 : Int32) (a3 : Int32) (k0 : Int32) (μ : Mem) : pk (p_X12_putList_b36 a1 a2 a3 k0 μ) (fun q => Zm9 μ q) := by
  have z0 : Zm9 μ μ := Zm9.rf
  rw [p_X12_putList_b36_eq]
  refine pk_bw (x_X12_put k0 μ) (fun μ3 ez1 => ?_)
  have z1 : Zm9 μ μ3 := z0.tr ez1
  exact pk_mono (x_X12_putList_b42 FUEL a1 a2 a3 (0 : Int32) μ3) (fun _ hq => z1.tr hq)
theorem x_X12_putList_b22 (a1 : Int32) (a2 : Int32) (a3 : Int32) (μ : Mem) : pk (p_X12_putList_b22 a1 a2 a3 μ) (fun q => Zm9 μ q) := by
  have z0 : Zm9 μ μ := Zm9.rf
  rw [p_X12_putList_b22_eq]
  refine pk_ite (fun _ => ?_) (fun _ => ?_)
  · exact pk_mono (x_X12_putList_b36 a1 a2 a3 (91 : Int32) μ) (fun _ hq => z0.tr hq)
  · exact pk_mono (x_X12_putList_b36 a1 a2 a3 (40 : Int32) μ) (fun _ hq => z0.tr hq)
theorem x_X12_putList (a1 : Int32) (a2 : Int32) (a3 : Int32) (μ : Mem) : pk (p_X12_putList a1 a2 a3 μ) (fun q => Zm9 μ q) := by
  have z0 : Zm9 μ μ := Zm9.rf
  rw [p_X12_putList_eq]
  refine pk_ite (fun _ => ?_) (fun _ => ?_)
  · refine pk_bw (x_X12_put (99 : Int32) μ) (fun μ17 ez1 => ?_)
    have z1 : Zm9 μ μ17 := z0.tr ez1
    refine pk_gd (fun _ => ?_)
    refine pk_bw (x_X12_putNumber (μ17.1 48 a1.toNatClampNeg) μ17) (fun μ19 ez2 => ?_)
    have z2 : Zm9 μ μ19 := z1.tr ez2
    exact pk_mono (x_X12_putList_b22 a1 a2 a3 μ19) (fun _ hq => z2.tr hq)
  · exact pk_mono (x_X12_putList_b22 a1 a2 a3 μ) (fun _ hq => z0.tr hq)
theorem x_X12_putRest_b105 (a1 : Int32) (a2 : Int32) (a3 : Int32) (k0 : Int32) (μ : Mem) : pk (p_X12_putRest_b105 a1 a2 a3 k0 μ) (fun q => Zm9 μ q) := by
  have z0 : Zm9 μ μ := Zm9.rf
  rw [p_X12_putRest_b105_eq]
  refine pk_bw (x_X12_put k0 μ) (fun μ11 ez1 => ?_)
  have z1 : Zm9 μ μ11 := z0.tr ez1
  refine pk_gd (fun _ => ?_)
  refine pk_bw (x_X12_put ((48 : Int32) + (μ11.1 48 a1.toNatClampNeg)) μ11) (fun μ13 ez2 => ?_)
  have z2 : Zm9 μ μ13 := z1.tr ez2
  refine pk_ite (fun _ => ?_) (fun _ => ?_)
  · refine pk_bw (x_X12_putOperand a3 μ13) (fun μ16 ez3 => ?_)
    have z3 : Zm9 μ μ16 := z2.tr ez3
    exact pk_some z3
  · exact pk_some z2
theorem x_X12_putRest (a1 : Int32) (a2 : Int32) (a3 : Int32) (μ : Mem) : pk (p_X12_putRest a1 a2 a3 μ) (fun q => Zm9 μ q) := by
  have z0 : Zm9 μ μ := Zm9.rf
  rw [p_X12_putRest_eq]
  refine pk_ite (fun _ => ?_) (fun _ => ?_)
  · refine pk_bw (x_X12_put (40 : Int32) μ) (fun μ26 ez1 => ?_)
    have z1 : Zm9 μ μ26 := z0.tr ez1
    refine pk_bw (x_X12_putOperand a3 μ26) (fun μ28 ez2 => ?_)
    have z2 : Zm9 μ μ28 := z1.tr ez2
    refine pk_gd (fun _ => ?_)
    refine pk_bw (x_X12_put (μ28.1 48 a1.toNatClampNeg) μ28) (fun μ30 ez3 => ?_)
    have z3 : Zm9 μ μ30 := z2.tr ez3
    refine pk_bw (x_X12_putOperand (a3 + (1 : Int32)) μ30) (fun μ32 ez4 => ?_)
    have z4 : Zm9 μ μ32 := z3.tr ez4
    refine pk_bw (x_X12_put (41 : Int32) μ32) (fun μ34 ez5 => ?_)
    have z5 : Zm9 μ μ34 := z4.tr ez5
    exact pk_some z5
  · refine pk_ite (fun _ => ?_) (fun _ => ?_)
    · refine pk_ite (fun _ => ?_) (fun _ => ?_)
      · refine pk_bw (x_X12_put (33 : Int32) μ) (fun μ18 ez6 => ?_)
        have z6 : Zm9 μ μ18 := z0.tr ez6
        refine pk_bw (x_X12_putOperand a3 μ18) (fun μ20 ez7 => ?_)
        have z7 : Zm9 μ μ20 := z6.tr ez7
        exact pk_some z7
      · refine pk_ite (fun _ => ?_) (fun _ => ?_)
        · refine pk_ite (fun _ => ?_) (fun _ => ?_)
          · refine pk_bw (x_X12_put (45 : Int32) μ) (fun μ8 ez8 => ?_)
            have z8 : Zm9 μ μ8 := z0.tr ez8
            exact pk_some z8
          · refine pk_bw (x_X12_putList a1 a2 a3 μ) (fun μ6 ez9 => ?_)
            have z9 : Zm9 μ μ6 := z0.tr ez9
            exact pk_some z9
        · refine pk_ite (fun _ => ?_) (fun _ => ?_)
          · exact pk_mono (x_X12_putRest_b105 a1 a2 a3 (38 : Int32) μ) (fun _ hq => z0.tr hq)
          · exact pk_mono (x_X12_putRest_b105 a1 a2 a3 (95 : Int32) μ) (fun _ hq => z0.tr hq)
    · refine pk_bw (x_X12_put (s_X12_signOfOne (a2 - (1 : Int32))) μ) (fun μ22 ez10 => ?_)
      have z10 : Zm9 μ μ22 := z0.tr ez10
      refine pk_bw (x_X12_putOperand a3 μ22) (fun μ24 ez11 => ?_)
      have z11 : Zm9 μ μ24 := z10.tr ez11
      exact pk_some z11
theorem x_X12_putItem_b26 (a2 : Int32) (a3 : Int32) (μ : Mem) : pk (p_X12_putItem_b26 a2 a3 μ) (fun q => Zm9 μ q) := by
  have z0 : Zm9 μ μ := Zm9.rf
  rw [p_X12_putItem_b26_eq]
  refine pk_bw (x_X12_putOperand a3 μ) (fun μ4 ez1 => ?_)
  have z1 : Zm9 μ μ4 := z0.tr ez1
  refine pk_bw (x_X12_put (125 : Int32) μ4) (fun μ6 ez2 => ?_)
  have z2 : Zm9 μ μ6 := z1.tr ez2
  refine pk_ite (fun _ => ?_) (fun _ => ?_)
  · refine pk_bw (x_X12_put (123 : Int32) μ6) (fun μ11 ez3 => ?_)
    have z3 : Zm9 μ μ11 := z2.tr ez3
    exact pk_some z3
  · refine pk_bw (x_X12_put (59 : Int32) μ6) (fun μ9 ez4 => ?_)
    have z4 : Zm9 μ μ9 := z2.tr ez4
    exact pk_some z4
theorem x_X12_putItem_b78 (a1 : Int32) (a2 : Int32) (a3 : Int32) (μ : Mem) : pk (p_X12_putItem_b78 a1 a2 a3 μ) (fun q => Zm9 μ q) := by
  have z0 : Zm9 μ μ := Zm9.rf
  rw [p_X12_putItem_b78_eq]
  refine pk_ite (fun _ => ?_) (fun _ => ?_)
  · refine pk_bw (x_X12_put (63 : Int32) μ) (fun μ20 ez1 => ?_)
    have z1 : Zm9 μ μ20 := z0.tr ez1
    refine pk_bw (x_X12_putOperand a3 μ20) (fun μ22 ez2 => ?_)
    have z2 : Zm9 μ μ22 := z1.tr ez2
    refine pk_bw (x_X12_put (123 : Int32) μ22) (fun μ24 ez3 => ?_)
    have z3 : Zm9 μ μ24 := z2.tr ez3
    exact pk_some z3
  · refine pk_bw (x_X12_putRest a1 a2 a3 μ) (fun μ16 ez4 => ?_)
    have z4 : Zm9 μ μ16 := z0.tr ez4
    refine pk_bw (x_X12_put (59 : Int32) μ16) (fun μ18 ez5 => ?_)
    have z5 : Zm9 μ μ18 := z4.tr ez5
    exact pk_some z5
theorem x_X12_putItem (a1 : Int32) (μ : Mem) : pk (p_X12_putItem a1 μ) (fun q => Zm9 μ q) := by
  have z0 : Zm9 μ μ := Zm9.rf
  rw [p_X12_putItem_eq]
  refine pk_gd (fun _ => ?_)
  refine pk_bvy (fun v1 _ => ?_)
  refine pk_gd (fun _ => ?_)
  refine pk_bvy (fun v2 _ => ?_)
  refine pk_ite (fun _ => ?_) (fun _ => ?_)
  · exact pk_mono (x_X12_putItem_b26 v1 v2 μ) (fun _ hq => z0.tr hq)
  · refine pk_ite (fun _ => ?_) (fun _ => ?_)
    · exact pk_mono (x_X12_putItem_b26 v1 v2 μ) (fun _ hq => z0.tr hq)
    · refine pk_ite (fun _ => ?_) (fun _ => ?_)
      · exact pk_mono (x_X12_putItem_b78 a1 v1 v2 μ) (fun _ hq => z0.tr hq)
      · refine pk_gd (fun _ => ?_)
        refine pk_bw (x_X12_putOne (3 : Int32) (μ.1 47 a1.toNatClampNeg) μ) (fun μ26 ez1 => ?_)
        have z1 : Zm9 μ μ26 := z0.tr ez1
        refine pk_bw (x_X12_put (61 : Int32) μ26) (fun μ28 ez2 => ?_)
        have z2 : Zm9 μ μ28 := z1.tr ez2
        exact pk_mono (x_X12_putItem_b78 a1 v1 v2 μ28) (fun _ hq => z2.tr hq)
theorem x_X12_write_b83 : ∀ (n : Nat) (a1 : Int32) (a2 : Int32) (μ : Mem), pk (p_X12_write_b83  n a1 a2 μ) (fun q => Zm9 μ q.2) := by
  intro n
  induction n with
  | zero => intro a1 a2 μ r e; rw [p_X12_write_b83_z] at e; cases e
  | succ n ih =>
    intro a1 a2 μ
    have z0 : Zm9 μ μ := Zm9.rf
    rw [p_X12_write_b83_s]
    refine pk_gd (fun _ => ?_)
    refine pk_ite (fun _ => ?_) (fun _ => ?_)
    · refine pk_gd (fun _ => ?_)
      refine pk_bw (x_X12_putOperand (μ.1 64 a1.toNatClampNeg) μ) (fun μ17 ez1 => ?_)
      have z1 : Zm9 μ μ17 := z0.tr ez1
      refine pk_bw (x_X12_put (59 : Int32) μ17) (fun μ19 ez2 => ?_)
      have z2 : Zm9 μ μ19 := z1.tr ez2
      exact pk_some z2
    · refine pk_bw (x_X12_putItem a2 μ) (fun μ21 ez3 => ?_)
      have z3 : Zm9 μ μ21 := z0.tr ez3
      refine pk_bvy (fun v23 _ => ?_)
      exact pk_mono (ih a1 v23 μ21) (fun _ hq => z3.tr hq)
theorem x_X12_write (a1 : Int32) (μ : Mem) : pk (p_X12_write a1 μ) (fun q => Zm9 μ q.2) := by
  have z0 : Zm9 μ μ := Zm9.rf
  rw [p_X12_write_eq]
  refine pk_bd (x_X12_isVariant a1 μ) (fun r2 μ1 ez1 => ?_)
  have z1 : Zm9 μ μ1 := z0.tr ez1
  refine pk_ite (fun _ => ?_) (fun _ => ?_)
  · exact pk_some z1
  · refine pk_bvy (fun μ4 ez2 => ?_)
    have z2 : Zm9 μ μ4 := by rw [ez2]; exact z1.sF (px_f (by decide))
    refine pk_gd (fun _ => ?_)
    refine pk_gd (fun _ => ?_)
    refine pk_bw (x_X12_put (((97 : Int32) + (μ4.1 2 (μ4.1 57 a1.toNatClampNeg).toNatClampNeg)) - (1 : Int32)) μ4) (fun μ5 ez3 => ?_)
    have z3 : Zm9 μ μ5 := z2.tr ez3
    refine pk_bw (x_X12_put (40 : Int32) μ5) (fun μ7 ez4 => ?_)
    have z4 : Zm9 μ μ7 := z3.tr ez4
    refine pk_gd (fun _ => ?_)
    refine pk_bw (x_X12_putParts 60 61 ((210 : Int32) * a1) (μ7.1 58 a1.toNatClampNeg) μ7) (fun μ9 ez5 => ?_)
    have z5 : Zm9 μ μ9 := z4.tr ez5
    refine pk_bw (x_X12_put (41 : Int32) μ9) (fun μ11 ez6 => ?_)
    have z6 : Zm9 μ μ11 := z5.tr ez6
    refine pk_bw (x_X12_put (61 : Int32) μ11) (fun μ13 ez7 => ?_)
    have z7 : Zm9 μ μ13 := z6.tr ez7
    refine pk_gd (fun _ => ?_)
    refine pk_bvy (fun v15 _ => ?_)
    exact pk_mono (x_X12_write_b83 FUEL a1 v15 μ13) (fun _ hq => z7.tr hq)
theorem x_X12_octet (a1 : Int32) (μ : Mem) : pk (p_X12_octet a1 μ) (fun q => Zm9 μ q.2) := by
  have z0 : Zm9 μ μ := Zm9.rf
  rw [p_X12_octet_eq]
  refine pk_ite (fun _ => ?_) (fun _ => ?_)
  · exact pk_some z0
  · refine pk_gd (fun _ => ?_)
    exact pk_some z0
end

section
def RB9 (G : List Fn5) (V : Nat) (It Bk : List Nat) (cl : Nat → Prop) (q z : Mem) : Prop := It9 q z It V ∧ (Bk.length = It.length ∧ Cn7 q Bk ∧ Bb7 q Bk) ∧ (Kw (G.map fkey) ∧ Pn5 z G) ∧ Pa7 q (sF z 0 111 (nI V - 1)) G ∧ ((q.1 39 2).toInt = (V : Int) ∧ 0 < V ∧ V ≤ 24) ∧ Cq9 q z It ∧ (q.1 39 3 = z.1 0 91 ∧ q.1 39 4 = z.1 0 96 ∧ q.1 39 5 = z.1 0 97) ∧ (∀ u, u < V → Vd9 q z It Bk cl u) ∧ Cv9 z It ∧ Ord9 z V
theorem perm_len {α : Type} {L M : List α} (h1 : L.Nodup) (h2 : M.Nodup) (h : ∀ a, a ∈ L ↔ a ∈ M) : L.length = M.length := ((List.perm_ext_iff_of_nodup h1 h2).mpr h).length_eq
theorem it_map {It : List Nat} (φ : Nat → Bool) (ψ : Nat → Bool) (h : ∀ i p, It[i]? = some p → φ i = ψ p) : ((List.range It.length).filter φ).length = (It.filter ψ).length := by
  have e : It = (List.range It.length).map (fun i => It.getD i 0) := by
    apply List.ext_getElem?
    intro i
    rw [List.getElem?_map]
    rcases Nat.lt_or_ge i It.length with c | c
    · rw [List.getElem?_range c, List.getElem?_eq_getElem c]
      show _ = some (It.getD i 0)
      rw [List.getD_eq_getElem?_getD, List.getElem?_eq_getElem c]; rfl
    · rw [List.getElem?_eq_none c, List.getElem?_eq_none (by rw [List.length_range]; exact c)]; rfl
  have h2 : (It.filter ψ).length = ((List.range It.length).filter (fun i => ψ (It.getD i 0))).length := by
    conv => lhs; rw [e]
    rw [List.filter_map, List.length_map]; rfl
  rw [h2]
  refine congrArg List.length (List.filter_congr (fun i hi => ?_))
  have hi := List.mem_range.mp hi
  have hp : It[i]? = some (It.getD i 0) := by rw [List.getD_eq_getElem?_getD, List.getElem?_eq_getElem hi]; rfl
  exact h i _ hp
theorem Ord9.mono {z : Mem} {V : Nat} (h : Ord9 z V) (hle : ∀ u, u < V → (z.1 62 u).toInt ≤ (z.1 63 u).toInt) : ∀ d u, u + d < V → (z.1 63 u).toInt ≤ (z.1 63 (u + d)).toInt := by
  intro d
  induction d with
  | zero => intro u _; exact Int.le_refl _
  | succ d ih =>
    intro u hu
    have h1 := ih u (by omega)
    have h2 := h.2.1 (u + d) (by omega)
    have h3 := hle (u + d + 1) (by omega)
    rw [h2] at h3
    rw [show u + (d + 1) = u + d + 1 by omega]
    omega
theorem own_uniq {z : Mem} {V u w : Nat} {p : Int} (h : Ord9 z V) (hle : ∀ u, u < V → (z.1 62 u).toInt ≤ (z.1 63 u).toInt) (hu : u < V) (hw : w < V) (a1 : (z.1 62 u).toInt ≤ p) (a2 : p < (z.1 63 u).toInt) (b1 : (z.1 62 w).toInt ≤ p) (b2 : p < (z.1 63 w).toInt) : u = w := by
  rcases Nat.lt_trichotomy u w with c | c | c
  · exfalso
    have h1 := h.mono hle (w - 1 - u) u (by omega)
    rw [show u + (w - 1 - u) = w - 1 by omega] at h1
    have h2 := h.2.1 (w - 1) (by omega)
    rw [show w - 1 + 1 = w by omega] at h2
    rw [h2] at b1
    omega
  · exact c
  · exfalso
    have h1 := h.mono hle (u - 1 - w) w (by omega)
    rw [show w + (u - 1 - w) = u - 1 by omega] at h1
    have h2 := h.2.1 (u - 1) (by omega)
    rw [show u - 1 + 1 = u by omega] at h2
    rw [h2] at a1
    omega
def cv9 (q : Mem) (v : Option Nat) (i : Nat) : Bool := match v with | none => true | some u => decide ((q.1 40 (8 * i + 6)).toInt = (u : Int))
def ck9 (q : Mem) (k : Option Int32) (i : Nat) : Bool := match k with | none => true | some c => decide (q.1 40 (8 * i) = c)
def cK9 (q : Mem) (v : Option Nat) (k : Option Int32) (i : Nat) : Bool := cv9 q v i && ck9 q k i
theorem c_cellv {q : Mem} {n i c : Nat} {a1 a2 : Int32} (h1 : (q.1 39 1).toInt = (n : Int)) (hn : n ≤ 300) (hi : i < n) (ha : a1.toInt = (i : Int)) (hc : a2.toInt = (c : Int)) (h8 : c < 8) : pk (p_X5_cell a1 a2 q) (fun r => r.1 = q.1 40 (8 * i + c) ∧ r.2 = q) := by
  have e0 : (0 : Int32).toInt = 0 := by decide
  have e8 : (8 : Int32).toInt = 8 := by decide
  have hm : (a1 * 8 + a2).toInt = ((8 * i + c : Nat) : Int) := by
    have h2 : (a1 * 8).toInt = 8 * (i : Int) := by rw [ti_mul (by rw [ha, e8]; omega) (by rw [ha, e8]; omega), ha, e8]; omega
    rw [ti_add (by omega) (by omega), h2, hc]; omega
  rw [p_X5_cell_eq, if_neg (by rw [ti_lt, ha, e0]; omega), if_neg (by rw [ti_le, h1, ha]; omega), if_neg (by rw [ti_le, e8, hc]; omega), tn_of hm]
  exact pk_gd (fun _ => pk_some ⟨rfl, rfl⟩)
theorem c_countOf {q : Mem} {n : Nat} {a1 a2 : Int32} {v : Option Nat} {k : Option Int32} (h1 : (q.1 39 1).toInt = (n : Int)) (hn : n ≤ 300) (hv : (v = none ∧ a1 = -1) ∨ ∃ u : Nat, v = some u ∧ a1.toInt = (u : Int)) (hk : (k = none ∧ a2 = -1) ∨ (k = some a2 ∧ a2 ≠ -1)) : pk (p_X5_countOf a1 a2 q) (fun r => r.2 = q ∧ r.1.toInt = ((((List.range n).filter (cK9 q v k)).length : Nat) : Int)) := by
  have e0 : (0 : Int32).toInt = ((0 : Nat) : Int) := by decide
  have e6 : (6 : Int32).toInt = ((6 : Nat) : Int) := by decide
  have em : (-1 : Int32).toInt = -1 := by decide
  rw [p_X5_countOf_eq]
  have loop : ∀ (m f i c : Nat) (a3 a4 : Int32), n - i = m → i ≤ n → a4.toInt = (i : Int) → a3.toInt = (c : Int) → c = ((List.range i).filter (cK9 q v k)).length → pk (p_X5_countOf_b5 f a1 a2 a3 a4 q) (fun r => r.2 = q ∧ r.1.toInt = ((((List.range n).filter (cK9 q v k)).length : Nat) : Int)) := by
    intro m
    induction m with
    | zero =>
      intro f i c a3 a4 hm hi h4 h3 hc
      cases f with
      | zero => intro r e; rw [p_X5_countOf_b5_z] at e; cases e
      | succ f =>
        rw [p_X5_countOf_b5_s, if_pos (by rw [ti_le, h1, h4]; omega)]
        have : i = n := by omega
        subst this
        exact pk_some ⟨rfl, by rw [h3, hc]⟩
    | succ m ih =>
      intro f i c a3 a4 hm hi h4 h3 hc
      cases f with
      | zero => intro r e; rw [p_X5_countOf_b5_z] at e; cases e
      | succ f =>
        have hin : i < n := by omega
        have hcl : c ≤ i := by
          have := List.length_filter_le (cK9 q v k) (List.range i)
          rw [List.length_range] at this
          omega
        have hstep : ((List.range (i + 1)).filter (cK9 q v k)).length = c + (if cK9 q v k i = true then 1 else 0) := by
          rw [List.range_succ, List.filter_append, List.length_append, hc]
          by_cases e : cK9 q v k i = true
          · rw [if_pos e, List.filter_cons_of_pos e]; rfl
          · rw [if_neg e, List.filter_cons_of_neg e]; rfl
        have b62 : ∀ (a3' : Int32) (c' : Nat), a3'.toInt = (c' : Int) → c' = ((List.range (i + 1)).filter (cK9 q v k)).length → pk (p_X5_countOf_b62 (p_X5_countOf_b5 f) a1 a2 a3' a4 q) (fun r => r.2 = q ∧ r.1.toInt = ((((List.range n).filter (cK9 q v k)).length : Nat) : Int)) := by
          intro a3' c' g1 g2
          rw [p_X5_countOf_b62_eq]
          exact pk_bvs (ih f (i + 1) c' a3' _ (by omega) (by omega) (inc1 h4 (by omega)) g1 g2)
        have no : cK9 q v k i = false → pk (p_X5_countOf_b62 (p_X5_countOf_b5 f) a1 a2 a3 a4 q) (fun r => r.2 = q ∧ r.1.toInt = ((((List.range n).filter (cK9 q v k)).length : Nat) : Int)) := fun e => b62 a3 c h3 (by rw [hstep, e]; rfl)
        have yes : cK9 q v k i = true → pk (p_X5_countOf_b59 (p_X5_countOf_b5 f) a1 a2 a3 a4 q) (fun r => r.2 = q ∧ r.1.toInt = ((((List.range n).filter (cK9 q v k)).length : Nat) : Int)) := fun e => by
          rw [p_X5_countOf_b59_eq]
          exact pk_bvs (b62 _ (c + 1) (inc1 h3 (by omega)) (by rw [hstep, if_pos e]))
        have kinds : (∀ u, v = some u → (q.1 40 (8 * i + 6)).toInt = (u : Int)) → pk (p_X5_countOf_b36 (p_X5_countOf_b5 f) a1 a2 a3 a4 1 q) (fun r => r.2 = q ∧ r.1.toInt = ((((List.range n).filter (cK9 q v k)).length : Nat) : Int)) := fun hvv => by
          have hv1 : cv9 q v i = true := by
            cases v with
            | none => rfl
            | some u => exact decide_eq_true (hvv u rfl)
          rw [p_X5_countOf_b36_eq, if_neg (by decide)]
          rcases hk with ⟨k1, k2⟩ | ⟨k1, k2⟩
          · rw [if_pos k2]
            refine yes ?_
            unfold cK9
            rw [hv1, k1]; rfl
          · rw [if_neg k2]
            refine pk_bdv (c_cellv h1 hn hin h4 e0 (by omega)) ?_
            refine pk_ite (fun c1 => yes ?_) (fun c1 => no ?_)
            · unfold cK9
              rw [hv1, k1]
              exact decide_eq_true c1
            · unfold cK9
              rw [hv1, k1]
              exact decide_eq_false c1
        rw [p_X5_countOf_b5_s, if_neg (by rw [ti_le, h1, h4]; omega)]
        rcases hv with ⟨v1, v2⟩ | ⟨u, v1, v2⟩
        · rw [if_pos v2, p_X5_countOf_b31_eq]
          exact kinds (fun u e => by rw [v1] at e; cases e)
        · rw [if_neg (fun e => by rw [e, em] at v2; omega)]
          refine pk_bdv (c_cellv h1 hn hin h4 e6 (by omega)) ?_
          refine pk_ite (fun c1 => ?_) (fun c1 => ?_)
          · rw [p_X5_countOf_b31_eq]
            refine kinds (fun u' e => ?_)
            rw [v1] at e
            have e := Option.some.inj e
            rw [c1, v2, e]
          · rw [p_X5_countOf_b36_eq, if_pos rfl]
            refine no ?_
            unfold cK9
            rw [v1]
            have : ¬ (q.1 40 (8 * i + 6)).toInt = (u : Int) := fun e => c1 (ti_eq.mpr (by rw [e, v2]))
            show (decide ((q.1 40 (8 * i + 6)).toInt = (u : Int)) && ck9 q k i) = false
            rw [decide_eq_false this]; rfl
  exact loop n FUEL 0 0 0 0 (by omega) (by omega) e0 e0 rfl
end

section
theorem flt_step {φ : Nat → Bool} {a m : Nat} : ((List.range' a (m + 1)).filter φ).length = ((List.range' a m).filter φ).length + (if φ (a + m) = true then 1 else 0) := by
  have e : List.range' a (m + 1) = List.range' a m ++ [a + m] := by
    rw [List.range'_concat, Nat.one_mul]
  rw [e, List.filter_append, List.length_append]
  by_cases c : φ (a + m) = true
  · rw [if_pos c, List.filter_cons_of_pos c]; rfl
  · rw [if_neg c, List.filter_cons_of_neg c]; rfl
theorem flt_le {φ : Nat → Bool} {a m : Nat} : ((List.range' a m).filter φ).length ≤ m := by
  have := List.length_filter_le φ (List.range' a m)
  rw [List.length_range'] at this; exact this
theorem m_countKind {z : Mem} {v a b : Nat} {a1 a2 : Int32} (h1 : a1.toInt = (v : Int)) (ha : (z.1 62 v).toInt = (a : Int)) (hb : (z.1 63 v).toInt = (b : Int)) (hab : a ≤ b) (hb9 : b ≤ 100000) : pk (p_X12_countKind a1 a2 z) (fun r => r.2 = z ∧ r.1.toInt = ((((List.range' a (b - a)).filter (fun p => decide (z.1 46 p = a2))).length : Nat) : Int)) := by
  have e0 : (0 : Int32).toInt = ((0 : Nat) : Int) := by decide
  have e1 : (1 : Int32).toInt = 1 := by decide
  have e0' : (0 : Int32).toInt = 0 := by decide
  rw [p_X12_countKind_eq, tn_of h1]
  refine pk_gd (fun _ => pk_bvs ?_)
  have loop : ∀ (m f i c : Nat) (a3 a4 : Int32), b - a - i = m → i ≤ b - a → a4.toInt = ((a + i : Nat) : Int) → a3.toInt = (c : Int) → c = ((List.range' a i).filter (fun p => decide (z.1 46 p = a2))).length → pk (p_X12_countKind_b10 f a1 a2 a3 a4 z) (fun r => r.2 = z ∧ r.1.toInt = ((((List.range' a (b - a)).filter (fun p => decide (z.1 46 p = a2))).length : Nat) : Int)) := by
    intro m
    induction m with
    | zero =>
      intro f i c a3 a4 hm hi h4 h3 hc
      cases f with
      | zero => intro r e; rw [p_X12_countKind_b10_z] at e; cases e
      | succ f =>
        rw [p_X12_countKind_b10_s, tn_of h1]
        refine pk_gd (fun _ => ?_)
        rw [if_pos (by rw [ti_le, hb, h4]; omega)]
        have : i = b - a := by omega
        subst this
        exact pk_some ⟨rfl, by rw [h3, hc]⟩
    | succ m ih =>
      intro f i c a3 a4 hm hi h4 h3 hc
      cases f with
      | zero => intro r e; rw [p_X12_countKind_b10_z] at e; cases e
      | succ f =>
        have hcl := flt_le (φ := fun p => decide (z.1 46 p = a2)) (a := a) (m := i)
        have hst := flt_step (φ := fun p => decide (z.1 46 p = a2)) (a := a) (m := i)
        rw [← hc] at hcl hst
        rw [p_X12_countKind_b10_s, tn_of h1]
        refine pk_gd (fun _ => ?_)
        rw [if_neg (by rw [ti_le, hb, h4]; omega), tn_of h4]
        have n4 : (a4 + 1).toInt = ((a + (i + 1) : Nat) : Int) := by rw [ti_add (by omega) (by omega), h4, e1]; omega
        refine pk_gd (fun _ => pk_ite (fun c1 => ?_) (fun c1 => ?_))
        · rw [p_X12_countKind_b38_eq]
          refine pk_bvs (pk_bvs (ih f (i + 1) (c + 1) _ _ (by omega) (by omega) n4 (by rw [ti_add (by omega) (by omega), h3, e1]; omega) ?_))
          rw [hst, if_pos (decide_eq_true c1)]
        · rw [p_X12_countKind_b38_eq]
          refine pk_bvs (pk_bvs (ih f (i + 1) c _ _ (by omega) (by omega) n4 (by rw [Int32.add_zero]; exact h3) ?_))
          rw [hst, if_neg (fun e => c1 (of_decide_eq_true e))]; rfl
  exact loop (b - a) FUEL 0 0 0 _ (by omega) (by omega) (by rw [ha]; rfl) e0 rfl
theorem flt_split {φ : Nat → Bool} {a b : Nat} (h : a ≤ b) : ((List.range b).filter φ).length = ((List.range a).filter φ).length + ((List.range' a (b - a)).filter φ).length := by
  have e : List.range b = List.range a ++ List.range' a (b - a) := by
    rw [List.range_eq_range', List.range_eq_range', show List.range' a (b - a) = List.range' (0 + 1 * a) (b - a) by rw [Nat.one_mul, Nat.zero_add], List.range'_append, show a + (b - a) = b by omega]
  rw [e, List.filter_append, List.length_append]
theorem m_countAll {z : Mem} {V P : Nat} {a1 : Int32} (hV : (z.1 0 110).toInt = (V : Int)) (hV24 : V ≤ 24) (hP : (z.1 0 87).toInt = (P : Int)) (hP9 : P ≤ 100000) (ho : Ord9 z V) (h0 : 0 < V) (hle : ∀ u, u < V → 0 ≤ (z.1 62 u).toInt ∧ (z.1 62 u).toInt ≤ (z.1 63 u).toInt ∧ (z.1 63 u).toInt ≤ (z.1 0 87).toInt) : pk (p_X12_countAll a1 z) (fun r => r.2 = z ∧ r.1.toInt = ((((List.range P).filter (fun p => decide (z.1 46 p = a1))).length : Nat) : Int)) := by
  have e0 : (0 : Int32).toInt = ((0 : Nat) : Int) := by decide
  rw [p_X12_countAll_eq]
  have loop : ∀ (m f v e c : Nat) (a2 a3 : Int32), V - v = m → v ≤ V → a3.toInt = (v : Int) → a2.toInt = (c : Int) → ((v = 0 ∧ e = 0) ∨ (0 < v ∧ (z.1 63 (v - 1)).toInt = (e : Int))) → c = ((List.range e).filter (fun p => decide (z.1 46 p = a1))).length → pk (p_X12_countAll_b4 f a1 a2 a3 z) (fun r => r.2 = z ∧ r.1.toInt = ((((List.range P).filter (fun p => decide (z.1 46 p = a1))).length : Nat) : Int)) := by
    intro m
    induction m with
    | zero =>
      intro f v e c a2 a3 hm hv h3 h2 he hc
      cases f with
      | zero => intro r e; rw [p_X12_countAll_b4_z] at e; cases e
      | succ f =>
        rw [p_X12_countAll_b4_s, if_pos (by rw [ti_le, hV, h3]; omega)]
        have hvV : v = V := by omega
        subst hvV
        have : e = P := by
          rcases he with ⟨x, _⟩ | ⟨_, x⟩
          · omega
          · have := ho.2.2.1 h0
            rw [this, hP] at x; omega
        subst this
        exact pk_some ⟨rfl, by rw [h2, hc]⟩
    | succ m ih =>
      intro f v e c a2 a3 hm hv h3 h2 he hc
      cases f with
      | zero => intro r e; rw [p_X12_countAll_b4_z] at e; cases e
      | succ f =>
        have hvV : v < V := by omega
        obtain ⟨l1, l2, l3⟩ := hle v hvV
        have h62 : (z.1 62 v).toInt = (e : Int) := by
          rcases he with ⟨x, y⟩ | ⟨x, y⟩
          · subst x; rw [ho.1 h0, y]; exact e0
          · have := ho.2.1 (v - 1) (by omega)
            rw [show v - 1 + 1 = v by omega] at this
            rw [this]; exact y
        obtain ⟨b, hb⟩ : ∃ b : Nat, (z.1 63 v).toInt = (b : Int) := ⟨(z.1 63 v).toInt.toNat, by omega⟩
        have hcl := List.length_filter_le (fun p => decide (z.1 46 p = a1)) (List.range e)
        rw [List.length_range, ← hc] at hcl
        rw [p_X12_countAll_b4_s, if_neg (by rw [ti_le, hV, h3]; omega)]
        refine pk_bd (m_countKind h3 h62 hb (by omega) (by omega)) ?_
        rintro r3 μ2 ⟨g1, g2⟩
        have g1 : μ2 = z := g1
        have g2 : r3.toInt = ((((List.range' e (b - e)).filter (fun p => decide (z.1 46 p = a1))).length : Nat) : Int) := g2
        have hl2 := flt_le (φ := fun p => decide (z.1 46 p = a1)) (a := e) (m := b - e)
        rw [g1]
        refine pk_bvs (pk_bvs (ih f (v + 1) b (c + ((List.range' e (b - e)).filter (fun p => decide (z.1 46 p = a1))).length) _ _ (by omega) (by omega) (inc1 h3 (by omega)) (by rw [ti_add (by omega) (by omega), h2, g2]; omega) (Or.inr ⟨by omega, by rw [show v + 1 - 1 = v by omega]; exact hb⟩) ?_))
        rw [hc, flt_split (a := e) (b := b) (by omega)]
  exact loop V FUEL 0 0 0 0 0 (by omega) (by omega) e0 e0 (Or.inl ⟨rfl, rfl⟩) rfl
theorem m_callsOf {z : Mem} {P : Nat} {a1 : Int32} (hP : (z.1 0 87).toInt = (P : Int)) (hP9 : P ≤ 100000) : pk (p_X12_callsOf a1 z) (fun r => r.2 = z ∧ r.1.toInt = ((((List.range P).filter (fun p => decide (z.1 46 p = 11 ∧ z.1 48 p = a1))).length : Nat) : Int)) := by
  have e0 : (0 : Int32).toInt = ((0 : Nat) : Int) := by decide
  have e1 : (1 : Int32).toInt = 1 := by decide
  rw [p_X12_callsOf_eq]
  have loop : ∀ (m f i c : Nat) (a2 a3 : Int32), P - i = m → i ≤ P → a3.toInt = (i : Int) → a2.toInt = (c : Int) → c = ((List.range' 0 i).filter (fun p => decide (z.1 46 p = 11 ∧ z.1 48 p = a1))).length → pk (p_X12_callsOf_b4 f a1 a2 a3 z) (fun r => r.2 = z ∧ r.1.toInt = ((((List.range P).filter (fun p => decide (z.1 46 p = 11 ∧ z.1 48 p = a1))).length : Nat) : Int)) := by
    intro m
    induction m with
    | zero =>
      intro f i c a2 a3 hm hi h3 h2 hc
      cases f with
      | zero => intro r e; rw [p_X12_callsOf_b4_z] at e; cases e
      | succ f =>
        rw [p_X12_callsOf_b4_s, if_pos (by rw [ti_le, hP, h3]; omega)]
        have : i = P := by omega
        subst this
        exact pk_some ⟨rfl, by rw [h2, hc, List.range_eq_range']⟩
    | succ m ih =>
      intro f i c a2 a3 hm hi h3 h2 hc
      cases f with
      | zero => intro r e; rw [p_X12_callsOf_b4_z] at e; cases e
      | succ f =>
        have hcl := flt_le (φ := fun p => decide (z.1 46 p = 11 ∧ z.1 48 p = a1)) (a := 0) (m := i)
        have hst := flt_step (φ := fun p => decide (z.1 46 p = 11 ∧ z.1 48 p = a1)) (a := 0) (m := i)
        rw [← hc, Nat.zero_add] at hst
        rw [← hc] at hcl
        have no : ¬ (z.1 46 i = 11 ∧ z.1 48 i = a1) → pk (p_X12_callsOf_b38 (p_X12_callsOf_b4 f) a1 a3 a2 z) (fun r => r.2 = z ∧ r.1.toInt = ((((List.range P).filter (fun p => decide (z.1 46 p = 11 ∧ z.1 48 p = a1))).length : Nat) : Int)) := fun e => by
          rw [p_X12_callsOf_b38_eq, p_X12_callsOf_b39_eq]
          refine pk_bvs (pk_bvs (ih f (i + 1) c _ _ (by omega) (by omega) (inc1 h3 (by omega)) (by rw [Int32.add_zero]; exact h2) ?_))
          rw [hst, if_neg (fun x => e (of_decide_eq_true x))]; rfl
        rw [p_X12_callsOf_b4_s, if_neg (by rw [ti_le, hP, h3]; omega), tn_of h3]
        refine pk_gd (fun _ => pk_ite (fun c1 => pk_gd (fun _ => pk_ite (fun c2 => ?_) (fun c2 => no (fun e => c2 e.2)))) (fun c1 => no (fun e => c1 e.1)))
        rw [p_X12_callsOf_b39_eq]
        refine pk_bvs (pk_bvs (ih f (i + 1) (c + 1) _ _ (by omega) (by omega) (inc1 h3 (by omega)) (by rw [ti_add (by omega) (by omega), h2, e1]; omega) ?_))
        rw [hst, if_pos (decide_eq_true ⟨c1, c2⟩)]
  exact loop P FUEL 0 0 0 0 (by omega) (by omega) e0 e0 rfl
theorem m_knownIn {z : Mem} {v L : Nat} {a1 : Int32} (h1 : a1.toInt = (v : Int)) (hv : v ≤ 24) (hL : (z.1 58 v).toInt = (L : Int)) (h200 : L ≤ 200) : pk (p_X12_knownIn a1 z) (fun r => r.2 = z ∧ r.1.toInt = ((((List.range' 0 L).filter (fun k => decide (s_X12_isNumber (z.1 60 (210 * v + k)) ≠ 0))).length : Nat) : Int)) := by
  have e0 : (0 : Int32).toInt = ((0 : Nat) : Int) := by decide
  have e1 : (1 : Int32).toInt = 1 := by decide
  have e210 : (210 : Int32).toInt = 210 := by decide
  have hm : (210 * a1).toInt = ((210 * v : Nat) : Int) := by rw [ti_mul (by rw [e210, h1]; omega) (by rw [e210, h1]; omega), e210, h1]; omega
  rw [p_X12_knownIn_eq]
  refine pk_bvs ?_
  have loop : ∀ (m f i c : Nat) (a2 a3 : Int32), L - i = m → i ≤ L → a3.toInt = ((210 * v + i : Nat) : Int) → a2.toInt = (c : Int) → c = ((List.range' 0 i).filter (fun k => decide (s_X12_isNumber (z.1 60 (210 * v + k)) ≠ 0))).length → pk (p_X12_knownIn_b8 f a1 a2 a3 z) (fun r => r.2 = z ∧ r.1.toInt = ((((List.range' 0 L).filter (fun k => decide (s_X12_isNumber (z.1 60 (210 * v + k)) ≠ 0))).length : Nat) : Int)) := by
    intro m
    induction m with
    | zero =>
      intro f i c a2 a3 hm2 hi h3 h2 hc
      cases f with
      | zero => intro r e; rw [p_X12_knownIn_b8_z] at e; cases e
      | succ f =>
        rw [p_X12_knownIn_b8_s, tn_of h1]
        refine pk_gd (fun _ => ?_)
        rw [if_pos (by rw [ti_le, ti_add (by omega) (by omega), hm, hL, h3]; omega)]
        have : i = L := by omega
        subst this
        exact pk_some ⟨rfl, by rw [h2, hc]⟩
    | succ m ih =>
      intro f i c a2 a3 hm2 hi h3 h2 hc
      cases f with
      | zero => intro r e; rw [p_X12_knownIn_b8_z] at e; cases e
      | succ f =>
        have hcl := flt_le (φ := fun k => decide (s_X12_isNumber (z.1 60 (210 * v + k)) ≠ 0)) (a := 0) (m := i)
        have hst := flt_step (φ := fun k => decide (s_X12_isNumber (z.1 60 (210 * v + k)) ≠ 0)) (a := 0) (m := i)
        rw [← hc, Nat.zero_add] at hst
        rw [← hc] at hcl
        rw [p_X12_knownIn_b8_s, tn_of h1]
        refine pk_gd (fun _ => ?_)
        rw [if_neg (by rw [ti_le, ti_add (by omega) (by omega), hm, hL, h3]; omega), tn_of h3]
        have n3 : (a3 + 1).toInt = ((210 * v + (i + 1) : Nat) : Int) := by rw [ti_add (by omega) (by omega), h3, e1]; omega
        refine pk_gd (fun _ => pk_ite (fun c1 => ?_) (fun c1 => ?_))
        · rw [p_X12_knownIn_b42_eq]
          refine pk_bvs (pk_bvs (ih f (i + 1) c _ _ (by omega) (by omega) n3 (by rw [Int32.add_zero]; exact h2) ?_))
          rw [hst, if_neg (fun x => (of_decide_eq_true x) c1)]; rfl
        · rw [p_X12_knownIn_b42_eq]
          refine pk_bvs (pk_bvs (ih f (i + 1) (c + 1) _ _ (by omega) (by omega) n3 (by rw [ti_add (by omega) (by omega), h2, e1]; omega) ?_))
          rw [hst, if_pos (decide_eq_true c1)]
  exact loop L FUEL 0 0 0 _ (by omega) (by omega) hm e0 rfl
theorem c_numbers {q : Mem} {pt L : Nat} (hL : (q.1 pt 2).toInt = (L : Int)) (h200 : L ≤ 200) : pk (p_X2_numbers pt q) (fun r => r.2 = q ∧ r.1.toInt = ((((List.range' 0 L).filter (fun k => decide (s_X0_isKnown (q.2.1 (pt + 1) k) ≠ 0))).length : Nat) : Int)) := by
  have e0 : (0 : Int32).toInt = ((0 : Nat) : Int) := by decide
  have e1 : (1 : Int32).toInt = 1 := by decide
  rw [p_X2_numbers_eq]
  have loop : ∀ (m f i c : Nat) (a1 a2 : Int32), L - i = m → i ≤ L → a2.toInt = (i : Int) → a1.toInt = (c : Int) → c = ((List.range' 0 i).filter (fun k => decide (s_X0_isKnown (q.2.1 (pt + 1) k) ≠ 0))).length → pk (p_X2_numbers_b4 f pt a1 a2 q) (fun r => r.2 = q ∧ r.1.toInt = ((((List.range' 0 L).filter (fun k => decide (s_X0_isKnown (q.2.1 (pt + 1) k) ≠ 0))).length : Nat) : Int)) := by
    intro m
    induction m with
    | zero =>
      intro f i c a1 a2 hm hi h2 h1 hc
      cases f with
      | zero => intro r e; rw [p_X2_numbers_b4_z] at e; cases e
      | succ f =>
        rw [p_X2_numbers_b4_s, if_pos (by rw [ti_le, hL, h2]; omega)]
        have : i = L := by omega
        subst this
        exact pk_some ⟨rfl, by rw [h1, hc]⟩
    | succ m ih =>
      intro f i c a1 a2 hm hi h2 h1 hc
      cases f with
      | zero => intro r e; rw [p_X2_numbers_b4_z] at e; cases e
      | succ f =>
        have hcl := flt_le (φ := fun k => decide (s_X0_isKnown (q.2.1 (pt + 1) k) ≠ 0)) (a := 0) (m := i)
        have hst := flt_step (φ := fun k => decide (s_X0_isKnown (q.2.1 (pt + 1) k) ≠ 0)) (a := 0) (m := i)
        rw [← hc, Nat.zero_add] at hst
        rw [← hc] at hcl
        rw [p_X2_numbers_b4_s, if_neg (by rw [ti_le, hL, h2]; omega), tn_of h2]
        refine pk_gd (fun _ => pk_ite (fun c1 => ?_) (fun c1 => pk_bvs ?_))
        · rw [p_X2_numbers_b27_eq]
          refine pk_bvs (ih f (i + 1) c _ _ (by omega) (by omega) (inc1 h2 (by omega)) h1 ?_)
          rw [hst, if_neg (fun x => (of_decide_eq_true x) c1)]; rfl
        · rw [p_X2_numbers_b27_eq]
          refine pk_bvs (ih f (i + 1) (c + 1) _ _ (by omega) (by omega) (inc1 h2 (by omega)) (inc1 h1 (by omega)) ?_)
          rw [hst, if_pos (decide_eq_true c1)]
  exact loop L FUEL 0 0 0 0 (by omega) (by omega) e0 e0 rfl
end

section
theorem flt3 {kd : Nat → Int32} : ∀ (L : List Nat), (L.filter (fun p => decide (kd p ≠ 13 ∧ kd p ≠ 14))).length + (L.filter (fun p => decide (kd p = 13))).length + (L.filter (fun p => decide (kd p = 14))).length = L.length := by
  intro L
  induction L with
  | nil => rfl
  | cons x L ih =>
    have d : (13 : Int32) ≠ 14 := by decide
    by_cases c : kd x = 13
    · rw [List.filter_cons_of_neg (p := fun p => decide (kd p ≠ 13 ∧ kd p ≠ 14)) (by simpa using fun e => absurd c e), List.filter_cons_of_pos (p := fun p => decide (kd p = 13)) (decide_eq_true c), List.filter_cons_of_neg (p := fun p => decide (kd p = 14)) (by rw [c]; simpa using d), List.length_cons, List.length_cons]
      omega
    · by_cases c2 : kd x = 14
      · rw [List.filter_cons_of_neg (p := fun p => decide (kd p ≠ 13 ∧ kd p ≠ 14)) (by simpa using fun _ => c2), List.filter_cons_of_neg (p := fun p => decide (kd p = 13)) (by simpa using c), List.filter_cons_of_pos (p := fun p => decide (kd p = 14)) (decide_eq_true c2), List.length_cons, List.length_cons]
        omega
      · rw [List.filter_cons_of_pos (p := fun p => decide (kd p ≠ 13 ∧ kd p ≠ 14)) (decide_eq_true ⟨c, c2⟩), List.filter_cons_of_neg (p := fun p => decide (kd p = 13)) (by simpa using c), List.filter_cons_of_neg (p := fun p => decide (kd p = 14)) (by simpa using c2), List.length_cons, List.length_cons]
        omega
theorem RB9.le {G : List Fn5} {V : Nat} {It Bk : List Nat} {cl : Nat → Prop} {q z : Mem} (h : RB9 G V It Bk cl q z) : ∀ u, u < V → 0 ≤ (z.1 62 u).toInt ∧ (z.1 62 u).toInt ≤ (z.1 63 u).toInt ∧ (z.1 63 u).toInt ≤ (z.1 0 87).toInt := fun u hu => by
  obtain ⟨bu, o, m, bt, _, _, _, d, _⟩ := h.2.2.2.2.2.2.2.1 u hu
  exact d
theorem nd_rg9 {a n : Nat} : (List.range' a n).Nodup := by
  first
    | exact List.nodup_range' ..
    | exact List.nodup_range' 1
    | exact List.nodup_range'
    | simp [List.nodup_range']
theorem RB9.kind {G : List Fn5} {V P : Nat} {It Bk : List Nat} {cl : Nat → Prop} {q z : Mem} (h : RB9 G V It Bk cl q z) (hP : (z.1 0 87).toInt = (P : Int)) {c : Int32} (h13 : c ≠ 13) (h14 : c ≠ 14) : ((List.range It.length).filter (cK9 q none (some c))).length = ((List.range P).filter (fun p => decide (z.1 46 p = c))).length := by
  obtain ⟨⟨_, _, _, P', O, tP, _, tI⟩, _, _, _, _, _, _, _, ⟨cN, _, cA⟩, _⟩ := h
  have eP : P' = P := by omega
  subst eP
  rw [it_map (It := It) (cK9 q none (some c)) (fun p => decide (z.1 46 p = c)) (fun i p hi => by
    obtain ⟨_, ⟨k1, _⟩, _⟩ := tI i p hi
    unfold cK9 cv9 ck9
    rw [k1]; rfl)]
  refine perm_len (cN.filter _) (List.nodup_range.filter _) (fun p => ?_)
  rw [List.mem_filter, List.mem_filter, List.mem_range]
  constructor
  · rintro ⟨a, b⟩
    obtain ⟨i, hi⟩ := List.mem_iff_getElem?.mp a
    exact ⟨(tI i p hi).1, b⟩
  · rintro ⟨a, b⟩
    refine ⟨?_, b⟩
    have b := of_decide_eq_true b
    rcases cA p (by rw [tn_of hP]; exact a) with e | e | e
    · rw [b] at e; exact absurd e h13
    · rw [b] at e; exact absurd e h14
    · exact e
theorem RB9.own {G : List Fn5} {V u i p a b : Nat} {It Bk : List Nat} {cl : Nat → Prop} {q z : Mem} (h : RB9 G V It Bk cl q z) (hu : u < V) (ha : (z.1 62 u).toInt = (a : Int)) (hb : (z.1 63 u).toInt = (b : Int)) (hi : It[i]? = some p) : (q.1 40 (8 * i + 6)).toInt = (u : Int) ↔ a ≤ p ∧ p < b := by
  have hle := h.le
  obtain ⟨⟨_, _, _, P', O, tP, _, tI⟩, _, _, _, _, _, _, _, _, ho⟩ := h
  obtain ⟨_, _, w, w1, w2, w3, w4⟩ := tI i p hi
  constructor
  · intro e
    have : w = u := by omega
    subst this
    omega
  · rintro ⟨x, y⟩
    have : w = u := own_uniq ho (fun u hu => (hle u hu).2.1) w2 hu w3 w4 (by omega) (by omega)
    rw [w1, this]
theorem RB9.kindv {G : List Fn5} {V u a b : Nat} {It Bk : List Nat} {cl : Nat → Prop} {q z : Mem} (h : RB9 G V It Bk cl q z) (hu : u < V) (ha : (z.1 62 u).toInt = (a : Int)) (hb : (z.1 63 u).toInt = (b : Int)) {c : Int32} (h13 : c ≠ 13) (h14 : c ≠ 14) : ((List.range It.length).filter (cK9 q (some u) (some c))).length = ((List.range' a (b - a)).filter (fun p => decide (z.1 46 p = c))).length := by
  have hle := h.le u hu
  have hown := fun i p hi => h.own (i := i) (p := p) hu ha hb hi
  obtain ⟨⟨_, _, _, P', O, tP, _, tI⟩, _, _, _, _, _, _, _, ⟨cN, _, cA⟩, _⟩ := h
  rw [it_map (It := It) (cK9 q (some u) (some c)) (fun p => decide (a ≤ p ∧ p < b) && decide (z.1 46 p = c)) (fun i p hi => by
    obtain ⟨_, ⟨k1, _⟩, _⟩ := tI i p hi
    unfold cK9 cv9 ck9
    rw [k1]
    show (decide _ && decide _) = (decide _ && decide _)
    rw [decide_eq_decide.mpr (hown i p hi)])]
  refine perm_len (cN.filter _) (nd_rg9.filter _) (fun p => ?_)
  rw [List.mem_filter, List.mem_filter, List.mem_range'_1, Bool.and_eq_true, decide_eq_true_iff, decide_eq_true_iff]
  constructor
  · rintro ⟨_, b1, b2⟩
    exact ⟨by omega, b2⟩
  · rintro ⟨x, y⟩
    refine ⟨?_, by omega, y⟩
    rcases cA p (by rw [tn_of tP]; omega) with e | e | e
    · rw [y] at e; exact absurd e h13
    · rw [y] at e; exact absurd e h14
    · exact e
theorem RB9.allv {G : List Fn5} {V u a b : Nat} {It Bk : List Nat} {cl : Nat → Prop} {q z : Mem} (h : RB9 G V It Bk cl q z) (hu : u < V) (ha : (z.1 62 u).toInt = (a : Int)) (hb : (z.1 63 u).toInt = (b : Int)) : ((List.range It.length).filter (cK9 q (some u) none)).length = ((List.range' a (b - a)).filter (fun p => decide (z.1 46 p ≠ 13 ∧ z.1 46 p ≠ 14))).length := by
  have hle := h.le u hu
  have hown := fun i p hi => h.own (i := i) (p := p) hu ha hb hi
  obtain ⟨⟨_, _, _, P', O, tP, _, tI⟩, _, _, _, _, _, _, _, ⟨cN, cM, cA⟩, _⟩ := h
  rw [it_map (It := It) (cK9 q (some u) none) (fun p => decide (a ≤ p ∧ p < b)) (fun i p hi => by
    unfold cK9 cv9 ck9
    show (decide _ && true) = decide _
    rw [Bool.and_true, decide_eq_decide.mpr (hown i p hi)])]
  refine perm_len (cN.filter _) (nd_rg9.filter _) (fun p => ?_)
  rw [List.mem_filter, List.mem_filter, List.mem_range'_1, decide_eq_true_iff, decide_eq_true_iff]
  constructor
  · rintro ⟨x, b1⟩
    exact ⟨by omega, cM p x⟩
  · rintro ⟨x, y⟩
    refine ⟨?_, by omega⟩
    rcases cA p (by rw [tn_of tP]; omega) with e | e | e
    · exact absurd e y.1
    · exact absurd e y.2
    · exact e
theorem RB9.calls {G : List Fn5} {V P u : Nat} {It Bk : List Nat} {cl : Nat → Prop} {q z : Mem} (h : RB9 G V It Bk cl q z) (hP : (z.1 0 87).toInt = (P : Int)) : Ct9 z It u = ((List.range P).filter (fun p => decide (z.1 46 p = 11 ∧ z.1 48 p = nI u))).length := by
  obtain ⟨⟨_, _, _, P', O, tP, _, tI⟩, _, _, _, _, _, _, _, ⟨cN, _, cA⟩, _⟩ := h
  have eP : P' = P := by omega
  subst eP
  unfold Ct9
  refine perm_len (cN.filter _) (List.nodup_range.filter _) (fun p => ?_)
  rw [List.mem_filter, List.mem_filter, List.mem_range]
  constructor
  · rintro ⟨a, b⟩
    obtain ⟨i, hi⟩ := List.mem_iff_getElem?.mp a
    exact ⟨(tI i p hi).1, b⟩
  · rintro ⟨a, b⟩
    refine ⟨?_, b⟩
    have b := of_decide_eq_true b
    rcases cA p (by rw [tn_of hP]; exact a) with e | e | e
    · rw [b.1] at e; exact absurd e (by decide)
    · rw [b.1] at e; exact absurd e (by decide)
    · exact e
def Rxx9 (q z : Mem) : Prop := (q.1 39 0 = 0 ∧ z.1 0 95 = 0) ∨ (q.1 39 0 ≠ 0 ∧ z.1 0 95 ≠ 0 ∧ ∃ (G : List Fn5) (V : Nat) (It Bk : List Nat) (cl : Nat → Prop), RB9 G V It Bk cl q z)
def Ea9 (r s : Int32 × Mem) : Prop := r.1 = s.1
theorem pk2_val {f g : Option (Int32 × Mem)} {x : Int32} (hf : pk f (fun r => r.1 = x)) (hg : pk g (fun r => r.1 = x)) : pk2 f g Ea9 := fun q z e e2 => (hf q e).trans (hg z e2).symm
theorem pk2_int {f g : Option (Int32 × Mem)} {n : Int} (hf : pk f (fun r => r.1.toInt = n)) (hg : pk g (fun r => r.1.toInt = n)) : pk2 f g Ea9 := fun q z e e2 => ti_eq.mpr ((hf q e).trans (hg z e2).symm)
theorem pk_ret {f : Option (Int32 × Mem)} {A : Int32 × Mem → Prop} (h : pk f A) (h2 : ∀ r μ, A (r, μ) → A (r, μ)) : pk (bd f (fun r μ => some (r, μ))) A := pk_bd h (fun r μ hr => pk_some (h2 r μ hr))
theorem RB9.lim {G : List Fn5} {V : Nat} {It Bk : List Nat} {cl : Nat → Prop} {q z : Mem} (h : RB9 G V It Bk cl q z) : ∃ P : Nat, (z.1 0 87).toInt = (P : Int) ∧ (q.1 39 1).toInt = (It.length : Int) ∧ It.length ≤ 300 ∧ (z.1 0 89).toInt = (It.length : Int) ∧ (z.1 0 110).toInt = (V : Int) ∧ (q.1 39 2).toInt = (V : Int) ∧ 0 < V ∧ V ≤ 24 := by
  obtain ⟨⟨a1, a2, a3, P, O, tP, _, _⟩, _, _, ⟨V', b1, b2, b3, _⟩, ⟨c1, c2, c3⟩, _⟩ := h
  rw [sF_k (by decide)] at b2
  exact ⟨P, tP, a1, a3, a2, by rw [b2]; omega, c1, c2, c3⟩
theorem rx_kind {G : List Fn5} {V : Nat} {It Bk : List Nat} {cl : Nat → Prop} {q z : Mem} (h : RB9 G V It Bk cl q z) (hP9 : (z.1 0 87).toInt ≤ 960) {c : Int32} (h13 : c ≠ 13) (h14 : c ≠ 14) (hm : c ≠ -1) : ∃ n : Int, pk (p_X5_countOf (-1) c q) (fun r => r.2 = q ∧ r.1.toInt = n) ∧ pk (p_X12_countAll c z) (fun r => r.2 = z ∧ r.1.toInt = n) ∧ 0 ≤ n ∧ n ≤ 300 := by
  obtain ⟨P, tP, a1, a3, a2, b2, b1, c2, c3⟩ := h.lim
  refine ⟨_, c_countOf (v := none) (k := some c) a1 a3 (Or.inl ⟨rfl, rfl⟩) (Or.inr ⟨rfl, hm⟩), ?_, by omega, ?_⟩
  · rw [h.kind tP h13 h14]
    exact m_countAll b2 c3 tP (by omega) h.2.2.2.2.2.2.2.2.2 c2 h.le
  · have := List.length_filter_le (cK9 q none (some c)) (List.range It.length)
    rw [List.length_range] at this
    omega
theorem rq_residue {μx μm : Mem} (h : Rxx9 μx μm) (h87 : (μm.1 0 87).toInt ≤ 960) (a1 : Int32) : pk2 (p_X11_residue a1 μx) (p_X12_residue a1 μm) Ea9 := by
  rw [p_X11_residue_eq, p_X5_about_eq, p_X12_residue_eq]
  rcases h with ⟨h1, h2⟩ | ⟨h1, h2, G, V, It, Bk, cl, hB⟩
  · rw [if_pos h1, if_pos h2]
    exact pk2_val (x := -1) (pk_bdv (r0 := -1) (μ0 := μx) (pk_some ⟨rfl, rfl⟩) (pk_some rfl)) (pk_some rfl)
  rw [if_neg h1, if_neg h2]
  obtain ⟨P, tP, b1, b3, b2, d2, d1, d3, d4⟩ := hB.lim
  obtain ⟨u1, u2, u3⟩ := hB.2.2.2.2.2.2.1
  have one : ∀ (c : Int32), c ≠ 13 → c ≠ 14 → c ≠ -1 → pk2 (bd (bd (p_X5_countOf (-1) c μx) (fun r8 μ7 => some (r8, μ7))) (fun r2 μ1 => some (r2, μ1))) (bd (p_X12_countAll c μm) (fun r8 μ7 => some (r8, μ7))) Ea9 := by
    intro c x1 x2 x3
    obtain ⟨n, g1, g2, _, _⟩ := rx_kind hB h87 x1 x2 x3
    rw [bd_bd]
    exact pk2_int (n := n) (pk_bd g1 (fun r μ hr => pk_bdv (r0 := r) (μ0 := μ) (pk_some ⟨rfl, rfl⟩) (pk_some hr.2))) (pk_bd g2 (fun r μ hr => pk_some hr.2))
  have fld : ∀ (x y : Int32), x = y → pk2 (bd (some (x, μx)) (fun r2 μ1 => some (r2, μ1))) (some (y, μm)) Ea9 := fun x y e => by
    rw [e]; exact pk2_some rfl
  by_cases c0 : a1 = 0
  · rw [if_pos c0, if_pos c0]; exact fld _ _ (ti_eq.mpr (by rw [d1, d2]))
  rw [if_neg c0, if_neg c0]
  by_cases c1 : a1 = 1
  · rw [if_pos c1, if_pos c1]; exact fld _ _ (ti_eq.mpr (by rw [b1, b2]))
  rw [if_neg c1, if_neg c1]
  by_cases c2 : a1 = 2
  · rw [if_pos c2, if_pos c2]; exact fld _ _ u1
  rw [if_neg c2, if_neg c2]
  by_cases c3 : a1 = 3
  · rw [if_pos c3, if_pos c3]; exact one 11 (by decide) (by decide) (by decide)
  rw [if_neg c3, if_neg c3]
  by_cases c4 : a1 = 4
  · rw [if_pos c4, if_pos c4]; exact one 7 (by decide) (by decide) (by decide)
  rw [if_neg c4, if_neg c4]
  by_cases c5 : a1 = 5
  · rw [if_pos c5, if_pos c5]
    obtain ⟨n, g1, g2, l1, l2⟩ := rx_kind hB h87 (c := 8) (by decide) (by decide) (by decide)
    obtain ⟨m, g3, g4, l3, l4⟩ := rx_kind hB h87 (c := 9) (by decide) (by decide) (by decide)
    rw [bd_bd]
    refine pk2_int (n := n + m) (pk_bd g1 ?_) (pk_bd g2 ?_)
    · rintro r14 μ13 ⟨e1, e2⟩
      have e1 : μ13 = μx := e1
      have e2 : r14.toInt = n := e2
      rw [e1, bd_bd]
      refine pk_bd g3 ?_
      rintro r16 μ15 ⟨e3, e4⟩
      have e4 : r16.toInt = m := e4
      refine pk_bdv (r0 := r14 + r16) (μ0 := μ15) (pk_some ⟨rfl, rfl⟩) (pk_some ?_)
      show (r14 + r16).toInt = n + m
      rw [ti_add (by omega) (by omega), e2, e4]
    · rintro r14 μ13 ⟨e1, e2⟩
      have e1 : μ13 = μm := e1
      have e2 : r14.toInt = n := e2
      rw [e1]
      refine pk_bd g4 ?_
      rintro r16 μ15 ⟨e3, e4⟩
      have e4 : r16.toInt = m := e4
      refine pk_some ?_
      show (r14 + r16).toInt = n + m
      rw [ti_add (by omega) (by omega), e2, e4]
  rw [if_neg c5, if_neg c5]
  by_cases c6 : a1 = 6
  · rw [if_pos c6, if_pos c6]; exact one 10 (by decide) (by decide) (by decide)
  rw [if_neg c6, if_neg c6]
  by_cases c7 : a1 = 7
  · rw [if_pos c7, if_pos c7]; exact one 6 (by decide) (by decide) (by decide)
  rw [if_neg c7, if_neg c7]
  by_cases c8 : a1 = 8
  · rw [if_pos c8, if_pos c8]; exact fld _ _ u2
  rw [if_neg c8, if_neg c8]
  by_cases c9 : a1 = 9
  · rw [if_pos c9, if_pos c9]; exact fld _ _ u3
  rw [if_neg c9, if_neg c9]
  exact fld _ _ rfl
end

section
theorem rx_has {G : List Fn5} {V : Nat} {It Bk : List Nat} {cl : Nat → Prop} {q z : Mem} (h : RB9 G V It Bk cl q z) (h1 : q.1 39 0 ≠ 0) (h2 : z.1 0 95 ≠ 0) (a1 : Int32) : (∃ u : Nat, u < V ∧ a1.toInt = (u : Int) ∧ pk (p_X5_hasVariant a1 q) (fun r => r.1 = 1 ∧ r.2 = q) ∧ pk (p_X12_isVariant a1 z) (fun r => r.1 = 1 ∧ r.2 = z)) ∨ (pk (p_X5_hasVariant a1 q) (fun r => r.1 = 0 ∧ r.2 = q) ∧ pk (p_X12_isVariant a1 z) (fun r => r.1 = 0 ∧ r.2 = z)) := by
  have e0 : (0 : Int32).toInt = 0 := by decide
  have e1 : (1 : Int32).toInt = 1 := by decide
  obtain ⟨P, tP, b1, b3, b2, d2, d1, d3, d4⟩ := h.lim
  have hs : (z.1 0 110 - 1).toInt = (V : Int) - 1 := by rw [ti_sub (by omega) (by omega), d2, e1]
  rw [p_X5_hasVariant_eq, if_neg h1, p_X12_isVariant_eq, if_neg h2]
  by_cases c : 0 ≤ a1.toInt ∧ a1.toInt < (V : Int)
  · refine Or.inl ⟨a1.toInt.toNat, by omega, by omega, ?_, ?_⟩
    · rw [if_neg (by rw [ti_lt, e0]; omega), if_neg (by rw [ti_le, d1]; omega)]
      exact pk_some ⟨rfl, rfl⟩
    · rw [if_neg (isIn_nz.mpr ⟨by rw [ti_lt, e0]; omega, by rw [ti_lt, hs]; omega⟩)]
      exact pk_some ⟨rfl, rfl⟩
  · refine Or.inr ⟨?_, ?_⟩
    · refine pk_ite (fun _ => pk_some ⟨rfl, rfl⟩) (fun c1 => ?_)
      rw [ti_lt, e0] at c1
      rw [if_pos (by rw [ti_le, d1]; omega)]
      exact pk_some ⟨rfl, rfl⟩
    · refine pk_ite (fun _ => pk_some ⟨rfl, rfl⟩) (fun c1 => ?_)
      have := isIn_nz.mp c1
      rw [ti_lt, ti_lt, e0, hs] at this
      omega
theorem none_has {q z : Mem} (h1 : q.1 39 0 = 0) (h2 : z.1 0 95 = 0) (a1 : Int32) : pk (p_X5_hasVariant a1 q) (fun r => r.1 = 0 ∧ r.2 = q) ∧ pk (p_X12_isVariant a1 z) (fun r => r.1 = 0 ∧ r.2 = z) := by
  rw [p_X5_hasVariant_eq, if_pos h1, p_X12_isVariant_eq, if_pos h2]
  exact ⟨pk_some ⟨rfl, rfl⟩, pk_some ⟨rfl, rfl⟩⟩
theorem RB9.row {G : List Fn5} {V u : Nat} {It Bk : List Nat} {cl : Nat → Prop} {q z : Mem} (h : RB9 G V It Bk cl q z) (hu : u < V) : ∃ a b : Nat, (z.1 62 u).toInt = (a : Int) ∧ (z.1 63 u).toInt = (b : Int) ∧ a ≤ b ∧ (b : Int) ≤ (z.1 0 87).toInt := by
  obtain ⟨l1, l2, l3⟩ := h.le u hu
  exact ⟨(z.1 62 u).toInt.toNat, (z.1 63 u).toInt.toNat, by omega, by omega, by omega, by omega⟩
theorem rq_kinds {μx μm : Mem} (h : Rxx9 μx μm) (h87 : (μm.1 0 87).toInt ≤ 960) (a1 a2 : Int32) : pk2 (p_X11_kinds a1 a2 μx) (p_X12_kinds a1 a2 μm) Ea9 := by
  have e0 : (0 : Int32).toInt = 0 := by decide
  have e12 : (12 : Int32).toInt = 12 := by decide
  have e13 : (13 : Int32).toInt = 13 := by decide
  have e14 : (14 : Int32).toInt = 14 := by decide
  have em : (-1 : Int32).toInt = -1 := by decide
  rw [p_X11_kinds_eq, p_X12_kinds_eq]
  have no : pk (p_X5_hasVariant a1 μx) (fun r => r.1 = 0 ∧ r.2 = μx) ∧ pk (p_X12_isVariant a1 μm) (fun r => r.1 = 0 ∧ r.2 = μm) → pk2 (bd (p_X5_hasVariant a1 μx) (fun r2 μ1 => (if r2 = 0 then some (-1, μ1) else (if a2 < 0 then some (-1, μ1) else (if a2 < 13 then bd (p_X5_countOf a1 a2 μ1) (fun r7 μ6 => some (r7, μ6)) else some (-1, μ1)))))) (bd (p_X12_isVariant a1 μm) (fun r2 μ1 => (if r2 = 0 then some (-1, μ1) else (if (s_X12_isIn a2 0 12) = 0 then some (-1, μ1) else bd (p_X12_countKind a1 a2 μ1) (fun r6 μ5 => some (r6, μ5)))))) Ea9 := by
    rintro ⟨g1, g2⟩
    refine pk2_val (x := -1) (pk_bdv g1 ?_) (pk_bdv g2 ?_)
    · rw [if_pos rfl]; exact pk_some rfl
    · rw [if_pos rfl]; exact pk_some rfl
  rcases h with ⟨h1, h2⟩ | ⟨h1, h2, G, V, It, Bk, cl, hB⟩
  · exact no (none_has h1 h2 a1)
  rcases rx_has hB h1 h2 a1 with ⟨u, hu, ha, g1, g2⟩ | g
  · obtain ⟨P, tP, b1, b3, b2, d2, d1, d3, d4⟩ := hB.lim
    obtain ⟨a, b, r1, r2, r3, r4⟩ := hB.row hu
    refine pk2_bdvl g1 (pk2_bdvr g2 ?_)
    rw [if_neg (show ¬ (1 : Int32) = 0 by decide), if_neg (show ¬ (1 : Int32) = 0 by decide)]
    by_cases c : 0 ≤ a2.toInt ∧ a2.toInt < 13
    · rw [if_neg (by rw [ti_lt, e0]; omega), if_pos (by rw [ti_lt, e13]; omega), if_neg (isIn_nz.mpr ⟨by rw [ti_lt, e0]; omega, by rw [ti_lt, e12]; omega⟩)]
      have n13 : a2 ≠ 13 := fun e => by rw [e, e13] at c; omega
      have n14 : a2 ≠ 14 := fun e => by rw [e, e14] at c; omega
      have nm : a2 ≠ -1 := fun e => by rw [e, em] at c; omega
      refine pk2_int (n := ((((List.range' a (b - a)).filter (fun p => decide (μm.1 46 p = a2))).length : Nat) : Int)) (pk_bd (c_countOf (v := some u) (k := some a2) b1 b3 (Or.inr ⟨u, rfl, ha⟩) (Or.inr ⟨rfl, nm⟩)) (fun r μ hr => pk_some ?_)) (pk_bd (m_countKind ha r1 r2 r3 (by omega)) (fun r μ hr => pk_some hr.2))
      have hr2 : r.toInt = _ := hr.2
      show r.toInt = _
      rw [hr2, hB.kindv hu r1 r2 n13 n14]
    · have hi : s_X12_isIn a2 0 12 = 0 := by
        rcases Decidable.em (s_X12_isIn a2 0 12 = 0) with e | e
        · exact e
        · have := isIn_nz.mp e
          rw [ti_lt, ti_lt, e0, e12] at this
          omega
      rw [if_pos hi]
      by_cases c1 : a2 < 0
      · rw [if_pos c1]; exact pk2_some rfl
      · rw [if_neg c1, if_neg (by rw [ti_lt, e13]; rw [ti_lt, e0] at c1; omega)]; exact pk2_some rfl
  · exact no g
theorem rq_variant {μx μm : Mem} (h : Rxx9 μx μm) (h87 : (μm.1 0 87).toInt ≤ 960) (a1 a2 : Int32) : pk2 (p_X11_variant a1 a2 μx) (p_X12_variant a1 a2 μm) Ea9 := by
  have e0 : (0 : Int32).toInt = ((0 : Nat) : Int) := by decide
  have e1 : (1 : Int32).toInt = ((1 : Nat) : Int) := by decide
  have e1' : (1 : Int32).toInt = 1 := by decide
  have e2 : (2 : Int32).toInt = ((2 : Nat) : Int) := by decide
  have e6 : (6 : Int32).toInt = 6 := by decide
  rw [p_X11_variant_eq, p_X5_aboutVariant_eq, p_X12_variant_eq, bd_bd]
  rcases h with ⟨h1, h2⟩ | ⟨h1, h2, G, V, It, Bk, cl, hB⟩
  · obtain ⟨g1, g2⟩ := none_has h1 h2 a1
    refine pk2_bdvl g1 (pk2_bdvr g2 ?_)
    rw [if_pos rfl, if_pos rfl]
    exact pk2_some rfl
  rcases rx_has hB h1 h2 a1 with ⟨u, hu, ha, g1, g2⟩ | ⟨g1, g2⟩
  rotate_left
  · refine pk2_bdvl g1 (pk2_bdvr g2 ?_)
    rw [if_pos rfl, if_pos rfl]
    exact pk2_some rfl
  obtain ⟨P, tP, b1, b3, b2, d2, d1, d3, d4⟩ := hB.lim
  obtain ⟨a, b, r1, r2, r3, r4⟩ := hB.row hu
  have hau : a1 = nI u := ti_eq.mpr (by rw [ha, ni_ti (by omega)])
  obtain ⟨V', v1, v2, v3, v4⟩ := hB.2.2.2.1
  have s57 : ∀ i k, i ≠ 0 → (sF μm 0 111 (nI V - 1)).1 i k = μm.1 i k := fun i k hi => sF_i hi
  obtain ⟨⟨f', L, a1', a2', a3, a4, a5, a6, a8, a9, a7⟩, hpar, _, _, _⟩ := v4 u (by omega)
  rw [s57 57 u (by decide)] at a1'
  rw [s57 58 u (by decide)] at a4
  rw [s57 2 f' (by decide), s57 3 f' (by decide)] at a3
  rw [s57 59 u (by decide)] at a9
  rw [s57 66 u (by decide)] at hpar
  have tk : ∀ k, k < L → Tk7 (μx.2.1 (48 + 3 * u) k) (μm.1 60 (210 * u + k)) (μm.1 61 (210 * u + k)) := fun k hk => by
    have := a7 k hk
    rw [s57 60 _ (by decide), s57 61 _ (by decide)] at this; exact this
  have n60 : (fun k => decide ((sF μm 0 111 (nI V - 1)).1 60 (210 * u + k) = 3)) = (fun k => decide (μm.1 60 (210 * u + k) = 3)) := funext (fun k => by rw [s57 60 _ (by decide)])
  rw [n60] at a9
  have ql : ∀ k, μx.2.1 (47 + 3 * u + 1) k = μx.2.1 (48 + 3 * u) k := fun k => by rw [show 47 + 3 * u + 1 = 48 + 3 * u by omega]
  have pat := c_patternOf (μ := μx) ha (by omega)
  refine pk2_bdvl g1 (pk2_bdvr g2 ?_)
  rw [if_neg (show ¬ (1 : Int32) = 0 by decide), if_neg (show ¬ (1 : Int32) = 0 by decide)]
  by_cases c0 : a2 = 0
  · rw [if_pos c0, if_pos c0, bd_bd, tn_of ha, tn_of a1']
    refine pk2_bdvl pat (pk2_gdr (fun _ => pk2_gdr (fun _ => ?_)))
    refine pk2_some (P := Ea9) ?_
    show μx.1 (47 + 3 * u) 3 / 6 + 1 = μm.1 2 f'
    obtain ⟨f, H1, H2, hG, hGl, w1, w2⟩ := fn_key hB.2.2.1.2 a2'
    have kf : Kv (fkey f) := hB.2.2.1.1.2 _ (List.mem_map.mpr ⟨f, by rw [hG]; simp, rfl⟩)
    have hl := isL_r (c := f.1) kf.1
    have h5 : f.2.1.length ≤ 5 := kf.2
    have d0 : (97 : Int32).toInt = 97 := by decide
    have t1 : (f.1 - 97).toInt = f.1.toInt - 97 := by rw [ti_sub (by omega) (by omega), d0]
    have t2 : (μm.1 2 f').toInt = f.1.toInt - 97 + 1 := by rw [w1, ti_add (by omega) (by omega), t1, e1']
    have t3 : (μx.1 (47 + 3 * u) 3).toInt = (f.1.toInt - 97) * 6 + (f.2.1.length : Int) := by rw [a3, t2, w2]; omega
    have t4 : (μx.1 (47 + 3 * u) 3 / 6).toInt = f.1.toInt - 97 := by
      rw [Int32.toInt_div, e6, t3, Int.tdiv_eq_ediv_of_nonneg (by omega), Int.bmod_eq_of_le (by omega) (by omega)]; omega
    exact ti_eq.mpr (by rw [ti_add (by omega) (by omega), t4, e1', t2])
  rw [if_neg c0, if_neg c0]
  obtain ⟨bu, o, m, bt, _, _, _, _, x7, _⟩ := hB.2.2.2.2.2.2.2.1 u hu
  by_cases c1 : a2 = 1
  · rw [if_pos c1, if_pos c1, bd_bd, tn_of ha]
    refine pk2_bdvl (c_ofVt (c := 2) ha e2 d1 hu d4 (by omega)) (pk2_gdr (fun _ => pk2_some ?_))
    exact x7
  rw [if_neg c1, if_neg c1]
  by_cases c2 : a2 = 2
  · rw [if_pos c2, if_pos c2, bd_bd, tn_of ha]
    refine pk2_bdvl pat (pk2_gdr (fun _ => ?_))
    rw [bd_bd]
    refine pk2_bdl (c_stars (pt := 47 + 3 * u) (L := L) a6 a5) ?_
    rintro r μ ⟨x1, x2⟩
    have x2 : r = cn9 (fun k => decide (s_X0_kind (μx.2.1 (47 + 3 * u + 1) k) = 4)) 0 L 0 := x2
    refine pk2_some ?_
    show r = μm.1 59 u
    refine ti_eq.mpr ?_
    rw [x2, cn9_ti L 0 0 0 e0 (by omega), Nat.zero_add, a9, rng0]
    refine congrArg (fun (L : List Nat) => (L.length : Int)) (List.filter_congr (fun k hk => ?_))
    have hk := List.mem_range'_1.mp hk
    have t := tk k (by omega)
    rw [ql, tk_kind t]
    by_cases c : μm.1 60 (210 * u + k) = 3
    · rw [if_pos c, decide_eq_true rfl, decide_eq_true c]
    · rw [if_neg c]
      have n4 : ¬ μm.1 60 (210 * u + k) = 4 := by
        rcases tk_cases t with ⟨a, _⟩ | ⟨a, _⟩ | ⟨l, hl, a, _⟩
        · rw [a]; decide
        · rw [a]; decide
        · rw [a]; rcases hl with e | e <;> subst e <;> decide
      rw [decide_eq_false n4, decide_eq_false c]
  rw [if_neg c2, if_neg c2]
  by_cases c3 : a2 = 3
  · rw [if_pos c3, if_pos c3, bd_bd, p_X12_instructionsOf_eq, tn_of ha]
    have f3 := flt3 (kd := μm.1 46) (List.range' a (b - a))
    rw [List.length_range'] at f3
    refine pk2_int (n := ((((List.range' a (b - a)).filter (fun p => decide (μm.1 46 p ≠ 13 ∧ μm.1 46 p ≠ 14))).length : Nat) : Int)) (pk_bd (c_countOf (v := some u) (k := none) b1 b3 (Or.inr ⟨u, rfl, ha⟩) (Or.inl ⟨rfl, rfl⟩)) (fun r μ hr => pk_some ?_)) ?_
    · have hr2 : r.toInt = _ := hr.2
      show r.toInt = _
      rw [hr2, hB.allv hu r1 r2]
    · refine pk_bd (P := fun r => r.1.toInt = ((((List.range' a (b - a)).filter (fun p => decide (μm.1 46 p ≠ 13 ∧ μm.1 46 p ≠ 14))).length : Nat) : Int)) ?_ (fun r μ hr => pk_some hr)
      refine pk_gd (fun _ => pk_gd (fun _ => pk_bd (m_countKind ha r1 r2 r3 (by omega)) ?_))
      rintro r2' μ1 ⟨x1, x2⟩
      have x1 : μ1 = μm := x1
      have x2 : r2'.toInt = _ := x2
      rw [x1]
      refine pk_bd (m_countKind ha r1 r2 r3 (by omega)) ?_
      rintro r4' μ3 ⟨x3, x4⟩
      have x3 : μ3 = μm := x3
      have x4 : r4'.toInt = _ := x4
      rw [x3]
      refine pk_some ?_
      show (μm.1 63 u - μm.1 62 u - r2' - r4').toInt = _
      have q1 : (μm.1 63 u - μm.1 62 u).toInt = (b : Int) - (a : Int) := by rw [ti_sub (by omega) (by omega), r1, r2]
      have l13 := flt_le (φ := fun p => decide (μm.1 46 p = 13)) (a := a) (m := b - a)
      have l14 := flt_le (φ := fun p => decide (μm.1 46 p = 14)) (a := a) (m := b - a)
      have q2 : (μm.1 63 u - μm.1 62 u - r2').toInt = (b : Int) - (a : Int) - r2'.toInt := by rw [ti_sub (by omega) (by omega), q1]
      rw [ti_sub (by omega) (by omega), q2]
      omega
  rw [if_neg c3, if_neg c3]
  by_cases c4 : a2 = 4
  · rw [if_pos c4, if_pos c4, bd_bd, tn_of ha]
    refine pk2_bdvl (c_ofVt (c := 0) ha e0 d1 hu d4 (by omega)) (pk2_gdr (fun _ => pk2_some ?_))
    exact hpar
  rw [if_neg c4, if_neg c4]
  by_cases c5 : a2 = 5
  · rw [if_pos c5, if_pos c5, bd_bd, hau]
    have hq := hB.2.2.2.2.2.1 u (by omega)
    rw [if_pos (by rw [d1]; omega), hB.calls tP] at hq
    refine pk2_int (n := ((((List.range P).filter (fun p => decide (μm.1 46 p = 11 ∧ μm.1 48 p = nI u))).length : Nat) : Int)) (pk_bd (c_ofVt (c := 1) (by rw [← hau]; exact ha) e1 d1 hu d4 (by omega)) (fun r μ hr => pk_some ?_)) (pk_bd (m_callsOf tP (by omega)) (fun r μ hr => pk_some hr.2))
    have hr1 : r = μx.1 45 (4 * u + 1) := hr.1
    show r.toInt = _
    rw [hr1]; exact hq
  rw [if_neg c5, if_neg c5]
  by_cases c6 : a2 = 6
  · rw [if_pos c6, if_pos c6, bd_bd]
    refine pk2_bdvl pat ?_
    rw [bd_bd]
    refine pk2_int (n := ((((List.range' 0 L).filter (fun k => decide (s_X12_isNumber (μm.1 60 (210 * u + k)) ≠ 0))).length : Nat) : Int)) (pk_bd (c_numbers (pt := 47 + 3 * u) (L := L) a6 a5) (fun r μ hr => pk_some ?_)) (pk_bd (m_knownIn ha (by omega) a4 a5) (fun r μ hr => pk_some hr.2))
    have hr2 : r.toInt = _ := hr.2
    show r.toInt = _
    rw [hr2]
    refine congrArg (fun (L : List Nat) => (L.length : Int)) (List.filter_congr (fun k hk => ?_))
    have hk := List.mem_range'_1.mp hk
    rw [ql]
    exact decide_eq_decide.mpr (not_congr (num_eq (tk k (by omega))).1.symm)
  rw [if_neg c6, if_neg c6]
  exact pk2_some rfl
end

section
theorem RB9.of {G : List Fn5} {V : Nat} {It Bk : List Nat} {cl : Nat → Prop} {q z r s : Mem} (h : RB9 G V It Bk cl q z) (c39 : ∀ k, 1 ≤ k → k ≤ 6 → r.1 39 k = q.1 39 k) (cx : ∀ i k, Pc9 i → i ≠ 39 → r.1 i k = q.1 i k) (cy : ∀ i k, Pc9 i → r.2.1 i k = q.2.1 i k) (z0 : ∀ k, k = 87 ∨ k = 88 ∨ k = 89 ∨ k = 91 ∨ k = 96 ∨ k = 97 ∨ k = 110 → s.1 0 k = z.1 0 k) (zi : ∀ i k, (46 ≤ i ∧ i ≤ 54) ∨ (57 ≤ i ∧ i ≤ 66) → s.1 i k = z.1 i k) (z2 : ∀ i k, i = 2 ∨ i = 3 → s.1 i k = z.1 i k) (hp : Pn5 s G) : RB9 G V It Bk cl r s := by
  obtain ⟨a1, a2, a3, a4, a5, a6, a7, a8, a9, b1⟩ := h
  have x1 := c39 1 (by omega) (by omega)
  have x2 := c39 2 (by omega) (by omega)
  have x3 := c39 3 (by omega) (by omega)
  have x4 := c39 4 (by omega) (by omega)
  have x5 := c39 5 (by omega) (by omega)
  have x6 := c39 6 (by omega) (by omega)
  have x40 : r.1 40 = q.1 40 := funext (fun k => cx 40 k (by unfold Pc9; omega) (by decide))
  have x42 : r.1 42 = q.1 42 := funext (fun k => cx 42 k (by unfold Pc9; omega) (by decide))
  have x43 : r.1 43 = q.1 43 := funext (fun k => cx 43 k (by unfold Pc9; omega) (by decide))
  have x45 : r.1 45 = q.1 45 := funext (fun k => cx 45 k (by unfold Pc9; omega) (by decide))
  have l41 : r.2.1 41 = q.2.1 41 := funext (fun k => cy 41 k (by unfold Pc9; omega))
  have l44 : r.2.1 44 = q.2.1 44 := funext (fun k => cy 44 k (by unfold Pc9; omega))
  have m : ∀ i, (46 ≤ i ∧ i ≤ 54) ∨ (57 ≤ i ∧ i ≤ 66) → s.1 i = z.1 i := fun i hi => funext (fun k => zi i k hi)
  have m46 := m 46 (by omega)
  have m47 := m 47 (by omega)
  have m48 := m 48 (by omega)
  have m49 := m 49 (by omega)
  have m50 := m 50 (by omega)
  have m51 := m 51 (by omega)
  have m52 := m 52 (by omega)
  have m53 := m 53 (by omega)
  have m54 := m 54 (by omega)
  have m62 := m 62 (by omega)
  have m63 := m 63 (by omega)
  have m64 := m 64 (by omega)
  have m65 := m 65 (by omega)
  have f87 := z0 87 (by omega)
  have f88 := z0 88 (by omega)
  have f89 := z0 89 (by omega)
  have f91 := z0 91 (by omega)
  have f96 := z0 96 (by omega)
  have f97 := z0 97 (by omega)
  have f110 := z0 110 (by omega)
  refine ⟨?_, ?_, ⟨a3.1, hp⟩, ?_, ?_, ?_, ?_, ?_, ?_, ?_⟩
  · unfold It9 Is7 Op7 at a1 ⊢
    simp only [x1, x40, l41, m46, m47, m48, m51, m52, m53, m54, m62, m63, f87, f88, f89]
    exact a1
  · unfold Cn7 Bb7 at a2 ⊢
    simp only [x6, x40, x42, x43]
    exact a2
  · obtain ⟨V', v1, v2, v3, v4⟩ := a4
    rw [sF_k (by decide)] at v2
    have s0 : (sF s 0 111 (nI V - 1)).1 0 111 = (sF z 0 111 (nI V - 1)).1 0 111 := by rw [sF_v, sF_v]
    have t : ∀ i, (i = 2 ∨ i = 3) ∨ (57 ≤ i ∧ i ≤ 66) → (sF s 0 111 (nI V - 1)).1 i = (sF z 0 111 (nI V - 1)).1 i := fun i hi => funext (fun k => by
      rw [sF_i (by omega), sF_i (by omega)]
      rcases hi with hi | hi
      · exact z2 i k hi
      · exact zi i k (Or.inr hi))
    refine ⟨V', by rw [x2]; exact v1, by rw [sF_k (by decide), f110]; exact v2, v3, fun u hu => ?_⟩
    have e47 : r.1 (47 + 3 * u) = q.1 (47 + 3 * u) := funext (fun k => cx _ k (by unfold Pc9; omega) (by omega))
    have e48 : r.2.1 (48 + 3 * u) = q.2.1 (48 + 3 * u) := funext (fun k => cy _ k (by unfold Pc9; omega))
    have w := v4 u hu
    unfold Pb9 at w ⊢
    rw [e47, e48, x45, t 2 (by omega), t 3 (by omega), t 57 (by omega), t 58 (by omega), t 59 (by omega), t 60 (by omega), t 61 (by omega), t 66 (by omega), s0]
    exact w
  · rw [x2]; exact a5
  · intro u hu
    have w := a6 u hu
    rw [Ct9.cong2 (z := z) (fun k => by rw [m46]) (fun k => by rw [m48]), x2, x45]
    exact w
  · exact ⟨by rw [x3, f91]; exact a7.1, by rw [x4, f96]; exact a7.2.1, by rw [x5, f97]; exact a7.2.2⟩
  · intro u hu
    have w := a8 u hu
    unfold Vd9 Sf8 at w ⊢
    rw [x45, x6, x40, l44, m46, m49, m50, m51, m53, m54, m62, m63, m64, m65, f87, f88]
    exact w
  · unfold Cv9 at a9 ⊢
    rw [m46, f87]
    exact a9
  · unfold Ord9 at b1 ⊢
    rw [m62, m63, f87]
    exact b1
theorem Rxx9.of {q z r s : Mem} (h : Rxx9 q z) (hx : Zc9 q r) (hm : Zm9 z s) : Rxx9 r s := by
  have h2 : ∀ i k, 2 ≤ i → i ≤ 9 → s.1 i k = z.1 i k := fun i k a b => hm i k (by unfold Pm9x; omega)
  rcases h with ⟨a, b⟩ | ⟨a, b, G, V, It, Bk, cl, hB⟩
  · exact Or.inl ⟨by rw [hx.2.1 39 0 (by unfold Pc9; omega)]; exact a, by rw [hm 0 95 (by unfold Pm9x; omega)]; exact b⟩
  · exact Or.inr ⟨by rw [hx.2.1 39 0 (by unfold Pc9; omega)]; exact a, by rw [hm 0 95 (by unfold Pm9x; omega)]; exact b, G, V, It, Bk, cl, hB.of (fun k _ _ => hx.2.1 39 k (by unfold Pc9; omega)) (fun i k hi _ => hx.2.1 i k hi) (fun i k hi => hx.2.2 i k hi) (fun k hk => hm 0 k (by unfold Pm9x; omega)) (fun i k hi => hm i k (by unfold Pm9x; omega)) (fun i k hi => h2 i k (by omega) (by omega)) (Pn5.of hB.2.2.1.2 (fun k hk => hm 0 k (by unfold Pm9x; omega)) h2)⟩
theorem RS9.rx {q z : Mem} (h : RS9 q z) : Rxx9 q z := by
  rcases h with h | ⟨P, C, G, v, It, Bk, cl, q1, z1, hV, hv, h0, e1, e2⟩
  · exact Or.inl h
  · obtain ⟨a1, ⟨b1, b2, b3, _, _, b6⟩, _, hPr, hPa, _, _, hC, hN, _, hVd, hCv, _, hO⟩ := hV
    have hPn : Pn5 z1 G := hPr.2.2.2.2.2.2.2.1
    have hB : RB9 G v It Bk cl q1 z1 := by
      obtain ⟨V, v1, v2, v3, _⟩ := id hPa
      exact ⟨a1, ⟨b1, b2, b3⟩, ⟨hPr.2.2.2.2.1, hPn⟩, hPa, ⟨by omega, h0, by omega⟩, hC, hN, hVd, hCv, hO⟩
    subst e1 e2
    exact Or.inr ⟨by rw [sF_v]; decide, by rw [sF_v]; decide, G, v, It, Bk, cl, hB.of (fun k a b => by rw [sF_k (by omega), sF_i (by decide)]) (fun i k hi h => by rw [sF_i h, sF_i (by unfold Pc9 at hi; omega)]) (fun i k hi => rfl) (fun k hk => by rw [sF_k (by omega)]) (fun i k hi => by rw [sF_i (by omega)]) (fun i k hi => by rw [sF_i (by omega)]) (Pn5.of hPn (fun k hk => by rw [sF_k (by omega)]) (fun i k a b => by rw [sF_i (by omega)]))⟩
def R12 (μx μm : Mem) : Prop := Rq9 μx μm ∧ Rxx9 μx μm
theorem r12_0 : R12 μX0 μM0 := ⟨r9_0, Or.inl ⟨by decide +kernel, by decide +kernel⟩⟩
theorem r12_of {f g : Option (Int32 × Mem)} {μx μm : Mem} (hR : R12 μx μm) (hc : ok f (fun q => ok g (fun z => Rq9 q.2 z.2))) (hx : pk f (fun q => Zc9 μx q.2)) (hm : pk g (fun z => Zm9 μm z.2)) : ok f (fun q => ok g (fun z => R12 q.2 z.2)) := by
  obtain ⟨q, e1, z, e2, h⟩ := hc
  exact ⟨q, e1, z, e2, h, hR.2.of (hx q e1) (hm z e2)⟩
theorem r12q_of {f g : Option (Int32 × Mem)} {μx μm : Mem} (hR : R12 μx μm) (hc : ok f (fun q => ok g (fun z => Rq9 q.2 z.2 ∧ q.1 = z.1))) (hx : pk f (fun q => Zc9 μx q.2)) (hm : pk g (fun z => Zm9 μm z.2)) : ok f (fun q => ok g (fun z => R12 q.2 z.2 ∧ q.1 = z.1)) := by
  obtain ⟨q, e1, z, e2, h⟩ := hc
  exact ⟨q, e1, z, e2, ⟨h.1, hR.2.of (hx q e1) (hm z e2)⟩, h.2⟩
theorem r12c_of {f g : Option (Int32 × Mem)} {μx μm : Mem} (hR : R12 μx μm) (hc : ok f (fun q => ok g (fun z => Rq9 q.2 z.2))) (hx : pk f (fun q => Zc9 μx q.2)) (hm : pk g (fun z => Zm9 μm z.2)) (hq : pk2 f g Ea9) : ok f (fun q => ok g (fun z => R12 q.2 z.2 ∧ q.1 = z.1)) := by
  obtain ⟨q, e1, z, e2, h⟩ := hc
  exact ⟨q, e1, z, e2, ⟨h, hR.2.of (hx q e1) (hm z e2)⟩, hq q z e1 e2⟩
theorem r12_fst {f g : Option (Int32 × Mem)} (h : ok f (fun q => ok g (fun z => R12 q.2 z.2 ∧ q.1 = z.1))) : ok f (fun q => ok g (fun z => R12 q.2 z.2)) := ok_imp (fun q h => ok_imp (fun z h => h.1) h) h
theorem pk_bdE {α β : Type} {f : Option (α × Mem)} {g : α → Mem → Option β} {Q : β → Prop} (h : ∀ a m, f = some (a, m) → pk (g a m) Q) : pk (bd f g) Q := by
  intro r e
  cases hf : f with
  | none => rw [hf] at e; cases e
  | some p => obtain ⟨a, m⟩ := p; rw [hf] at e; exact h a m hf r e
end

section
theorem xc_take (μ : Mem) : pk (p_X11_takeTape μ) (fun q => q.2 = μ.2 ∧ Zc9 μ q) := pk_mono (q_take11F μ) (fun q h => ⟨h.1, rfl, fun i k hp => h.2 i k (by unfold Pc9 at hp; omega) (by unfold Pc9 at hp; omega), fun i k _ => by rw [h.1]⟩)
theorem xc_program {μ : Mem} (hS : Sw5 μ) : pk (p_X11_program μ) (fun r => (r.1 = -1 ∧ Zc9 μ r.2) ∨ (r.2.1 39 0 = 0 ∧ r.1 = r.2.1 (sel 2 (r.2.2.2 0 4)) 0)) := by
  rw [p_X11_program_eq]
  refine pk_bw (xc_take μ) ?_
  rintro μ1 ⟨f1, g1⟩
  obtain ⟨P, hP, s5, sP⟩ : ∃ P, P29 P ∧ μ.2.2 0 5 = P ∧ sel 2 P = P := by
    rcases hS with ⟨a, b⟩ | ⟨a, b⟩
    · exact ⟨9, by unfold P29; omega, b, sel_29⟩
    · exact ⟨2, by unfold P29; omega, b, sel_22⟩
  rw [show μ1.2.2 0 5 = P by rw [f1]; exact s5, sP, p_X4_readProgram_eq]
  refine pk_bw (P := fun q => Vz5 P (sR μ1 16 4 P) q) ?_ ?_
  · refine pk_bvy (fun μ2 e2 => ?_)
    have r2 : μ2.2.2 16 4 = P := by rw [e2, sR_3, if_pos rfl, if_pos rfl]
    have V2 : Vg5 P μ2 := ⟨hP, by rw [r2]; exact sP⟩
    rw [r2, sP, ← e2]
    exact pk_bw (v_X3_clear P μ2 rfl V2) (fun μ3 z3 => pk_mono (v_X4_readProgram_b14 FUEL 0 μ3 z3.1) (fun q hq => z3.tr hq))
  rintro μ3 ⟨_, z3, f3⟩
  refine pk_bd (P := fun r => r.2 = μ3) (by rw [p_X4_badPlace_eq]; exact pk_some rfl) ?_
  rintro r6 μ5 e
  have e : μ5 = μ3 := e
  subst e
  refine pk_bvy (fun μ7 m7 => ?_)
  have z7 : Zc9 μ μ7 := by
    refine ⟨rfl, fun i k hp => ?_, fun i k hp => ?_⟩
    · have h18 : 18 ≤ i := by unfold Pc9 at hp; omega
      rw [m7, sF_i (by omega), z3 i k (by unfold Pv5; omega)]
      exact g1.2.1 i k hp
    · rw [m7]
      show μ5.2.1 i k = _
      rw [f3]
      exact g1.2.2 i k hp
  refine pk_ite (fun c => ?_) (fun c => pk_some (Or.inl ⟨rfl, z7⟩))
  refine pk_bvy (fun μ9 _ => pk_bvy (fun μ10 _ => pk_bw (c_clear9 μ10) ?_))
  rintro μ11 ⟨_, _, k3⟩
  exact pk_some (Or.inr ⟨k3 0 (by omega), rfl⟩)
theorem Zm9.cp {a0 a3 : Nat} {a1 a2 a4 : Int32} {μ : Mem} {g : Mem → Option (Int32 × Mem)} {R : Int32 × Mem → Prop} (h0 : μ.1 0 95 = 0) (h3 : a3 ≠ 0) (hg : ∀ q, q.1 0 95 = 0 → pk (g q) R) : pk (bw (p_X12_copy a0 a1 a2 a3 a4 μ) g) R := pk_bw (q_copy a0 a1 a2 a3 a4 μ) (fun q hq => hg q (by rw [hq 0 95 (fun e => h3 e.symm)]; exact h0))
theorem xm_program (μ : Mem) : pk (p_X12_program μ) (fun r => (r.1 = -1 ∧ Zm9 μ r.2) ∨ (r.2.1 0 95 = 0 ∧ r.1 = r.2.1 0 17)) := by
  rw [p_X12_program_eq]
  refine pk_bd (x_X12_readProgram μ) ?_
  rintro r2 μ1 hz
  have hz : Zm9 μ μ1 := hz
  refine pk_bvy (fun μ3 e3 => ?_)
  have z3 : Zm9 μ μ3 := by rw [e3]; exact hz.sF (px_f (by decide))
  refine pk_ite (fun _ => pk_some (Or.inl ⟨rfl, z3⟩)) (fun _ => ?_)
  refine pk_bvy (fun μ5 e5 => pk_bvy (fun μ6 e6 => pk_bvy (fun μ7 e7 => ?_)))
  have t7 : μ7.1 0 95 = 0 := by rw [e7, sF_k (by decide), e6, sF_k (by decide), e5, sF_v]
  refine Zm9.cp t7 (by decide) (fun μ8 t8 => Zm9.cp t8 (by decide) (fun μ10 t10 => Zm9.cp t10 (by decide) (fun μ12 t12 => Zm9.cp t12 (by decide) (fun μ14 t14 => Zm9.cp t14 (by decide) (fun μ16 t16 => Zm9.cp t16 (by decide) (fun μ18 t18 => Zm9.cp t18 (by decide) (fun μ20 t20 => Zm9.cp t20 (by decide) (fun μ22 t22 => ?_))))))))
  refine pk_bw (x_X12_layBehind μ22) (fun μ24 h24 => pk_some (Or.inr ⟨?_, rfl⟩))
  show μ24.1 0 95 = 0
  rw [h24 0 95 (by unfold Pm9x; omega)]
  exact t22
theorem xc_task {μ : Mem} (hR : Rfi μ) : pk (p_X11_task μ) (fun r => (r.1 = -1 ∧ Zc9 μ r.2) ∨ (r.2.1 39 0 = 0 ∧ p_X2_stars (sel 1 (r.2.2.2 0 6)) r.2 = some r)) := by
  have main : ∀ a : Nat, (a = 18 ∨ a = 21) → μ.2.2 0 7 = a → pk (p_X11_task μ) (fun r => (r.1 = -1 ∧ Zc9 μ r.2) ∨ (r.2.1 39 0 = 0 ∧ p_X2_stars (sel 1 (r.2.2.2 0 6)) r.2 = some r)) := by
    intro a ha h7
    have sa : sel 1 a = a := by rcases ha with rfl | rfl; exact sel_18; exact sel_21
    rw [p_X11_task_eq]
    refine pk_bw (xc_take μ) ?_
    rintro μ1 ⟨f1, g1⟩
    rw [show μ1.2.2 0 7 = a by rw [f1]; exact h7, sa]
    refine pk_bw (x_X4_readTask a μ1 (by unfold Gcx9; omega) rfl) (fun μ3 z3 => ?_)
    refine pk_bd (P := fun r => r.2 = μ3) (by rw [p_X4_badPlace_eq]; exact pk_some rfl) ?_
    rintro r6 μ5 e
    have e : μ5 = μ3 := e
    subst e
    refine pk_bvy (fun μ7 m7 => ?_)
    have z7 : Zc9 μ μ7 := by rw [m7]; exact (g1.tr z3).sF (by unfold Pc9; omega)
    refine pk_ite (fun _ => ?_) (fun _ => pk_some (Or.inl ⟨rfl, z7⟩))
    refine pk_bvy (fun μ9 _ => pk_bvy (fun μ10 _ => pk_bvy (fun μ11 _ => ?_)))
    refine pk_bw (q_begin2 _ 0 μ11) (fun μ12 _ => ?_)
    refine pk_bw (c_clear9 μ12) ?_
    rintro μ14 ⟨_, _, k3⟩
    refine pk_bdE (fun r17 μ16 hf => ?_)
    have e : μ16 = μ14 := kb_stars _ μ14 (r17, μ16) hf
    subst e
    exact pk_some (Or.inr ⟨k3 0 (by omega), hf⟩)
  rcases hR.1 with ⟨_, b⟩ | ⟨_, b⟩
  · exact main 21 (Or.inr rfl) b
  · exact main 18 (Or.inl rfl) b
theorem xm_task (μ : Mem) : pk (p_X12_task μ) (fun r => (r.1 = -1 ∧ Zm9 μ r.2) ∨ (r.2.1 0 95 = 0 ∧ r.1 = r.2.1 0 45)) := by
  rw [p_X12_task_eq]
  refine pk_bd (x_X12_readTask μ) ?_
  rintro r2 μ1 hz
  have hz : Zm9 μ μ1 := hz
  refine pk_bvy (fun μ3 e3 => ?_)
  have z3 : Zm9 μ μ3 := by rw [e3]; exact hz.sF (px_f (by decide))
  refine pk_ite (fun _ => pk_some (Or.inl ⟨rfl, z3⟩)) (fun _ => ?_)
  refine pk_bvy (fun μ5 e5 => pk_bvy (fun μ6 e6 => pk_bvy (fun μ7 e7 => pk_bvy (fun μ8 e8 => ?_))))
  have t8 : μ8.1 0 95 = 0 := by rw [e8, sF_k (by decide), e7, sF_k (by decide), e6, sF_k (by decide), e5, sF_v]
  refine Zm9.cp t8 (by decide) (fun μ9 t9 => Zm9.cp t9 (by decide) (fun μ11 t11 => ?_))
  refine pk_bvy (fun μ13 e13 => pk_bvy (fun μ14 e14 => pk_bvy (fun μ15 e15 => pk_some (Or.inr ⟨?_, rfl⟩))))
  show μ15.1 0 95 = 0
  rw [e15, sF_k (by decide), e14, sF_k (by decide), e13, sF_k (by decide)]
  exact t11
theorem xc_values {μ : Mem} (hR : Rfi μ) : pk (p_X11_values μ) (fun r => Zc9 μ r.2) := by
  have main : ∀ a : Nat, (a = 24 ∨ a = 27) → μ.2.2 0 9 = a → pk (p_X11_values μ) (fun r => Zc9 μ r.2) := by
    intro a ha h9
    have sa : sel 1 a = a := by rcases ha with rfl | rfl; exact sel_24; exact sel_27
    rw [p_X11_values_eq]
    refine pk_bw (xc_take μ) ?_
    rintro μ1 ⟨f1, g1⟩
    refine pk_bd (kb_stars _ μ1) ?_
    rintro r4 μ3 e
    have e : μ3 = μ1 := e
    subst e
    rw [show μ3.2.2 0 9 = a by rw [f1]; exact h9, sa]
    refine pk_bw (x_X4_readValues a r4 μ3 (by unfold Gcx9; omega) rfl) (fun μ5 z5 => ?_)
    refine pk_bd (P := fun r => r.2 = μ5) (by rw [p_X4_badPlace_eq]; exact pk_some rfl) ?_
    rintro r8 μ7 e
    have e : μ7 = μ5 := e
    subst e
    refine pk_bvy (fun μ9 m9 => ?_)
    have z9 : Zc9 μ μ9 := by rw [m9]; exact (g1.tr z5).sF (by unfold Pc9; omega)
    refine pk_ite (fun _ => ?_) (fun _ => pk_some z9)
    refine pk_bvy (fun μ11 m11 => pk_bvy (fun μ12 m12 => pk_bvy (fun μ13 m13 => pk_some ?_)))
    show Zc9 μ μ13
    rw [m13, m12, m11]
    exact (z9.sR.sR).sF (by unfold Pc9; omega)
  rcases hR.2 with ⟨_, b⟩ | ⟨_, b⟩
  · exact main 27 (Or.inr rfl) b
  · exact main 24 (Or.inl rfl) b
theorem xc_set (a1 a2 : Int32) (μ : Mem) : pk (p_X11_set a1 a2 μ) (fun r => (r.1 = 0 ∧ Zc9 μ r.2) ∨ (r.1 = 1 ∧ r.2.1 39 0 = 0)) := by
  rw [p_X11_set_eq]
  refine pk_bd (x_X10_setLimit a1 a2 μ rfl) (fun r2 μ1 h1 => ?_)
  have h1 : Zc9 μ μ1 := h1
  refine pk_ite (fun _ => pk_some (Or.inl ⟨rfl, h1⟩)) (fun _ => pk_bw (c_clear9 μ1) ?_)
  rintro μ4 ⟨_, _, k3⟩
  exact pk_some (Or.inr ⟨rfl, k3 0 (by omega)⟩)
theorem xm_set (a1 a2 : Int32) (μ : Mem) : pk (p_X12_set a1 a2 μ) (fun r => (r.1 = 0 ∧ Zm9 μ r.2) ∨ (r.1 = 1 ∧ r.2.1 0 95 = 0)) := by
  have b51 : ∀ k0, pk (p_X12_set_b51 a1 a2 k0 μ) (fun r => (r.1 = 0 ∧ Zm9 μ r.2) ∨ (r.1 = 1 ∧ r.2.1 0 95 = 0)) := by
    intro k0
    rw [p_X12_set_b51_eq]
    refine pk_ite (fun _ => pk_some (Or.inl ⟨rfl, Zm9.rf⟩)) (fun _ => pk_gd (fun _ => pk_bvy (fun μ5 _ => pk_bvy (fun μ6 e6 => pk_some (Or.inr ⟨rfl, ?_⟩)))))
    show μ6.1 0 95 = 0
    rw [e6, sF_v]
  have b50 : pk (p_X12_set_b50 a1 a2 μ) (fun r => (r.1 = 0 ∧ Zm9 μ r.2) ∨ (r.1 = 1 ∧ r.2.1 0 95 = 0)) := by
    rw [p_X12_set_b50_eq]
    exact b51 0
  rw [p_X12_set_eq]
  exact pk_ite (fun _ => b51 _) (fun _ => pk_ite (fun _ => b51 _) (fun _ => pk_ite (fun _ => pk_ite (fun _ => b50) (fun _ => b51 1)) (fun _ => b50)))
theorem zm_runTask {μ : Mem} (h : IW μ) (hc : nv μ 47 = nv μ 45) : pk (p_X12_runTask μ) (fun q => Zm9 μ q) := by
  refine pk_mono (pk_ok (k_rvT h hc)) (fun q hq => ?_)
  have f := hq.2.1
  intro i k hp
  refine f.1 i k ?_
  rcases hp with hp | ⟨h0, hp⟩
  · rcases hp with e | e | e | e | e | e | e | e | e | e | e | e | e | e | e | e | e | e | e | e | e | e | e | e | e | e | e <;> subst e <;> simp [frRW, frRT, frRU, frRR, frER, frBR, frBT, frBL, frBN, frB, frN, frB0, frLR, frIV, fgR, fdR, frCo, frPu, hit]
  · subst h0
    rcases hp with e | e | e | e | e | e | e | e | e | e | e <;> subst e <;> decide +kernel
theorem xm_run {μ : Mem} (h : IW μ) (a1 a2 : Int32) : pk (p_X12_run a1 a2 μ) (fun q => Zm9 μ q.2) := by
  rw [p_X12_run_eq]
  refine pk_bd (q_canRun a1 μ) ?_
  rintro r2 μ1 ⟨q1, q2⟩
  have q1 : μ1 = μ := q1
  subst q1
  refine pk_ite (fun _ => pk_some Zm9.rf) (fun hr => pk_ite (fun _ => pk_some Zm9.rf) (fun _ => ?_))
  obtain ⟨hc, _⟩ := Or.resolve_left q2 hr
  have hN : pk (p_X12_runNow a1 μ1) (fun q => Zm9 μ1 q) := by
    rw [p_X12_runNow_eq]
    exact pk_ite (fun _ => pk_bw (zm_runTask h hc) (fun q hq => pk_some hq)) (fun _ => pk_bw (x_X12_runResidue μ1) (fun q hq => pk_some hq))
  refine pk_bw hN (fun μ5 z5 => ?_)
  exact pk_ite (fun _ => pk_mono (x_X12_run_b43 a2 60 μ5) (fun q hq => z5.tr hq)) (fun _ => pk_mono (x_X12_run_b43 a2 _ μ5) (fun q hq => z5.tr hq))
theorem xm_agree {μ : Mem} (h : IW μ) : pk (p_X12_agree μ) (fun q => Zm9 μ q.2) := by
  rw [p_X12_agree_eq]
  refine pk_bd (q_canRun 0 μ) ?_
  rintro r2 μ1 ⟨q1, q2⟩
  have q1 : μ1 = μ := q1
  subst q1
  refine pk_ite (fun _ => pk_some Zm9.rf) (fun hr => ?_)
  obtain ⟨hc, _⟩ := Or.resolve_left q2 hr
  refine pk_bd (q_canRun 1 μ1) ?_
  rintro r5 μ4 ⟨q3, _⟩
  have q3 : μ4 = μ1 := q3
  rw [q3]
  refine pk_ite (fun _ => pk_some Zm9.rf) (fun _ => pk_bw (zm_runTask h hc) (fun μ7 z7 => ?_))
  exact pk_ite (fun _ => pk_mono (x_X12_agree_b40 60 μ7) (fun q hq => z7.tr hq)) (fun _ => pk_mono (x_X12_agree_b40 _ μ7) (fun q hq => z7.tr hq))
theorem xm_saved {μ : Mem} (h : IW μ) : pk (p_X12_saved μ) (fun q => Zm9 μ q.2) := by
  rw [p_X12_saved_eq]
  refine pk_bd (q_canRun 0 μ) ?_
  rintro r2 μ1 ⟨q1, q2⟩
  have q1 : μ1 = μ := q1
  subst q1
  refine pk_ite (fun _ => pk_some Zm9.rf) (fun hr => ?_)
  obtain ⟨hc, _⟩ := Or.resolve_left q2 hr
  refine pk_bd (q_canRun 1 μ1) ?_
  rintro r5 μ4 ⟨q3, _⟩
  have q3 : μ4 = μ1 := q3
  rw [q3]
  refine pk_ite (fun _ => pk_some Zm9.rf) (fun _ => pk_bw (zm_runTask h hc) (fun μ7 z7 => pk_bvy (fun v9 _ => ?_)))
  refine pk_ite (fun _ => pk_bw (x_X12_runResidue μ7) (fun μ11 z11 => ?_)) (fun _ => pk_some z7)
  exact pk_ite (fun _ => pk_some (z7.tr z11)) (fun _ => pk_some (z7.tr z11))
end

section
theorem r12_feed (a1 a2 a3 a4 a5 : Int32) (μx μm : Mem) (h : R12 μx μm) : ok (p_X11_feed a1 a2 a3 a4 a5 μx) (fun q => ok (p_X12_feed a1 a2 a3 a4 a5 μm) (fun z => R12 q.2 z.2)) := r12_of h (r9_feed a1 a2 a3 a4 a5 μx μm h.1) (x_X11_feed a1 a2 a3 a4 a5 μx rfl) (x_X12_feed a1 a2 a3 a4 a5 μm)
theorem r12q_feed (a1 a2 a3 a4 a5 : Int32) (μx μm : Mem) (h : R12 μx μm) : ok (p_X11_feed a1 a2 a3 a4 a5 μx) (fun q => ok (p_X12_feed a1 a2 a3 a4 a5 μm) (fun z => R12 q.2 z.2 ∧ q.1 = z.1)) := r12q_of h (r9q_feed a1 a2 a3 a4 a5 μx μm h.1) (x_X11_feed a1 a2 a3 a4 a5 μx rfl) (x_X12_feed a1 a2 a3 a4 a5 μm)
theorem r12_end (a1 : Int32) (μx μm : Mem) (h : R12 μx μm) : ok (p_X11_end a1 μx) (fun q => ok (p_X12_end a1 μm) (fun z => R12 q.2 z.2)) := r12_of h (r9_end a1 μx μm h.1) (x_X11_end a1 μx rfl) (x_X12_end a1 μm)
theorem r12_values (μx μm : Mem) (h : R12 μx μm) : ok (p_X11_values μx) (fun q => ok (p_X12_values μm) (fun z => R12 q.2 z.2)) := r12_of h (r9_values μx μm h.1) (xc_values h.1.1.1.2.2) (x_X12_values μm)
theorem r12q_values (μx μm : Mem) (h : R12 μx μm) : ok (p_X11_values μx) (fun q => ok (p_X12_values μm) (fun z => R12 q.2 z.2 ∧ q.1 = z.1)) := r12q_of h (r9q_values μx μm h.1) (xc_values h.1.1.1.2.2) (x_X12_values μm)
theorem r12_fault (μx μm : Mem) (h : R12 μx μm) : ok (p_X11_fault μx) (fun q => ok (p_X12_fault μm) (fun z => R12 q.2 z.2)) := r12_of h (r9_fault μx μm h.1) (x_X11_fault μx rfl) (x_X12_fault μm)
theorem r12q_fault (μx μm : Mem) (h : R12 μx μm) : ok (p_X11_fault μx) (fun q => ok (p_X12_fault μm) (fun z => R12 q.2 z.2 ∧ q.1 = z.1)) := r12q_of h (r9q_fault μx μm h.1) (x_X11_fault μx rfl) (x_X12_fault μm)
theorem r12_is (a1 : Int32) (μx μm : Mem) (h : R12 μx μm) : ok (p_X11_is a1 μx) (fun q => ok (p_X12_is a1 μm) (fun z => R12 q.2 z.2)) := r12_of h (r9_is a1 μx μm h.1) (x_X11_is a1 μx rfl) (x_X12_is a1 μm)
theorem r12q_is (a1 : Int32) (μx μm : Mem) (h : R12 μx μm) : ok (p_X11_is a1 μx) (fun q => ok (p_X12_is a1 μm) (fun z => R12 q.2 z.2 ∧ q.1 = z.1)) := r12q_of h (r9q_is a1 μx μm h.1) (x_X11_is a1 μx rfl) (x_X12_is a1 μm)
theorem r12_function (a1 a2 : Int32) (μx μm : Mem) (h : R12 μx μm) : ok (p_X11_function a1 a2 μx) (fun q => ok (p_X12_function a1 a2 μm) (fun z => R12 q.2 z.2)) := r12_of h (r9_function a1 a2 μx μm h.1) (x_X11_function a1 a2 μx rfl) (x_X12_function a1 a2 μm)
theorem r12q_function (a1 a2 : Int32) (μx μm : Mem) (h : R12 μx μm) : ok (p_X11_function a1 a2 μx) (fun q => ok (p_X12_function a1 a2 μm) (fun z => R12 q.2 z.2 ∧ q.1 = z.1)) := r12q_of h (r9q_function a1 a2 μx μm h.1) (x_X11_function a1 a2 μx rfl) (x_X12_function a1 a2 μm)
theorem r12_residue (a1 : Int32) (μx μm : Mem) (h : R12 μx μm) : ok (p_X11_residue a1 μx) (fun q => ok (p_X12_residue a1 μm) (fun z => R12 q.2 z.2)) := r12_of h (r9_residue a1 μx μm h.1) (x_X11_residue a1 μx rfl) (x_X12_residue a1 μm)
theorem r12q_residue (a1 : Int32) (μx μm : Mem) (h : R12 μx μm) : ok (p_X11_residue a1 μx) (fun q => ok (p_X12_residue a1 μm) (fun z => R12 q.2 z.2 ∧ q.1 = z.1)) := r12c_of h (r9_residue a1 μx μm h.1) (x_X11_residue a1 μx rfl) (x_X12_residue a1 μm) (rq_residue h.2 (rgm_0_87 h.1.1.1.1.2.1.1).2 a1)
theorem r12_variant (a1 a2 : Int32) (μx μm : Mem) (h : R12 μx μm) : ok (p_X11_variant a1 a2 μx) (fun q => ok (p_X12_variant a1 a2 μm) (fun z => R12 q.2 z.2)) := r12_of h (r9_variant a1 a2 μx μm h.1) (x_X11_variant a1 a2 μx rfl) (x_X12_variant a1 a2 μm)
theorem r12q_variant (a1 a2 : Int32) (μx μm : Mem) (h : R12 μx μm) : ok (p_X11_variant a1 a2 μx) (fun q => ok (p_X12_variant a1 a2 μm) (fun z => R12 q.2 z.2 ∧ q.1 = z.1)) := r12c_of h (r9_variant a1 a2 μx μm h.1) (x_X11_variant a1 a2 μx rfl) (x_X12_variant a1 a2 μm) (rq_variant h.2 (rgm_0_87 h.1.1.1.1.2.1.1).2 a1 a2)
theorem r12_kinds (a1 a2 : Int32) (μx μm : Mem) (h : R12 μx μm) : ok (p_X11_kinds a1 a2 μx) (fun q => ok (p_X12_kinds a1 a2 μm) (fun z => R12 q.2 z.2)) := r12_of h (r9_kinds a1 a2 μx μm h.1) (x_X11_kinds a1 a2 μx rfl) (x_X12_kinds a1 a2 μm)
theorem r12q_kinds (a1 a2 : Int32) (μx μm : Mem) (h : R12 μx μm) : ok (p_X11_kinds a1 a2 μx) (fun q => ok (p_X12_kinds a1 a2 μm) (fun z => R12 q.2 z.2 ∧ q.1 = z.1)) := r12c_of h (r9_kinds a1 a2 μx μm h.1) (x_X11_kinds a1 a2 μx rfl) (x_X12_kinds a1 a2 μm) (rq_kinds h.2 (rgm_0_87 h.1.1.1.1.2.1.1).2 a1 a2)
theorem r12_run (a1 a2 : Int32) (μx μm : Mem) (h : R12 μx μm) : ok (p_X11_run a1 a2 μx) (fun q => ok (p_X12_run a1 a2 μm) (fun z => R12 q.2 z.2)) := r12_of h (r9_run a1 a2 μx μm h.1) (x_X11_run a1 a2 μx rfl) (xm_run h.1.1.1.1.2.1 a1 a2)
theorem r12_output (a1 a2 : Int32) (μx μm : Mem) (h : R12 μx μm) : ok (p_X11_output a1 a2 μx) (fun q => ok (p_X12_output a1 a2 μm) (fun z => R12 q.2 z.2)) := r12_of h (r9_output a1 a2 μx μm h.1) (x_X11_output a1 a2 μx rfl) (x_X12_output a1 a2 μm)
theorem r12_place (a1 : Int32) (μx μm : Mem) (h : R12 μx μm) : ok (p_X11_place a1 μx) (fun q => ok (p_X12_place a1 μm) (fun z => R12 q.2 z.2)) := r12_of h (r9_place a1 μx μm h.1) (x_X11_place a1 μx rfl) (x_X12_place a1 μm)
theorem r12_value (μx μm : Mem) (h : R12 μx μm) : ok (p_X11_value μx) (fun q => ok (p_X12_value μm) (fun z => R12 q.2 z.2)) := r12_of h (r9_value μx μm h.1) (x_X11_value μx rfl) (x_X12_value μm)
theorem r12_write (a1 : Int32) (μx μm : Mem) (h : R12 μx μm) : ok (p_X11_write a1 μx) (fun q => ok (p_X12_write a1 μm) (fun z => R12 q.2 z.2)) := r12_of h (r9_write a1 μx μm h.1) (x_X11_write a1 μx rfl) (x_X12_write a1 μm)
theorem r12_octet (a1 : Int32) (μx μm : Mem) (h : R12 μx μm) : ok (p_X11_octet a1 μx) (fun q => ok (p_X12_octet a1 μm) (fun z => R12 q.2 z.2)) := r12_of h (r9_octet a1 μx μm h.1) (x_X11_octet a1 μx rfl) (x_X12_octet a1 μm)
theorem r12_agree (μx μm : Mem) (h : R12 μx μm) : ok (p_X11_agree μx) (fun q => ok (p_X12_agree μm) (fun z => R12 q.2 z.2)) := r12_of h (r9_agree μx μm h.1) (x_X11_agree μx rfl) (xm_agree h.1.1.1.1.2.1 )
theorem r12_saved (μx μm : Mem) (h : R12 μx μm) : ok (p_X11_saved μx) (fun q => ok (p_X12_saved μm) (fun z => R12 q.2 z.2)) := r12_of h (r9_saved μx μm h.1) (x_X11_saved μx rfl) (xm_saved h.1.1.1.1.2.1 )
theorem r12_op (a1 a2 a3 : Int32) (μx μm : Mem) (h : R12 μx μm) : ok (p_X11_op a1 a2 a3 μx) (fun q => ok (p_X12_op a1 a2 a3 μm) (fun z => R12 q.2 z.2)) := r12_of h (r9_op a1 a2 a3 μx μm h.1) (x_X11_op a1 a2 a3 μx rfl) (x_X12_op a1 a2 a3 μm)
theorem r12q_program (μx μm : Mem) (h : R12 μx μm) : ok (p_X11_program μx) (fun q => ok (p_X12_program μm) (fun z => R12 q.2 z.2 ∧ q.1 = z.1)) := by
  obtain ⟨q, e1, z, e2, hz, he⟩ := r9q_program μx μm h.1
  refine ⟨q, e1, z, e2, ⟨hz, ?_⟩, he⟩
  have hx := xc_program h.1.1.2.2.1 q e1
  have hm := xm_program μm z e2
  have em : (-1 : Int32).toInt = -1 := by decide
  rcases hx with ⟨x1, x2⟩ | ⟨x1, x2⟩
  · rcases hm with ⟨_, y2⟩ | ⟨_, y2⟩
    · exact h.2.of x2 y2
    · exfalso
      have r := rgm_0_17 (μ := z.2) hz.1.1.1.2.1.1
      rw [← y2, ← he, x1, em] at r; omega
  · rcases hm with ⟨y1, _⟩ | ⟨y1, _⟩
    · exfalso
      obtain ⟨G, C, hPc, _, _⟩ := hz.1.2.2.2.2.2.2.1.cd
      have k := hPc.2.1.1
      rw [← x2, he, y1, em] at k; omega
    · exact Or.inl ⟨x1, y1⟩
theorem r12_program (μx μm : Mem) (h : R12 μx μm) : ok (p_X11_program μx) (fun q => ok (p_X12_program μm) (fun z => R12 q.2 z.2)) := r12_fst (r12q_program μx μm h)
theorem r12q_task (μx μm : Mem) (h : R12 μx μm) : ok (p_X11_task μx) (fun q => ok (p_X12_task μm) (fun z => R12 q.2 z.2 ∧ q.1 = z.1)) := by
  obtain ⟨q, e1, z, e2, hz, he⟩ := r9q_task μx μm h.1
  refine ⟨q, e1, z, e2, ⟨hz, ?_⟩, he⟩
  have hx := xc_task h.1.1.1.2.2 q e1
  have hm := xm_task μm z e2
  have em : (-1 : Int32).toInt = -1 := by decide
  rcases hx with ⟨x1, x2⟩ | ⟨x1, x2⟩
  · rcases hm with ⟨_, y2⟩ | ⟨_, y2⟩
    · exact h.2.of x2 y2
    · exfalso
      have r := rgm_0_45 (μ := z.2) hz.1.1.1.2.1.1
      rw [← y2, ← he, x1, em] at r; omega
  · rcases hm with ⟨y1, _⟩ | ⟨y1, _⟩
    · exfalso
      obtain ⟨L, p1, _⟩ := hz.1.2.2.2.2.1
      have k := (q_stars p1.pm q x2).2
      rw [he, y1, em] at k; omega
    · exact Or.inl ⟨x1, y1⟩
theorem r12_task (μx μm : Mem) (h : R12 μx μm) : ok (p_X11_task μx) (fun q => ok (p_X12_task μm) (fun z => R12 q.2 z.2)) := r12_fst (r12q_task μx μm h)
theorem r12q_set (a1 a2 : Int32) (μx μm : Mem) (h : R12 μx μm) : ok (p_X11_set a1 a2 μx) (fun q => ok (p_X12_set a1 a2 μm) (fun z => R12 q.2 z.2 ∧ q.1 = z.1)) := by
  obtain ⟨q, e1, z, e2, hz, he⟩ := r9q_set a1 a2 μx μm h.1
  refine ⟨q, e1, z, e2, ⟨hz, ?_⟩, he⟩
  rcases xc_set a1 a2 μx q e1 with ⟨x1, x2⟩ | ⟨x1, x2⟩
  · rcases xm_set a1 a2 μm z e2 with ⟨_, y2⟩ | ⟨y1, _⟩
    · exact h.2.of x2 y2
    · rw [x1, y1] at he; exact absurd he (by decide)
  · rcases xm_set a1 a2 μm z e2 with ⟨y1, _⟩ | ⟨_, y2⟩
    · rw [x1, y1] at he; exact absurd he (by decide)
    · exact Or.inl ⟨x2, y2⟩
theorem r12_set (a1 a2 : Int32) (μx μm : Mem) (h : R12 μx μm) : ok (p_X11_set a1 a2 μx) (fun q => ok (p_X12_set a1 a2 μm) (fun z => R12 q.2 z.2)) := r12_fst (r12q_set a1 a2 μx μm h)
theorem r12q_specialise (μx μm : Mem) (h : R12 μx μm) : ok (p_X11_specialise μx) (fun q => ok (p_X12_specialise μm) (fun z => R12 q.2 z.2 ∧ q.1 = z.1)) := by
  obtain ⟨q, e1, z, e2, hz, he⟩ := r9q_specialise μx μm h.1
  exact ⟨q, e1, z, e2, ⟨hz, (sp_joint h.1.1 h.1.1.2.1 h.1.2 q z e1 e2).2.rx⟩, he⟩
theorem r12_specialise (μx μm : Mem) (h : R12 μx μm) : ok (p_X11_specialise μx) (fun q => ok (p_X12_specialise μm) (fun z => R12 q.2 z.2)) := r12_fst (r12q_specialise μx μm h)
end
