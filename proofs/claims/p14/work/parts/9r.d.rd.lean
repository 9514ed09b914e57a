def Rz (μ q : Mem) : Prop := ∀ k, (k = 6 ∨ k = 7 ∨ k = 8 ∨ k = 9) → q.2.2 0 k = μ.2.2 0 k
theorem Rz.rf {μ : Mem} : Rz μ μ := fun _ _ => rfl
theorem Rz.tr {μ q z : Mem} (h : Rz μ q) (h2 : Rz q z) : Rz μ z := fun k hk => (h2 k hk).trans (h k hk)
theorem Rz.sF {μ q : Mem} {i k : Nat} {v : Int32} (h : Rz μ q) : Rz μ (sF q i k v) := h
theorem Rz.sL {μ q : Mem} {i k : Nat} {v : Int64} (h : Rz μ q) : Rz μ (sL q i k v) := h
theorem Rz.sR {μ q : Mem} {i k j : Nat} (h : Rz μ q) (hn : ¬ (i = 0 ∧ (k = 6 ∨ k = 7 ∨ k = 8 ∨ k = 9))) : Rz μ (sR q i k j) := by
  intro k2 hk
  rw [sR_3]
  by_cases e : 0 = i
  · rw [if_pos e]
    by_cases e2 : k2 = k
    · exact absurd ⟨e.symm, e2 ▸ hk⟩ hn
    · rw [if_neg e2, ← e]; exact h k2 hk
  · rw [if_neg e]; exact h k2 hk
theorem pk_bvy {α β : Type} {x : α} {f : α → Option β} {Q : β → Prop} (h : ∀ y, y = x → pk (f y) Q) : pk (bv x f) Q := h x rfl
theorem pk_bsy {α β : Type} {x : Option α} {f : α → Option β} {Q : β → Prop} (h : ∀ a, pk (f a) Q) : pk (bs x f) Q := by
  intro r e
  cases hx2 : x with
  | none => rw [hx2] at e; cases e
  | some a => rw [hx2] at e; exact h a r e
theorem w_X11_feedFour_b3 : ∀ (n : Nat) (a1 : Int32) (a2 : Int32) (μ : Mem), pk (p_X11_feedFour_b3  n a1 a2 μ) (fun q => Rz μ q) := by
  intro n
  induction n with
  | zero => intro a1 a2 μ r e; rw [p_X11_feedFour_b3_z] at e; cases e
  | succ n ih =>
    intro a1 a2 μ
    have z0 : Rz μ μ := Rz.rf
    rw [p_X11_feedFour_b3_s]
    refine pk_ite (fun _ => ?_) (fun _ => ?_)
    · exact pk_some z0
    · refine pk_ite (fun _ => ?_) (fun _ => ?_)
      · exact pk_some z0
      · refine pk_bvy (fun v3 _ => ?_)
        refine pk_gd (fun _ => ?_)
        refine pk_bvy (fun μ4 ez1 => ?_)
        have z1 : Rz μ μ4 := by rw [ez1]; exact z0.sF
        refine pk_bvy (fun μ5 ez2 => ?_)
        have z2 : Rz μ μ5 := by rw [ez2]; exact z1.sF
        refine pk_bvy (fun v6 _ => ?_)
        exact pk_mono (ih a1 v6 μ5) (fun _ hq => z2.tr hq)
theorem w_X11_feedFour (a1 : Int32) (μ : Mem) : pk (p_X11_feedFour a1 μ) (fun q => Rz μ q) := by
  have z0 : Rz μ μ := Rz.rf
  rw [p_X11_feedFour_eq]
  exact pk_mono (w_X11_feedFour_b3 FUEL a1 (24 : Int32) μ) (fun _ hq => z0.tr hq)
theorem w_X11_feed (a1 : Int32) (a2 : Int32) (a3 : Int32) (a4 : Int32) (a5 : Int32) (μ : Mem) : pk (p_X11_feed a1 a2 a3 a4 a5 μ) (fun q => Rz μ q.2) := by
  have z0 : Rz μ μ := Rz.rf
  rw [p_X11_feed_eq]
  refine pk_ite (fun _ => ?_) (fun _ => ?_)
  · refine pk_bw (w_X11_feedFour a1 μ) (fun μ2 ez1 => ?_)
    have z1 : Rz μ μ2 := z0.tr ez1
    refine pk_bw (w_X11_feedFour a2 μ2) (fun μ4 ez2 => ?_)
    have z2 : Rz μ μ4 := z1.tr ez2
    refine pk_bw (w_X11_feedFour a3 μ4) (fun μ6 ez3 => ?_)
    have z3 : Rz μ μ6 := z2.tr ez3
    refine pk_bw (w_X11_feedFour a4 μ6) (fun μ8 ez4 => ?_)
    have z4 : Rz μ μ8 := z3.tr ez4
    refine pk_bw (w_X11_feedFour a5 μ8) (fun μ10 ez5 => ?_)
    have z5 : Rz μ μ10 := z4.tr ez5
    exact pk_some z5
  · exact pk_some z0
theorem w_X11_end (a1 : Int32) (μ : Mem) : pk (p_X11_end a1 μ) (fun q => Rz μ q.2) := by
  have z0 : Rz μ μ := Rz.rf
  rw [p_X11_end_eq]
  refine pk_ite (fun _ => ?_) (fun _ => ?_)
  · exact pk_some z0
  · refine pk_ite (fun _ => ?_) (fun _ => ?_)
    · refine pk_bvy (fun μ3 ez1 => ?_)
      have z1 : Rz μ μ3 := by rw [ez1]; exact z0.sF
      exact pk_some z1
    · exact pk_some z0
theorem w_X4_begin (a1 : Int32) (μ : Mem) : pk (p_X4_begin a1 μ) (fun q => Rz μ q) := by
  have z0 : Rz μ μ := Rz.rf
  rw [p_X4_begin_eq]
  refine pk_bvy (fun μ1 ez1 => ?_)
  have z1 : Rz μ μ1 := by rw [ez1]; exact z0.sF
  refine pk_bvy (fun μ2 ez2 => ?_)
  have z2 : Rz μ μ2 := by rw [ez2]; exact z1.sF
  refine pk_bvy (fun μ3 ez3 => ?_)
  have z3 : Rz μ μ3 := by rw [ez3]; exact z2.sF
  exact pk_some z3
theorem w_X11_takeTape (μ : Mem) : pk (p_X11_takeTape μ) (fun q => Rz μ q) := by
  have z0 : Rz μ μ := Rz.rf
  rw [p_X11_takeTape_eq]
  refine pk_bw (w_X4_begin (μ.1 0 1) μ) (fun μ1 ez1 => ?_)
  have z1 : Rz μ μ1 := z0.tr ez1
  refine pk_bvy (fun μ3 ez2 => ?_)
  have z2 : Rz μ μ3 := by rw [ez2]; exact z1.sF
  exact pk_some z2
theorem w_X3_clear_b17 : ∀ (n : Nat) (a0 : Nat) (a1 : Int32) (μ : Mem), pk (p_X3_clear_b17  n a0 a1 μ) (fun q => Rz μ q) := by
  intro n
  induction n with
  | zero => intro a0 a1 μ r e; rw [p_X3_clear_b17_z] at e; cases e
  | succ n ih =>
    intro a0 a1 μ
    have z0 : Rz μ μ := Rz.rf
    rw [p_X3_clear_b17_s]
    refine pk_ite (fun _ => ?_) (fun _ => ?_)
    · exact pk_some z0
    · refine pk_gd (fun _ => ?_)
      refine pk_bvy (fun μ5 ez1 => ?_)
      have z1 : Rz μ μ5 := by rw [ez1]; exact z0.sF
      refine pk_bvy (fun v6 _ => ?_)
      exact pk_mono (ih a0 v6 μ5) (fun _ hq => z1.tr hq)
theorem w_X3_clear (a0 : Nat) (μ : Mem) : pk (p_X3_clear a0 μ) (fun q => Rz μ q) := by
  have z0 : Rz μ μ := Rz.rf
  rw [p_X3_clear_eq]
  refine pk_bvy (fun μ1 ez1 => ?_)
  have z1 : Rz μ μ1 := by rw [ez1]; exact z0.sF
  refine pk_bvy (fun μ2 ez2 => ?_)
  have z2 : Rz μ μ2 := by rw [ez2]; exact z1.sF
  refine pk_bvy (fun μ3 ez3 => ?_)
  have z3 : Rz μ μ3 := by rw [ez3]; exact z2.sF
  exact pk_mono (w_X3_clear_b17 FUEL a0 (0 : Int32) μ3) (fun _ hq => z3.tr hq)
theorem w_X4_isWell (μ : Mem) : pk (p_X4_isWell μ) (fun q => Rz μ q.2) := by
  have z0 : Rz μ μ := Rz.rf
  rw [p_X4_isWell_eq]
  refine pk_ite (fun _ => ?_) (fun _ => ?_)
  · exact pk_some z0
  · exact pk_some z0
theorem w_X4_here (μ : Mem) : pk (p_X4_here μ) (fun q => Rz μ q.2) := by
  have z0 : Rz μ μ := Rz.rf
  rw [p_X4_here_eq]
  refine pk_ite (fun _ => ?_) (fun _ => ?_)
  · exact pk_some z0
  · refine pk_ite (fun _ => ?_) (fun _ => ?_)
    · exact pk_some z0
    · refine pk_gd (fun _ => ?_)
      exact pk_some z0
theorem w_X4_fail (a1 : Int32) (μ : Mem) : pk (p_X4_fail a1 μ) (fun q => Rz μ q) := by
  have z0 : Rz μ μ := Rz.rf
  rw [p_X4_fail_eq]
  refine pk_ite (fun _ => ?_) (fun _ => ?_)
  · refine pk_bvy (fun μ2 ez1 => ?_)
    have z1 : Rz μ μ2 := by rw [ez1]; exact z0.sF
    exact pk_some z1
  · exact pk_some z0
theorem w_X4_take (a1 : Int32) (μ : Mem) : pk (p_X4_take a1 μ) (fun q => Rz μ q.2) := by
  have z0 : Rz μ μ := Rz.rf
  rw [p_X4_take_eq]
  refine pk_bd (w_X4_isWell μ) (fun r2 μ1 ez1 => ?_)
  have z1 : Rz μ μ1 := z0.tr ez1
  refine pk_ite (fun _ => ?_) (fun _ => ?_)
  · exact pk_some z1
  · refine pk_bd (w_X4_here μ1) (fun r5 μ4 ez2 => ?_)
    have z2 : Rz μ μ4 := z1.tr ez2
    refine pk_ite (fun _ => ?_) (fun _ => ?_)
    · refine pk_bvy (fun μ7 ez3 => ?_)
      have z3 : Rz μ μ7 := by rw [ez3]; exact z2.sF
      exact pk_some z3
    · refine pk_bw (w_X4_fail (μ4.1 16 2) μ4) (fun μ8 ez4 => ?_)
      have z4 : Rz μ μ8 := z2.tr ez4
      exact pk_some z4
theorem w_X4_slotOf_b32 (K7 : Int32 → Int32 → Mem → Option (Int32 × Mem)) (hK7 : ∀ (y0 : Int32) (y1 : Int32) (y2 : Mem), pk (K7 y0 y1 y2) (fun q => Rz y2 q.2)) (a1 : Int32) (a2 : Int32) (μ : Mem) : pk (p_X4_slotOf_b32 K7 a1 a2 μ) (fun q => Rz μ q.2) := by
  have z0 : Rz μ μ := Rz.rf
  rw [p_X4_slotOf_b32_eq]
  refine pk_bvy (fun v4 _ => ?_)
  exact pk_mono (hK7 a1 v4 μ) (fun _ hq => z0.tr hq)
theorem w_X4_slotOf_b7 : ∀ (n : Nat) (a1 : Int32) (a2 : Int32) (μ : Mem), pk (p_X4_slotOf_b7  n a1 a2 μ) (fun q => Rz μ q.2) := by
  intro n
  induction n with
  | zero => intro a1 a2 μ r e; rw [p_X4_slotOf_b7_z] at e; cases e
  | succ n ih =>
    intro a1 a2 μ
    have z0 : Rz μ μ := Rz.rf
    rw [p_X4_slotOf_b7_s]
    refine pk_ite (fun _ => ?_) (fun _ => ?_)
    · exact pk_some z0
    · refine pk_ite (fun _ => ?_) (fun _ => ?_)
      · exact pk_mono (w_X4_slotOf_b32 (p_X4_slotOf_b7  n) ih a1 a2 μ) (fun _ hq => z0.tr hq)
      · refine pk_gd (fun _ => ?_)
        refine pk_ite (fun _ => ?_) (fun _ => ?_)
        · exact pk_some z0
        · exact pk_mono (w_X4_slotOf_b32 (p_X4_slotOf_b7  n) ih a1 a2 μ) (fun _ hq => z0.tr hq)
theorem w_X4_slotOf (a1 : Int32) (μ : Mem) : pk (p_X4_slotOf a1 μ) (fun q => Rz μ q.2) := by
  have z0 : Rz μ μ := Rz.rf
  rw [p_X4_slotOf_eq]
  refine pk_bvy (fun v1 _ => ?_)
  exact pk_mono (w_X4_slotOf_b7 FUEL a1 v1 μ) (fun _ hq => z0.tr hq)
theorem w_X4_nameOne (a1 : Int32) (μ : Mem) : pk (p_X4_nameOne a1 μ) (fun q => Rz μ q) := by
  have z0 : Rz μ μ := Rz.rf
  rw [p_X4_nameOne_eq]
  refine pk_ite (fun _ => ?_) (fun _ => ?_)
  · exact pk_some z0
  · refine pk_gd (fun _ => ?_)
    refine pk_bvy (fun μ2 ez1 => ?_)
    have z1 : Rz μ μ2 := by rw [ez1]; exact z0.sF
    refine pk_bvy (fun μ3 ez2 => ?_)
    have z2 : Rz μ μ3 := by rw [ez2]; exact z1.sF
    exact pk_some z2
theorem w_X4_readName (μ : Mem) : pk (p_X4_readName μ) (fun q => Rz μ q) := by
  have z0 : Rz μ μ := Rz.rf
  rw [p_X4_readName_eq]
  refine pk_bd (w_X4_isWell μ) (fun r2 μ1 ez1 => ?_)
  have z1 : Rz μ μ1 := z0.tr ez1
  refine pk_ite (fun _ => ?_) (fun _ => ?_)
  · exact pk_some z1
  · refine pk_bd (w_X4_here μ1) (fun r5 μ4 ez2 => ?_)
    have z2 : Rz μ μ4 := z1.tr ez2
    refine pk_ite (fun _ => ?_) (fun _ => ?_)
    · refine pk_bw (w_X4_fail (μ4.1 16 2) μ4) (fun μ7 ez3 => ?_)
      have z3 : Rz μ μ7 := z2.tr ez3
      exact pk_some z3
    · refine pk_bd (w_X4_slotOf r5 μ4) (fun r10 μ9 ez4 => ?_)
      have z4 : Rz μ μ9 := z2.tr ez4
      refine pk_ite (fun _ => ?_) (fun _ => ?_)
      · refine pk_bvy (fun μ12 ez5 => ?_)
        have z5 : Rz μ μ12 := by rw [ez5]; exact z4.sF
        refine pk_bw (w_X4_nameOne r5 μ12) (fun μ13 ez6 => ?_)
        have z6 : Rz μ μ13 := z5.tr ez6
        exact pk_some z6
      · refine pk_bw (w_X4_fail (μ9.1 16 2) μ9) (fun μ15 ez7 => ?_)
        have z7 : Rz μ μ15 := z4.tr ez7
        exact pk_some z7
theorem w_X4_readNames_b16 : ∀ (n : Nat) (a1 : Int32) (μ : Mem), pk (p_X4_readNames_b16  n a1 μ) (fun q => Rz μ q) := by
  intro n
  induction n with
  | zero => intro a1 μ r e; rw [p_X4_readNames_b16_z] at e; cases e
  | succ n ih =>
    intro a1 μ
    have z0 : Rz μ μ := Rz.rf
    rw [p_X4_readNames_b16_s]
    refine pk_ite (fun _ => ?_) (fun _ => ?_)
    · exact pk_some z0
    · refine pk_bd (w_X4_isWell μ) (fun r8 μ7 ez1 => ?_)
      have z1 : Rz μ μ7 := z0.tr ez1
      refine pk_ite (fun _ => ?_) (fun _ => ?_)
      · exact pk_some z1
      · refine pk_bd (w_X4_here μ7) (fun r11 μ10 ez2 => ?_)
        have z2 : Rz μ μ10 := z1.tr ez2
        refine pk_ite (fun _ => ?_) (fun _ => ?_)
        · refine pk_bvy (fun μ13 ez3 => ?_)
          have z3 : Rz μ μ13 := by rw [ez3]; exact z2.sF
          refine pk_bw (w_X4_readName μ13) (fun μ14 ez4 => ?_)
          have z4 : Rz μ μ14 := z3.tr ez4
          refine pk_bvy (fun v16 _ => ?_)
          exact pk_mono (ih v16 μ14) (fun _ hq => z4.tr hq)
        · exact pk_some z2
theorem w_X4_readNames (μ : Mem) : pk (p_X4_readNames μ) (fun q => Rz μ q) := by
  have z0 : Rz μ μ := Rz.rf
  rw [p_X4_readNames_eq]
  refine pk_bd (w_X4_here μ) (fun r2 μ1 ez1 => ?_)
  have z1 : Rz μ μ1 := z0.tr ez1
  refine pk_ite (fun _ => ?_) (fun _ => ?_)
  · exact pk_some z1
  · refine pk_bw (w_X4_readName μ1) (fun μ4 ez2 => ?_)
    have z2 : Rz μ μ4 := z1.tr ez2
    exact pk_mono (w_X4_readNames_b16 FUEL (1 : Int32) μ4) (fun _ hq => z2.tr hq)
theorem w_X3_startOf (a0 : Nat) (a1 : Int32) (μ : Mem) : pk (p_X3_startOf a0 a1 μ) (fun q => Rz μ q.2) := by
  have z0 : Rz μ μ := Rz.rf
  rw [p_X3_startOf_eq]
  refine pk_ite (fun _ => ?_) (fun _ => ?_)
  · exact pk_some z0
  · refine pk_ite (fun _ => ?_) (fun _ => ?_)
    · exact pk_some z0
    · refine pk_gd (fun _ => ?_)
      refine pk_ite (fun _ => ?_) (fun _ => ?_)
      · exact pk_some z0
      · refine pk_gd (fun _ => ?_)
        refine pk_ite (fun _ => ?_) (fun _ => ?_)
        · refine pk_gd (fun _ => ?_)
          refine pk_gd (fun _ => ?_)
          exact pk_some z0
        · exact pk_some z0
theorem w_X3_begin_b22 : ∀ (n : Nat) (a0 : Nat) (a1 : Int32) (a2 : Int32) (μ : Mem), pk (p_X3_begin_b22  n a0 a1 a2 μ) (fun q => Rz μ q) := by
  intro n
  induction n with
  | zero => intro a0 a1 a2 μ r e; rw [p_X3_begin_b22_z] at e; cases e
  | succ n ih =>
    intro a0 a1 a2 μ
    have z0 : Rz μ μ := Rz.rf
    rw [p_X3_begin_b22_s]
    refine pk_ite (fun _ => ?_) (fun _ => ?_)
    · refine pk_gd (fun _ => ?_)
      refine pk_bvy (fun μ5 ez1 => ?_)
      have z1 : Rz μ μ5 := by rw [ez1]; exact z0.sF
      refine pk_gd (fun _ => ?_)
      refine pk_bvy (fun μ6 ez2 => ?_)
      have z2 : Rz μ μ6 := by rw [ez2]; exact z1.sF
      refine pk_gd (fun _ => ?_)
      refine pk_bvy (fun μ7 ez3 => ?_)
      have z3 : Rz μ μ7 := by rw [ez3]; exact z2.sF
      refine pk_gd (fun _ => ?_)
      refine pk_bvy (fun μ8 ez4 => ?_)
      have z4 : Rz μ μ8 := by rw [ez4]; exact z3.sF
      refine pk_bvy (fun μ9 ez5 => ?_)
      have z5 : Rz μ μ9 := by rw [ez5]; exact z4.sF
      exact pk_some z5
    · refine pk_gd (fun _ => ?_)
      refine pk_bvy (fun μ10 ez6 => ?_)
      have z6 : Rz μ μ10 := by rw [ez6]; exact z0.sF
      refine pk_bvy (fun v11 _ => ?_)
      exact pk_mono (ih a0 a1 v11 μ10) (fun _ hq => z6.tr hq)
theorem w_X3_begin (a0 : Nat) (a1 : Int32) (μ : Mem) : pk (p_X3_begin a0 a1 μ) (fun q => Rz μ q) := by
  have z0 : Rz μ μ := Rz.rf
  rw [p_X3_begin_eq]
  refine pk_ite (fun _ => ?_) (fun _ => ?_)
  · exact pk_some z0
  · refine pk_ite (fun _ => ?_) (fun _ => ?_)
    · exact pk_some z0
    · refine pk_ite (fun _ => ?_) (fun _ => ?_)
      · exact pk_mono (w_X3_begin_b22 FUEL a0 a1 (0 : Int32) μ) (fun _ hq => z0.tr hq)
      · exact pk_some z0
theorem w_X3_count_b35 (a0 : Nat) (a1 : Int32) (μ : Mem) : pk (p_X3_count_b35 a0 a1 μ) (fun q => Rz μ q.2) := by
  have z0 : Rz μ μ := Rz.rf
  rw [p_X3_count_b35_eq]
  refine pk_bvy (fun v5 _ => ?_)
  refine pk_gd (fun _ => ?_)
  refine pk_gd (fun _ => ?_)
  refine pk_bvy (fun μ6 ez1 => ?_)
  have z1 : Rz μ μ6 := by rw [ez1]; exact z0.sF
  refine pk_gd (fun _ => ?_)
  exact pk_some z1
theorem w_X3_count (a0 : Nat) (a1 : Int32) (μ : Mem) : pk (p_X3_count a0 a1 μ) (fun q => Rz μ q.2) := by
  have z0 : Rz μ μ := Rz.rf
  rw [p_X3_count_eq]
  refine pk_ite (fun _ => ?_) (fun _ => ?_)
  · exact pk_some z0
  · refine pk_ite (fun _ => ?_) (fun _ => ?_)
    · exact pk_some z0
    · refine pk_ite (fun _ => ?_) (fun _ => ?_)
      · refine pk_ite (fun _ => ?_) (fun _ => ?_)
        · refine pk_bvy (fun μ7 ez1 => ?_)
          have z1 : Rz μ μ7 := by rw [ez1]; exact z0.sF
          exact pk_mono (w_X3_count_b35 a0 a1 μ7) (fun _ hq => z1.tr hq)
        · exact pk_mono (w_X3_count_b35 a0 a1 μ) (fun _ hq => z0.tr hq)
      · exact pk_some z0
theorem w_X4_readDigits_b50 (a3 : Int32) (a4 : Int32) (μ : Mem) : pk (p_X4_readDigits_b50 a3 a4 μ) (fun q => Rz μ q.2) := by
  have z0 : Rz μ μ := Rz.rf
  rw [p_X4_readDigits_b50_eq]
  refine pk_ite (fun _ => ?_) (fun _ => ?_)
  · refine pk_bw (w_X4_fail (μ.1 16 2) μ) (fun μ3 ez1 => ?_)
    have z1 : Rz μ μ3 := z0.tr ez1
    exact pk_some z1
  · exact pk_some z0
theorem w_X4_readDigits_b5 : ∀ (n : Nat) (a2 : Int32) (a3 : Int32) (a4 : Int32) (μ : Mem), pk (p_X4_readDigits_b5  n a2 a3 a4 μ) (fun q => Rz μ q.2) := by
  intro n
  induction n with
  | zero => intro a2 a3 a4 μ r e; rw [p_X4_readDigits_b5_z] at e; cases e
  | succ n ih =>
    intro a2 a3 a4 μ
    have z0 : Rz μ μ := Rz.rf
    rw [p_X4_readDigits_b5_s]
    refine pk_ite (fun _ => ?_) (fun _ => ?_)
    · exact pk_mono (w_X4_readDigits_b50 a3 a4 μ) (fun _ hq => z0.tr hq)
    · refine pk_bd (w_X4_here μ) (fun r6 μ5 ez1 => ?_)
      have z1 : Rz μ μ5 := z0.tr ez1
      refine pk_ite (fun _ => ?_) (fun _ => ?_)
      · exact pk_mono (w_X4_readDigits_b50 a3 a4 μ5) (fun _ hq => z1.tr hq)
      · refine pk_bd (w_X4_here μ5) (fun r9 μ8 ez2 => ?_)
        have z2 : Rz μ μ8 := z1.tr ez2
        refine pk_bvy (fun v10 _ => ?_)
        refine pk_bvy (fun μ11 ez3 => ?_)
        have z3 : Rz μ μ11 := by rw [ez3]; exact z2.sF
        refine pk_bvy (fun v12 _ => ?_)
        exact pk_mono (ih a2 v10 v12 μ11) (fun _ hq => z3.tr hq)
theorem w_X4_readDigits (a1 : Int32) (a2 : Int32) (μ : Mem) : pk (p_X4_readDigits a1 a2 μ) (fun q => Rz μ q.2) := by
  have z0 : Rz μ μ := Rz.rf
  rw [p_X4_readDigits_eq]
  exact pk_mono (w_X4_readDigits_b5 FUEL a2 a1 (0 : Int32) μ) (fun _ hq => z0.tr hq)
theorem w_X4_readNumber_b52 (a1 : Int32) (a2 : Int32) (μ : Mem) : pk (p_X4_readNumber_b52 a1 a2 μ) (fun q => Rz μ q.2) := by
  have z0 : Rz μ μ := Rz.rf
  rw [p_X4_readNumber_b52_eq]
  refine pk_ite (fun _ => ?_) (fun _ => ?_)
  · exact pk_some z0
  · exact pk_some z0
theorem w_X4_readNumber_b128 (a4 : Int32) (k0 : Int32) (k1 : Int32) (μ : Mem) : pk (p_X4_readNumber_b128 a4 k0 k1 μ) (fun q => Rz μ q.2) := by
  have z0 : Rz μ μ := Rz.rf
  rw [p_X4_readNumber_b128_eq]
  refine pk_bvy (fun v20 _ => ?_)
  refine pk_bvy (fun v21 _ => ?_)
  exact pk_some z0
theorem w_X4_readNumber_b95 : ∀ (n : Nat) (a1 : Int32) (a2 : Int32) (a4 : Int32) (a5 : Int32) (μ : Mem), pk (p_X4_readNumber_b95  n a1 a2 a4 a5 μ) (fun q => Rz μ q.2) := by
  intro n
  induction n with
  | zero => intro a1 a2 a4 a5 μ r e; rw [p_X4_readNumber_b95_z] at e; cases e
  | succ n ih =>
    intro a1 a2 a4 a5 μ
    have z0 : Rz μ μ := Rz.rf
    rw [p_X4_readNumber_b95_s]
    refine pk_ite (fun _ => ?_) (fun _ => ?_)
    · refine pk_ite (fun _ => ?_) (fun _ => ?_)
      · exact pk_mono (w_X4_readNumber_b128 a4 a2 (0 : Int32) μ) (fun _ hq => z0.tr hq)
      · exact pk_mono (w_X4_readNumber_b128 a4 (-a2) (0 : Int32) μ) (fun _ hq => z0.tr hq)
    · refine pk_bvy (fun v22 _ => ?_)
      refine pk_bvy (fun v23 _ => ?_)
      exact pk_mono (ih a1 a2 v22 v23 μ) (fun _ hq => z0.tr hq)
theorem w_X4_readNumber_b29 (a1 : Int32) (μ : Mem) : pk (p_X4_readNumber_b29 a1 μ) (fun q => Rz μ q.2) := by
  have z0 : Rz μ μ := Rz.rf
  rw [p_X4_readNumber_b29_eq]
  refine pk_bd (w_X4_readDigits (0 : Int32) (5 : Int32) μ) (fun r6 μ5 ez1 => ?_)
  have z1 : Rz μ μ5 := z0.tr ez1
  refine pk_bd (w_X4_isWell μ5) (fun r8 μ7 ez2 => ?_)
  have z2 : Rz μ μ7 := z1.tr ez2
  refine pk_ite (fun _ => ?_) (fun _ => ?_)
  · exact pk_mono (w_X4_readNumber_b52 a1 r6 μ7) (fun _ hq => z2.tr hq)
  · refine pk_bd (w_X4_here μ7) (fun r12 μ11 ez3 => ?_)
    have z3 : Rz μ μ11 := z2.tr ez3
    refine pk_ite (fun _ => ?_) (fun _ => ?_)
    · refine pk_bvy (fun μ14 ez4 => ?_)
      have z4 : Rz μ μ14 := by rw [ez4]; exact z3.sF
      refine pk_bvy (fun v15 _ => ?_)
      refine pk_bd (w_X4_readDigits r6 (3 : Int32) μ14) (fun r17 μ16 ez5 => ?_)
      have z5 : Rz μ μ16 := z4.tr ez5
      exact pk_mono (w_X4_readNumber_b95 FUEL a1 r17 (1 : Int32) v15 μ16) (fun _ hq => z5.tr hq)
    · exact pk_mono (w_X4_readNumber_b52 a1 r6 μ11) (fun _ hq => z3.tr hq)
theorem w_X4_readNumber_b14 (k0 : Int32) (μ : Mem) : pk (p_X4_readNumber_b14 k0 μ) (fun q => Rz μ q.2) := by
  have z0 : Rz μ μ := Rz.rf
  rw [p_X4_readNumber_b14_eq]
  refine pk_ite (fun _ => ?_) (fun _ => ?_)
  · exact pk_mono (w_X4_readNumber_b29 k0 μ) (fun _ hq => z0.tr hq)
  · refine pk_bvy (fun μ24 ez1 => ?_)
    have z1 : Rz μ μ24 := by rw [ez1]; exact z0.sF
    exact pk_mono (w_X4_readNumber_b29 k0 μ24) (fun _ hq => z1.tr hq)
theorem w_X4_readNumber (μ : Mem) : pk (p_X4_readNumber μ) (fun q => Rz μ q.2) := by
  have z0 : Rz μ μ := Rz.rf
  rw [p_X4_readNumber_eq]
  refine pk_bd (w_X4_here μ) (fun r2 μ1 ez1 => ?_)
  have z1 : Rz μ μ1 := z0.tr ez1
  refine pk_ite (fun _ => ?_) (fun _ => ?_)
  · exact pk_mono (w_X4_readNumber_b14 (1 : Int32) μ1) (fun _ hq => z1.tr hq)
  · exact pk_mono (w_X4_readNumber_b14 (0 : Int32) μ1) (fun _ hq => z1.tr hq)
theorem w_X3_add (a0 : Nat) (a1 : Int32) (a2 : Int32) (a3 : Int32) (μ : Mem) : pk (p_X3_add a0 a1 a2 a3 μ) (fun q => Rz μ q.2) := by
  have z0 : Rz μ μ := Rz.rf
  rw [p_X3_add_eq]
  refine pk_ite (fun _ => ?_) (fun _ => ?_)
  · refine pk_gd (fun _ => ?_)
    refine pk_bvy (fun μ2 ez1 => ?_)
    have z1 : Rz μ μ2 := by rw [ez1]; exact z0.sF
    refine pk_gd (fun _ => ?_)
    refine pk_bvy (fun μ3 ez2 => ?_)
    have z2 : Rz μ μ3 := by rw [ez2]; exact z1.sF
    refine pk_gd (fun _ => ?_)
    refine pk_bvy (fun μ4 ez3 => ?_)
    have z3 : Rz μ μ4 := by rw [ez3]; exact z2.sF
    refine pk_bvy (fun μ5 ez4 => ?_)
    have z4 : Rz μ μ5 := by rw [ez4]; exact z3.sF
    exact pk_some z4
  · exact pk_some z0
theorem w_X4_readVar (a1 : Int32) (μ : Mem) : pk (p_X4_readVar a1 μ) (fun q => Rz μ q) := by
  have z0 : Rz μ μ := Rz.rf
  rw [p_X4_readVar_eq]
  refine pk_bd (w_X4_slotOf a1 μ) (fun r2 μ1 ez1 => ?_)
  have z1 : Rz μ μ1 := z0.tr ez1
  refine pk_ite (fun _ => ?_) (fun _ => ?_)
  · refine pk_bw (w_X4_fail (μ1.1 16 2) μ1) (fun μ7 ez2 => ?_)
    have z2 : Rz μ μ7 := z1.tr ez2
    exact pk_some z2
  · refine pk_bvy (fun μ4 ez3 => ?_)
    have z3 : Rz μ μ4 := by rw [ez3]; exact z1.sF
    refine pk_bd (w_X3_add (sel 2 (μ4.2.2 16 4)) (1 : Int32) r2 (0 : Int32) μ4) (fun r6 μ5 ez4 => ?_)
    have z4 : Rz μ μ5 := z3.tr ez4
    exact pk_some z4
theorem w_X4_readCall_b97 (RE : Int32 → Mem → Option Mem) (hRE : ∀ (y0 : Int32) (y1 : Mem), pk (RE y0 y1) (fun q => Rz y1 q)) (a1 : Int32) (a3 : Int32) (μ : Mem) : pk (p_X4_readCall_b97 RE a1 a3 μ) (fun q => Rz μ q) := by
  have z0 : Rz μ μ := Rz.rf
  rw [p_X4_readCall_b97_eq]
  refine pk_bd (w_X4_take (41 : Int32) μ) (fun r10 μ9 ez1 => ?_)
  have z1 : Rz μ μ9 := z0.tr ez1
  refine pk_bd (w_X3_add (sel 2 (μ9.2.2 16 4)) (13 : Int32) (((a1 - (97 : Int32)) * (6 : Int32)) + a3) a3 μ9) (fun r12 μ11 ez2 => ?_)
  have z2 : Rz μ μ11 := z1.tr ez2
  exact pk_some z2
theorem w_X4_readCall_b53 (RE : Int32 → Mem → Option Mem) (hRE : ∀ (y0 : Int32) (y1 : Mem), pk (RE y0 y1) (fun q => Rz y1 q)) : ∀ (n : Nat) (a1 : Int32) (a2 : Int32) (a3 : Int32) (μ : Mem), pk (p_X4_readCall_b53 RE n a1 a2 a3 μ) (fun q => Rz μ q) := by
  intro n
  induction n with
  | zero => intro a1 a2 a3 μ r e; rw [p_X4_readCall_b53_z] at e; cases e
  | succ n ih =>
    intro a1 a2 a3 μ
    have z0 : Rz μ μ := Rz.rf
    rw [p_X4_readCall_b53_s]
    refine pk_bd (w_X4_isWell μ) (fun r19 μ18 ez1 => ?_)
    have z1 : Rz μ μ18 := z0.tr ez1
    refine pk_ite (fun _ => ?_) (fun _ => ?_)
    · exact pk_mono (w_X4_readCall_b97 RE hRE a1 a3 μ18) (fun _ hq => z1.tr hq)
    · refine pk_bd (w_X4_here μ18) (fun r22 μ21 ez2 => ?_)
      have z2 : Rz μ μ21 := z1.tr ez2
      refine pk_ite (fun _ => ?_) (fun _ => ?_)
      · refine pk_ite (fun _ => ?_) (fun _ => ?_)
        · exact pk_mono (w_X4_readCall_b97 RE hRE a1 a3 μ21) (fun _ hq => z2.tr hq)
        · refine pk_bvy (fun μ25 ez3 => ?_)
          have z3 : Rz μ μ25 := by rw [ez3]; exact z2.sF
          refine pk_bw (hRE (a2 + (1 : Int32)) μ25) (fun μ26 ez4 => ?_)
          have z4 : Rz μ μ26 := z3.tr ez4
          refine pk_bvy (fun v28 _ => ?_)
          exact pk_mono (ih a1 a2 v28 μ26) (fun _ hq => z4.tr hq)
      · exact pk_mono (w_X4_readCall_b97 RE hRE a1 a3 μ21) (fun _ hq => z2.tr hq)
theorem w_X4_readCall (RE : Int32 → Mem → Option Mem) (hRE : ∀ (y0 : Int32) (y1 : Mem), pk (RE y0 y1) (fun q => Rz y1 q)) (a1 : Int32) (a2 : Int32) (μ : Mem) : pk (p_X4_readCall RE a1 a2 μ) (fun q => Rz μ q) := by
  have z0 : Rz μ μ := Rz.rf
  rw [p_X4_readCall_eq]
  refine pk_bvy (fun μ1 ez1 => ?_)
  have z1 : Rz μ μ1 := by rw [ez1]; exact z0.sF
  refine pk_bd (w_X3_count (sel 2 (μ1.2.2 16 4)) (3 : Int32) μ1) (fun r3 μ2 ez2 => ?_)
  have z2 : Rz μ μ2 := z1.tr ez2
  refine pk_bd (w_X4_take (40 : Int32) μ2) (fun r5 μ4 ez3 => ?_)
  have z3 : Rz μ μ4 := z2.tr ez3
  refine pk_bd (w_X4_isWell μ4) (fun r7 μ6 ez4 => ?_)
  have z4 : Rz μ μ6 := z3.tr ez4
  refine pk_ite (fun _ => ?_) (fun _ => ?_)
  · exact pk_mono (w_X4_readCall_b97 RE hRE a1 (0 : Int32) μ6) (fun _ hq => z4.tr hq)
  · refine pk_bd (w_X4_here μ6) (fun r14 μ13 ez5 => ?_)
    have z5 : Rz μ μ13 := z4.tr ez5
    refine pk_ite (fun _ => ?_) (fun _ => ?_)
    · exact pk_mono (w_X4_readCall_b97 RE hRE a1 (0 : Int32) μ13) (fun _ hq => z5.tr hq)
    · refine pk_bw (hRE (a2 + (1 : Int32)) μ13) (fun μ16 ez6 => ?_)
      have z6 : Rz μ μ16 := z5.tr ez6
      exact pk_mono (w_X4_readCall_b53 RE hRE FUEL a1 a2 (1 : Int32) μ16) (fun _ hq => z6.tr hq)
theorem w_X4_readReckoned (RE : Int32 → Mem → Option Mem) (hRE : ∀ (y0 : Int32) (y1 : Mem), pk (RE y0 y1) (fun q => Rz y1 q)) (a1 : Int32) (μ : Mem) : pk (p_X4_readReckoned RE a1 μ) (fun q => Rz μ q) := by
  have z0 : Rz μ μ := Rz.rf
  rw [p_X4_readReckoned_eq]
  refine pk_bw (hRE (a1 + (1 : Int32)) μ) (fun μ1 ez1 => ?_)
  have z1 : Rz μ μ1 := z0.tr ez1
  refine pk_bd (w_X4_isWell μ1) (fun r4 μ3 ez2 => ?_)
  have z2 : Rz μ μ3 := z1.tr ez2
  refine pk_ite (fun _ => ?_) (fun _ => ?_)
  · exact pk_some z2
  · refine pk_bd (w_X4_here μ3) (fun r7 μ6 ez3 => ?_)
    have z3 : Rz μ μ6 := z2.tr ez3
    refine pk_ite (fun _ => ?_) (fun _ => ?_)
    · refine pk_bw (w_X4_fail (μ6.1 16 2) μ6) (fun μ16 ez4 => ?_)
      have z4 : Rz μ μ16 := z3.tr ez4
      exact pk_some z4
    · refine pk_bvy (fun μ9 ez5 => ?_)
      have z5 : Rz μ μ9 := by rw [ez5]; exact z3.sF
      refine pk_bw (hRE (a1 + (1 : Int32)) μ9) (fun μ10 ez6 => ?_)
      have z6 : Rz μ μ10 := z5.tr ez6
      refine pk_bd (w_X4_take (41 : Int32) μ10) (fun r13 μ12 ez7 => ?_)
      have z7 : Rz μ μ12 := z6.tr ez7
      refine pk_bd (w_X3_add (sel 2 (μ12.2.2 16 4)) (2 : Int32) r7 (0 : Int32) μ12) (fun r15 μ14 ez8 => ?_)
      have z8 : Rz μ μ14 := z7.tr ez8
      exact pk_some z8
theorem w_X4_readTwo (RE : Int32 → Mem → Option Mem) (hRE : ∀ (y0 : Int32) (y1 : Mem), pk (RE y0 y1) (fun q => Rz y1 q)) (a1 : Int32) (a2 : Int32) (μ : Mem) : pk (p_X4_readTwo RE a1 a2 μ) (fun q => Rz μ q) := by
  have z0 : Rz μ μ := Rz.rf
  rw [p_X4_readTwo_eq]
  refine pk_bw (hRE (a1 + (1 : Int32)) μ) (fun μ1 ez1 => ?_)
  have z1 : Rz μ μ1 := z0.tr ez1
  refine pk_bd (w_X4_take (44 : Int32) μ1) (fun r4 μ3 ez2 => ?_)
  have z2 : Rz μ μ3 := z1.tr ez2
  refine pk_bw (hRE (a1 + (1 : Int32)) μ3) (fun μ5 ez3 => ?_)
  have z3 : Rz μ μ5 := z2.tr ez3
  refine pk_bd (w_X4_take a2 μ5) (fun r8 μ7 ez4 => ?_)
  have z4 : Rz μ μ7 := z3.tr ez4
  exact pk_some z4
theorem w_X3_leadHere (a0 : Nat) (a1 : Int32) (μ : Mem) : pk (p_X3_leadHere a0 a1 μ) (fun q => Rz μ q) := by
  have z0 : Rz μ μ := Rz.rf
  rw [p_X3_leadHere_eq]
  refine pk_ite (fun _ => ?_) (fun _ => ?_)
  · exact pk_some z0
  · refine pk_ite (fun _ => ?_) (fun _ => ?_)
    · exact pk_some z0
    · refine pk_gd (fun _ => ?_)
      refine pk_bvy (fun μ3 ez1 => ?_)
      have z1 : Rz μ μ3 := by rw [ez1]; exact z0.sF
      exact pk_some z1
theorem w_X4_readChoice (RE : Int32 → Mem → Option Mem) (hRE : ∀ (y0 : Int32) (y1 : Mem), pk (RE y0 y1) (fun q => Rz y1 q)) (a1 : Int32) (μ : Mem) : pk (p_X4_readChoice RE a1 μ) (fun q => Rz μ q) := by
  have z0 : Rz μ μ := Rz.rf
  rw [p_X4_readChoice_eq]
  refine pk_bd (w_X4_take (40 : Int32) μ) (fun r2 μ1 ez1 => ?_)
  have z1 : Rz μ μ1 := z0.tr ez1
  refine pk_bw (hRE (a1 + (1 : Int32)) μ1) (fun μ3 ez2 => ?_)
  have z2 : Rz μ μ3 := z1.tr ez2
  refine pk_bd (w_X4_take (44 : Int32) μ3) (fun r6 μ5 ez3 => ?_)
  have z3 : Rz μ μ5 := z2.tr ez3
  refine pk_bd (w_X3_add (sel 2 (μ5.2.2 16 4)) (6 : Int32) (0 : Int32) (0 : Int32) μ5) (fun r8 μ7 ez4 => ?_)
  have z4 : Rz μ μ7 := z3.tr ez4
  refine pk_bw (hRE (a1 + (1 : Int32)) μ7) (fun μ9 ez5 => ?_)
  have z5 : Rz μ μ9 := z4.tr ez5
  refine pk_bd (w_X4_take (44 : Int32) μ9) (fun r12 μ11 ez6 => ?_)
  have z6 : Rz μ μ11 := z5.tr ez6
  refine pk_bd (w_X3_add (sel 2 (μ11.2.2 16 4)) (7 : Int32) (0 : Int32) (0 : Int32) μ11) (fun r14 μ13 ez7 => ?_)
  have z7 : Rz μ μ13 := z6.tr ez7
  refine pk_bw (w_X3_leadHere (sel 2 (μ13.2.2 16 4)) r8 μ13) (fun μ15 ez8 => ?_)
  have z8 : Rz μ μ15 := z7.tr ez8
  refine pk_bw (hRE (a1 + (1 : Int32)) μ15) (fun μ17 ez9 => ?_)
  have z9 : Rz μ μ17 := z8.tr ez9
  refine pk_bd (w_X4_take (41 : Int32) μ17) (fun r20 μ19 ez10 => ?_)
  have z10 : Rz μ μ19 := z9.tr ez10
  refine pk_bd (w_X3_add (sel 2 (μ19.2.2 16 4)) (8 : Int32) (0 : Int32) (0 : Int32) μ19) (fun r22 μ21 ez11 => ?_)
  have z11 : Rz μ μ21 := z10.tr ez11
  refine pk_bw (w_X3_leadHere (sel 2 (μ21.2.2 16 4)) r14 μ21) (fun μ23 ez12 => ?_)
  have z12 : Rz μ μ23 := z11.tr ez12
  exact pk_some z12
theorem w_X4_readPlace (RE : Int32 → Mem → Option Mem) (hRE : ∀ (y0 : Int32) (y1 : Mem), pk (RE y0 y1) (fun q => Rz y1 q)) (a1 : Int32) (a2 : Int32) (μ : Mem) : pk (p_X4_readPlace RE a1 a2 μ) (fun q => Rz μ q) := by
  have z0 : Rz μ μ := Rz.rf
  rw [p_X4_readPlace_eq]
  refine pk_bd (w_X4_here μ) (fun r2 μ1 ez1 => ?_)
  have z1 : Rz μ μ1 := z0.tr ez1
  refine pk_bvy (fun v3 _ => ?_)
  refine pk_ite (fun _ => ?_) (fun _ => ?_)
  · refine pk_bw (w_X4_fail (μ1.1 16 2) μ1) (fun μ5 ez2 => ?_)
    have z2 : Rz μ μ5 := z1.tr ez2
    exact pk_some z2
  · refine pk_ite (fun _ => ?_) (fun _ => ?_)
    · refine pk_bvy (fun μ8 ez3 => ?_)
      have z3 : Rz μ μ8 := by rw [ez3]; exact z1.sF
      refine pk_bd (w_X3_count (sel 2 (μ8.2.2 16 4)) (5 : Int32) μ8) (fun r10 μ9 ez4 => ?_)
      have z4 : Rz μ μ9 := z3.tr ez4
      refine pk_ite (fun _ => ?_) (fun _ => ?_)
      · refine pk_bd (w_X3_add (sel 2 (μ9.2.2 16 4)) (11 : Int32) v3 (0 : Int32) μ9) (fun r17 μ16 ez5 => ?_)
        have z5 : Rz μ μ16 := z4.tr ez5
        exact pk_some z5
      · refine pk_bw (hRE (a2 + (1 : Int32)) μ9) (fun μ12 ez6 => ?_)
        have z6 : Rz μ μ12 := z4.tr ez6
        refine pk_bd (w_X3_add (sel 2 (μ12.2.2 16 4)) (10 : Int32) v3 (0 : Int32) μ12) (fun r15 μ14 ez7 => ?_)
        have z7 : Rz μ μ14 := z6.tr ez7
        exact pk_some z7
    · refine pk_bw (w_X4_fail (μ1.1 16 2) μ1) (fun μ18 ez8 => ?_)
      have z8 : Rz μ μ18 := z1.tr ez8
      exact pk_some z8
theorem w_X4_readNaming (RE : Int32 → Mem → Option Mem) (hRE : ∀ (y0 : Int32) (y1 : Mem), pk (RE y0 y1) (fun q => Rz y1 q)) (a1 : Int32) (μ : Mem) : pk (p_X4_readNaming RE a1 μ) (fun q => Rz μ q) := by
  have z0 : Rz μ μ := Rz.rf
  rw [p_X4_readNaming_eq]
  refine pk_bd (w_X4_here μ) (fun r2 μ1 ez1 => ?_)
  have z1 : Rz μ μ1 := z0.tr ez1
  refine pk_ite (fun _ => ?_) (fun _ => ?_)
  · refine pk_bw (w_X4_fail (μ1.1 16 2) μ1) (fun μ19 ez2 => ?_)
    have z2 : Rz μ μ19 := z1.tr ez2
    exact pk_some z2
  · refine pk_bvy (fun μ4 ez3 => ?_)
    have z3 : Rz μ μ4 := by rw [ez3]; exact z1.sF
    refine pk_bd (w_X4_take (61 : Int32) μ4) (fun r6 μ5 ez4 => ?_)
    have z4 : Rz μ μ5 := z3.tr ez4
    refine pk_bw (hRE (a1 + (1 : Int32)) μ5) (fun μ7 ez5 => ?_)
    have z5 : Rz μ μ7 := z4.tr ez5
    refine pk_bd (w_X4_take (44 : Int32) μ7) (fun r10 μ9 ez6 => ?_)
    have z6 : Rz μ μ9 := z5.tr ez6
    refine pk_bd (w_X3_add (sel 2 (μ9.2.2 16 4)) (12 : Int32) (μ9.1 16 6) (0 : Int32) μ9) (fun r12 μ11 ez7 => ?_)
    have z7 : Rz μ μ11 := z6.tr ez7
    refine pk_bvy (fun v13 _ => ?_)
    refine pk_bw (w_X4_nameOne r2 μ11) (fun μ14 ez8 => ?_)
    have z8 : Rz μ μ14 := z7.tr ez8
    refine pk_bw (hRE (a1 + (1 : Int32)) μ14) (fun μ16 ez9 => ?_)
    have z9 : Rz μ μ16 := z8.tr ez9
    refine pk_bvy (fun μ18 ez10 => ?_)
    have z10 : Rz μ μ18 := by rw [ez10]; exact z9.sF
    exact pk_some z10
theorem w_X4_readSigned (RE : Int32 → Mem → Option Mem) (hRE : ∀ (y0 : Int32) (y1 : Mem), pk (RE y0 y1) (fun q => Rz y1 q)) (a1 : Int32) (a2 : Int32) (μ : Mem) : pk (p_X4_readSigned RE a1 a2 μ) (fun q => Rz μ q) := by
  have z0 : Rz μ μ := Rz.rf
  rw [p_X4_readSigned_eq]
  refine pk_bvy (fun v1 _ => ?_)
  refine pk_bvy (fun μ2 ez1 => ?_)
  have z1 : Rz μ μ2 := by rw [ez1]; exact z0.sF
  refine pk_ite (fun _ => ?_) (fun _ => ?_)
  · refine pk_bd (w_X3_count (sel 2 (μ2.2.2 16 4)) (4 : Int32) μ2) (fun r6 μ5 ez2 => ?_)
    have z2 : Rz μ μ5 := z1.tr ez2
    refine pk_bw (hRE (a2 + (1 : Int32)) μ5) (fun μ7 ez3 => ?_)
    have z3 : Rz μ μ7 := z2.tr ez3
    refine pk_bd (w_X3_add (sel 2 (μ7.2.2 16 4)) (9 : Int32) (0 : Int32) (0 : Int32) μ7) (fun r10 μ9 ez4 => ?_)
    have z4 : Rz μ μ9 := z3.tr ez4
    exact pk_some z4
  · refine pk_ite (fun _ => ?_) (fun _ => ?_)
    · refine pk_bw (hRE (a2 + (1 : Int32)) μ2) (fun μ12 ez5 => ?_)
      have z5 : Rz μ μ12 := z1.tr ez5
      refine pk_bd (w_X3_add (sel 2 (μ12.2.2 16 4)) (3 : Int32) a1 (0 : Int32) μ12) (fun r15 μ14 ez6 => ?_)
      have z6 : Rz μ μ14 := z5.tr ez6
      exact pk_some z6
    · refine pk_ite (fun _ => ?_) (fun _ => ?_)
      · refine pk_bw (hRE (a2 + (1 : Int32)) μ2) (fun μ17 ez7 => ?_)
        have z7 : Rz μ μ17 := z1.tr ez7
        refine pk_bd (w_X3_add (sel 2 (μ17.2.2 16 4)) (3 : Int32) a1 (0 : Int32) μ17) (fun r20 μ19 ez8 => ?_)
        have z8 : Rz μ μ19 := z7.tr ez8
        exact pk_some z8
      · refine pk_ite (fun _ => ?_) (fun _ => ?_)
        · refine pk_bw (w_X4_readPlace RE hRE a1 a2 μ2) (fun μ22 ez9 => ?_)
          have z9 : Rz μ μ22 := z1.tr ez9
          exact pk_some z9
        · refine pk_ite (fun _ => ?_) (fun _ => ?_)
          · refine pk_bw (w_X4_readReckoned RE hRE a2 μ2) (fun μ25 ez10 => ?_)
            have z10 : Rz μ μ25 := z1.tr ez10
            exact pk_some z10
          · refine pk_ite (fun _ => ?_) (fun _ => ?_)
            · refine pk_bw (w_X4_readNaming RE hRE a2 μ2) (fun μ28 ez11 => ?_)
              have z11 : Rz μ μ28 := z1.tr ez11
              exact pk_some z11
            · refine pk_ite (fun _ => ?_) (fun _ => ?_)
              · refine pk_bw (w_X4_readChoice RE hRE a2 μ2) (fun μ31 ez12 => ?_)
                have z12 : Rz μ μ31 := z1.tr ez12
                exact pk_some z12
              · refine pk_ite (fun _ => ?_) (fun _ => ?_)
                · refine pk_bw (hRE (a2 + (1 : Int32)) μ2) (fun μ34 ez13 => ?_)
                  have z13 : Rz μ μ34 := z1.tr ez13
                  refine pk_bd (w_X3_add (sel 2 (μ34.2.2 16 4)) (4 : Int32) a1 (0 : Int32) μ34) (fun r37 μ36 ez14 => ?_)
                  have z14 : Rz μ μ36 := z13.tr ez14
                  exact pk_some z14
                · refine pk_ite (fun _ => ?_) (fun _ => ?_)
                  · refine pk_bw (w_X4_readTwo RE hRE a2 (93 : Int32) μ2) (fun μ39 ez15 => ?_)
                    have z15 : Rz μ μ39 := z1.tr ez15
                    refine pk_bd (w_X3_add (sel 2 (μ39.2.2 16 4)) (5 : Int32) (0 : Int32) (0 : Int32) μ39) (fun r42 μ41 ez16 => ?_)
                    have z16 : Rz μ μ41 := z15.tr ez16
                    exact pk_some z16
                  · refine pk_ite (fun _ => ?_) (fun _ => ?_)
                    · refine pk_bw (hRE (a2 + (1 : Int32)) μ2) (fun μ44 ez17 => ?_)
                      have z17 : Rz μ μ44 := z1.tr ez17
                      refine pk_bd (w_X3_add (sel 2 (μ44.2.2 16 4)) (3 : Int32) a1 (0 : Int32) μ44) (fun r47 μ46 ez18 => ?_)
                      have z18 : Rz μ μ46 := z17.tr ez18
                      exact pk_some z18
                    · refine pk_ite (fun _ => ?_) (fun _ => ?_)
                      · refine pk_bw (w_X4_readPlace RE hRE a1 a2 μ2) (fun μ49 ez19 => ?_)
                        have z19 : Rz μ μ49 := z1.tr ez19
                        exact pk_some z19
                      · refine pk_ite (fun _ => ?_) (fun _ => ?_)
                        · refine pk_bw (hRE (a2 + (1 : Int32)) μ2) (fun μ52 ez20 => ?_)
                          have z20 : Rz μ μ52 := z1.tr ez20
                          refine pk_bd (w_X3_add (sel 2 (μ52.2.2 16 4)) (4 : Int32) a1 (0 : Int32) μ52) (fun r55 μ54 ez21 => ?_)
                          have z21 : Rz μ μ54 := z20.tr ez21
                          exact pk_some z21
                        · refine pk_bw (w_X4_fail v1 μ2) (fun μ56 ez22 => ?_)
                          have z22 : Rz μ μ56 := z1.tr ez22
                          exact pk_some z22
theorem w_X4_readExpression (RE : Int32 → Mem → Option Mem) (hRE : ∀ (y0 : Int32) (y1 : Mem), pk (RE y0 y1) (fun q => Rz y1 q)) (a1 : Int32) (μ : Mem) : pk (p_X4_readExpression RE a1 μ) (fun q => Rz μ q) := by
  have z0 : Rz μ μ := Rz.rf
  rw [p_X4_readExpression_eq]
  refine pk_bd (w_X4_isWell μ) (fun r2 μ1 ez1 => ?_)
  have z1 : Rz μ μ1 := z0.tr ez1
  refine pk_ite (fun _ => ?_) (fun _ => ?_)
  · exact pk_some z1
  · refine pk_bd (w_X4_here μ1) (fun r5 μ4 ez2 => ?_)
    have z2 : Rz μ μ4 := z1.tr ez2
    refine pk_ite (fun _ => ?_) (fun _ => ?_)
    · refine pk_bw (w_X4_fail (μ4.1 16 2) μ4) (fun μ7 ez3 => ?_)
      have z3 : Rz μ μ7 := z2.tr ez3
      exact pk_some z3
    · refine pk_bd (w_X3_count (sel 2 (μ4.2.2 16 4)) (2 : Int32) μ4) (fun r10 μ9 ez4 => ?_)
      have z4 : Rz μ μ9 := z2.tr ez4
      refine pk_ite (fun _ => ?_) (fun _ => ?_)
      · refine pk_ite (fun _ => ?_) (fun _ => ?_)
        · refine pk_ite (fun _ => ?_) (fun _ => ?_)
          · refine pk_ite (fun _ => ?_) (fun _ => ?_)
            · refine pk_bw (w_X4_readSigned RE hRE r5 a1 μ9) (fun μ15 ez5 => ?_)
              have z5 : Rz μ μ15 := z4.tr ez5
              exact pk_some z5
            · refine pk_bw (w_X4_readCall RE hRE r5 a1 μ9) (fun μ17 ez6 => ?_)
              have z6 : Rz μ μ17 := z4.tr ez6
              exact pk_some z6
          · refine pk_bw (w_X4_readVar r5 μ9) (fun μ19 ez7 => ?_)
            have z7 : Rz μ μ19 := z4.tr ez7
            exact pk_some z7
        · refine pk_bd (w_X4_readNumber μ9) (fun r22 μ21 ez8 => ?_)
          have z8 : Rz μ μ21 := z4.tr ez8
          refine pk_bd (w_X3_add (sel 2 (μ21.2.2 16 4)) (0 : Int32) (s_X0_kind r22) (s_X0_bits r22) μ21) (fun r24 μ23 ez9 => ?_)
          have z9 : Rz μ μ23 := z8.tr ez9
          exact pk_some z9
      · refine pk_bw (w_X4_fail (μ9.1 16 2) μ9) (fun μ25 ez10 => ?_)
        have z10 : Rz μ μ25 := z4.tr ez10
        exact pk_some z10
theorem wr_X4_readExpression : ∀ (n : Nat) (a1 : Int32) (μ : Mem), pk (pr_X4_readExpression n a1 μ) (fun q => Rz μ q) := by
  intro n
  induction n with
  | zero => intro a1 μ r e; rw [pr_X4_readExpression_z] at e; cases e
  | succ n ih =>
    intro a1 μ
    rw [pr_X4_readExpression_s]
    exact w_X4_readExpression _ ih a1 μ
theorem w_X4_readFunction_b106 (a3 : Int32) (μ : Mem) : pk (p_X4_readFunction_b106 a3 μ) (fun q => Rz μ q) := by
  have z0 : Rz μ μ := Rz.rf
  rw [p_X4_readFunction_b106_eq]
  refine pk_bd (w_X4_take (61 : Int32) μ) (fun r21 μ20 ez1 => ?_)
  have z1 : Rz μ μ20 := z0.tr ez1
  refine pk_ite (fun _ => ?_) (fun _ => ?_)
  · exact pk_some z1
  · refine pk_bw (w_X3_begin (sel 2 (μ20.2.2 16 4)) a3 μ20) (fun μ23 ez2 => ?_)
    have z2 : Rz μ μ23 := z1.tr ez2
    refine pk_bw (wr_X4_readExpression 50 (0 : Int32) μ23) (fun μ25 ez3 => ?_)
    have z3 : Rz μ μ25 := z2.tr ez3
    refine pk_bd (w_X4_take (59 : Int32) μ25) (fun r28 μ27 ez4 => ?_)
    have z4 : Rz μ μ27 := z3.tr ez4
    refine pk_bd (w_X3_add (sel 2 (μ27.2.2 16 4)) (14 : Int32) (0 : Int32) (0 : Int32) μ27) (fun r30 μ29 ez5 => ?_)
    have z5 : Rz μ μ29 := z4.tr ez5
    exact pk_some z5
theorem w_X4_readFunction (μ : Mem) : pk (p_X4_readFunction μ) (fun q => Rz μ q) := by
  have z0 : Rz μ μ := Rz.rf
  rw [p_X4_readFunction_eq]
  refine pk_bvy (fun v1 _ => ?_)
  refine pk_bd (w_X4_here μ) (fun r3 μ2 ez1 => ?_)
  have z1 : Rz μ μ2 := z0.tr ez1
  refine pk_ite (fun _ => ?_) (fun _ => ?_)
  · refine pk_bw (w_X4_fail (μ2.1 16 2) μ2) (fun μ36 ez2 => ?_)
    have z2 : Rz μ μ36 := z1.tr ez2
    exact pk_some z2
  · refine pk_bvy (fun μ5 ez3 => ?_)
    have z3 : Rz μ μ5 := by rw [ez3]; exact z1.sF
    refine pk_bvy (fun μ6 ez4 => ?_)
    have z4 : Rz μ μ6 := by rw [ez4]; exact z3.sF
    refine pk_bd (w_X4_take (40 : Int32) μ6) (fun r8 μ7 ez5 => ?_)
    have z5 : Rz μ μ7 := z4.tr ez5
    refine pk_bw (w_X4_readNames μ7) (fun μ9 ez6 => ?_)
    have z6 : Rz μ μ9 := z5.tr ez6
    refine pk_bd (w_X4_take (41 : Int32) μ9) (fun r12 μ11 ez7 => ?_)
    have z7 : Rz μ μ11 := z6.tr ez7
    refine pk_bd (w_X4_isWell μ11) (fun r14 μ13 ez8 => ?_)
    have z8 : Rz μ μ13 := z7.tr ez8
    refine pk_ite (fun _ => ?_) (fun _ => ?_)
    · exact pk_some z8
    · refine pk_bvy (fun v16 _ => ?_)
      refine pk_bd (w_X4_here μ13) (fun r18 μ17 ez9 => ?_)
      have z9 : Rz μ μ17 := z8.tr ez9
      refine pk_ite (fun _ => ?_) (fun _ => ?_)
      · refine pk_bd (w_X3_startOf (sel 2 (μ17.2.2 16 4)) v16 μ17) (fun r32 μ31 ez10 => ?_)
        have z10 : Rz μ μ31 := z9.tr ez10
        refine pk_ite (fun _ => ?_) (fun _ => ?_)
        · exact pk_mono (w_X4_readFunction_b106 v16 μ31) (fun _ hq => z10.tr hq)
        · refine pk_bw (w_X4_fail v1 μ31) (fun μ34 ez11 => ?_)
          have z11 : Rz μ μ34 := z10.tr ez11
          exact pk_mono (w_X4_readFunction_b106 v16 μ34) (fun _ hq => z11.tr hq)
      · exact pk_mono (w_X4_readFunction_b106 v16 μ17) (fun _ hq => z9.tr hq)
theorem w_X4_readProgram_b14 : ∀ (n : Nat) (a2 : Int32) (μ : Mem), pk (p_X4_readProgram_b14  n a2 μ) (fun q => Rz μ q) := by
  intro n
  induction n with
  | zero => intro a2 μ r e; rw [p_X4_readProgram_b14_z] at e; cases e
  | succ n ih =>
    intro a2 μ
    have z0 : Rz μ μ := Rz.rf
    rw [p_X4_readProgram_b14_s]
    refine pk_ite (fun _ => ?_) (fun _ => ?_)
    · exact pk_some z0
    · refine pk_bd (w_X4_isWell μ) (fun r6 μ5 ez1 => ?_)
      have z1 : Rz μ μ5 := z0.tr ez1
      refine pk_ite (fun _ => ?_) (fun _ => ?_)
      · exact pk_some z1
      · refine pk_ite (fun _ => ?_) (fun _ => ?_)
        · exact pk_some z1
        · refine pk_bw (w_X4_readFunction μ5) (fun μ9 ez2 => ?_)
          have z2 : Rz μ μ9 := z1.tr ez2
          refine pk_bvy (fun v11 _ => ?_)
          exact pk_mono (ih v11 μ9) (fun _ hq => z2.tr hq)
theorem w_X4_readProgram (a1 : Nat) (μ : Mem) : pk (p_X4_readProgram a1 μ) (fun q => Rz μ q) := by
  have z0 : Rz μ μ := Rz.rf
  rw [p_X4_readProgram_eq]
  refine pk_bvy (fun μ1 ez1 => ?_)
  have z1 : Rz μ μ1 := by rw [ez1]; exact z0.sR (by decide)
  refine pk_bw (w_X3_clear (sel 2 (μ1.2.2 16 4)) μ1) (fun μ2 ez2 => ?_)
  have z2 : Rz μ μ2 := z1.tr ez2
  exact pk_mono (w_X4_readProgram_b14 FUEL (0 : Int32) μ2) (fun _ hq => z2.tr hq)
theorem w_X4_badPlace (μ : Mem) : pk (p_X4_badPlace μ) (fun q => Rz μ q.2) := by
  have z0 : Rz μ μ := Rz.rf
  rw [p_X4_badPlace_eq]
  exact pk_some z0
theorem w_X5_clear (μ : Mem) : pk (p_X5_clear μ) (fun q => Rz μ q) := by
  have z0 : Rz μ μ := Rz.rf
  rw [p_X5_clear_eq]
  refine pk_bvy (fun μ1 ez1 => ?_)
  have z1 : Rz μ μ1 := by rw [ez1]; exact z0.sF
  refine pk_bvy (fun μ2 ez2 => ?_)
  have z2 : Rz μ μ2 := by rw [ez2]; exact z1.sF
  refine pk_bvy (fun μ3 ez3 => ?_)
  have z3 : Rz μ μ3 := by rw [ez3]; exact z2.sF
  refine pk_bvy (fun μ4 ez4 => ?_)
  have z4 : Rz μ μ4 := by rw [ez4]; exact z3.sF
  refine pk_bvy (fun μ5 ez5 => ?_)
  have z5 : Rz μ μ5 := by rw [ez5]; exact z4.sF
  refine pk_bvy (fun μ6 ez6 => ?_)
  have z6 : Rz μ μ6 := by rw [ez6]; exact z5.sF
  refine pk_bvy (fun μ7 ez7 => ?_)
  have z7 : Rz μ μ7 := by rw [ez7]; exact z6.sF
  exact pk_some z7
theorem w_X11_program (μ : Mem) : pk (p_X11_program μ) (fun q => Rz μ q.2) := by
  have z0 : Rz μ μ := Rz.rf
  rw [p_X11_program_eq]
  refine pk_bw (w_X11_takeTape μ) (fun μ1 ez1 => ?_)
  have z1 : Rz μ μ1 := z0.tr ez1
  refine pk_bw (w_X4_readProgram (sel 2 (μ1.2.2 0 5)) μ1) (fun μ3 ez2 => ?_)
  have z2 : Rz μ μ3 := z1.tr ez2
  refine pk_bd (w_X4_badPlace μ3) (fun r6 μ5 ez3 => ?_)
  have z3 : Rz μ μ5 := z2.tr ez3
  refine pk_bvy (fun μ7 ez4 => ?_)
  have z4 : Rz μ μ7 := by rw [ez4]; exact z3.sF
  refine pk_ite (fun _ => ?_) (fun _ => ?_)
  · refine pk_bvy (fun μ9 ez5 => ?_)
    have z5 : Rz μ μ9 := by rw [ez5]; exact z4.sR (by decide)
    refine pk_bvy (fun μ10 ez6 => ?_)
    have z6 : Rz μ μ10 := by rw [ez6]; exact z5.sR (by decide)
    refine pk_bw (w_X5_clear μ10) (fun μ11 ez7 => ?_)
    have z7 : Rz μ μ11 := z6.tr ez7
    exact pk_some z7
  · exact pk_some z4
theorem w_X2_begin (a0 : Nat) (a1 : Int32) (μ : Mem) : pk (p_X2_begin a0 a1 μ) (fun q => Rz μ q) := by
  have z0 : Rz μ μ := Rz.rf
  rw [p_X2_begin_eq]
  refine pk_bvy (fun μ1 ez1 => ?_)
  have z1 : Rz μ μ1 := by rw [ez1]; exact z0.sF
  refine pk_bvy (fun μ2 ez2 => ?_)
  have z2 : Rz μ μ2 := by rw [ez2]; exact z1.sF
  exact pk_some z2
theorem w_X2_add (a0 : Nat) (a1 : Int64) (a3 : Int64) (μ : Mem) : pk (p_X2_add a0 a1 a3 μ) (fun q => Rz μ q) := by
  have z0 : Rz μ μ := Rz.rf
  rw [p_X2_add_eq]
  refine pk_ite (fun _ => ?_) (fun _ => ?_)
  · exact pk_some z0
  · refine pk_gd (fun _ => ?_)
    refine pk_bvy (fun μ2 ez1 => ?_)
    have z1 : Rz μ μ2 := by rw [ez1]; exact z0.sL
    refine pk_gd (fun _ => ?_)
    refine pk_bvy (fun μ3 ez2 => ?_)
    have z2 : Rz μ μ3 := by rw [ez2]; exact z1.sL
    refine pk_bvy (fun μ4 ez3 => ?_)
    have z3 : Rz μ μ4 := by rw [ez3]; exact z2.sF
    exact pk_some z3
theorem w_X2_stars_b28 (K4 : Nat → Int32 → Int32 → Mem → Option (Int32 × Mem)) (hK4 : ∀ (y0 : Nat) (y1 : Int32) (y2 : Int32) (y3 : Mem), pk (K4 y0 y1 y2 y3) (fun q => Rz y3 q.2)) (a0 : Nat) (a1 : Int32) (a2 : Int32) (μ : Mem) : pk (p_X2_stars_b28 K4 a0 a1 a2 μ) (fun q => Rz μ q.2) := by
  have z0 : Rz μ μ := Rz.rf
  rw [p_X2_stars_b28_eq]
  refine pk_bvy (fun v3 _ => ?_)
  exact pk_mono (hK4 a0 a1 v3 μ) (fun _ hq => z0.tr hq)
theorem w_X2_stars_b4 : ∀ (n : Nat) (a0 : Nat) (a1 : Int32) (a2 : Int32) (μ : Mem), pk (p_X2_stars_b4  n a0 a1 a2 μ) (fun q => Rz μ q.2) := by
  intro n
  induction n with
  | zero => intro a0 a1 a2 μ r e; rw [p_X2_stars_b4_z] at e; cases e
  | succ n ih =>
    intro a0 a1 a2 μ
    have z0 : Rz μ μ := Rz.rf
    rw [p_X2_stars_b4_s]
    refine pk_ite (fun _ => ?_) (fun _ => ?_)
    · exact pk_some z0
    · refine pk_gd (fun _ => ?_)
      refine pk_ite (fun _ => ?_) (fun _ => ?_)
      · refine pk_bvy (fun v4 _ => ?_)
        exact pk_mono (w_X2_stars_b28 (p_X2_stars_b4  n) ih a0 v4 a2 μ) (fun _ hq => z0.tr hq)
      · exact pk_mono (w_X2_stars_b28 (p_X2_stars_b4  n) ih a0 a1 a2 μ) (fun _ hq => z0.tr hq)
theorem w_X2_stars (a0 : Nat) (μ : Mem) : pk (p_X2_stars a0 μ) (fun q => Rz μ q.2) := by
  have z0 : Rz μ μ := Rz.rf
  rw [p_X2_stars_eq]
  exact pk_mono (w_X2_stars_b4 FUEL a0 (0 : Int32) (0 : Int32) μ) (fun _ hq => z0.tr hq)
theorem w_X4_readPart (RE : Nat → Int32 → Int32 → Mem → Option Mem) (hRE : ∀ (y0 : Nat) (y1 : Int32) (y2 : Int32) (y3 : Mem), pk (RE y0 y1 y2 y3) (fun q => Rz y3 q)) (a1 : Nat) (a2 : Int32) (a3 : Int32) (μ : Mem) : pk (p_X4_readPart RE a1 a2 a3 μ) (fun q => Rz μ q) := by
  have z0 : Rz μ μ := Rz.rf
  rw [p_X4_readPart_eq]
  refine pk_bd (w_X4_isWell μ) (fun r2 μ1 ez1 => ?_)
  have z1 : Rz μ μ1 := z0.tr ez1
  refine pk_ite (fun _ => ?_) (fun _ => ?_)
  · exact pk_some z1
  · refine pk_bd (w_X4_here μ1) (fun r5 μ4 ez2 => ?_)
    have z2 : Rz μ μ4 := z1.tr ez2
    refine pk_ite (fun _ => ?_) (fun _ => ?_)
    · refine pk_bw (w_X4_fail (μ4.1 16 2) μ4) (fun μ7 ez3 => ?_)
      have z3 : Rz μ μ7 := z2.tr ez3
      exact pk_some z3
    · refine pk_ite (fun _ => ?_) (fun _ => ?_)
      · refine pk_ite (fun _ => ?_) (fun _ => ?_)
        · refine pk_bvy (fun μ27 ez4 => ?_)
          have z4 : Rz μ μ27 := by rw [ez4]; exact z2.sF
          refine pk_bw (w_X2_add a1 (8589934592 : Int64) (0 : Int64) μ27) (fun μ28 ez5 => ?_)
          have z5 : Rz μ μ28 := z4.tr ez5
          refine pk_bw (hRE a1 a2 (a3 + (1 : Int32)) μ28) (fun μ30 ez6 => ?_)
          have z6 : Rz μ μ30 := z5.tr ez6
          refine pk_bd (w_X4_take (44 : Int32) μ30) (fun r33 μ32 ez7 => ?_)
          have z7 : Rz μ μ32 := z6.tr ez7
          refine pk_bw (hRE a1 a2 (a3 + (1 : Int32)) μ32) (fun μ34 ez8 => ?_)
          have z8 : Rz μ μ34 := z7.tr ez8
          refine pk_bd (w_X4_take (93 : Int32) μ34) (fun r37 μ36 ez9 => ?_)
          have z9 : Rz μ μ36 := z8.tr ez9
          exact pk_some z9
        · refine pk_ite (fun _ => ?_) (fun _ => ?_)
          · refine pk_ite (fun _ => ?_) (fun _ => ?_)
            · refine pk_bd (w_X2_stars a1 μ4) (fun r16 μ15 ez10 => ?_)
              have z10 : Rz μ μ15 := z2.tr ez10
              refine pk_ite (fun _ => ?_) (fun _ => ?_)
              · refine pk_bw (w_X4_fail (μ15.1 16 2) μ15) (fun μ18 ez11 => ?_)
                have z11 : Rz μ μ18 := z10.tr ez11
                exact pk_some z11
              · refine pk_bvy (fun μ20 ez12 => ?_)
                have z12 : Rz μ μ20 := by rw [ez12]; exact z10.sF
                refine pk_bw (w_X2_add a1 (17179869184 : Int64) (0 : Int64) μ20) (fun μ21 ez13 => ?_)
                have z13 : Rz μ μ21 := z12.tr ez13
                exact pk_some z13
            · refine pk_bw (w_X4_fail (μ4.1 16 2) μ4) (fun μ13 ez14 => ?_)
              have z14 : Rz μ μ13 := z2.tr ez14
              exact pk_some z14
          · refine pk_bd (w_X4_readNumber μ4) (fun r24 μ23 ez15 => ?_)
            have z15 : Rz μ μ23 := z2.tr ez15
            refine pk_bw (w_X2_add a1 r24 (0 : Int64) μ23) (fun μ25 ez16 => ?_)
            have z16 : Rz μ μ25 := z15.tr ez16
            exact pk_some z16
      · refine pk_bw (w_X4_fail (μ4.1 16 2) μ4) (fun μ38 ez17 => ?_)
        have z17 : Rz μ μ38 := z2.tr ez17
        exact pk_some z17
theorem wr_X4_readPart : ∀ (n : Nat) (a1 : Nat) (a2 : Int32) (a3 : Int32) (μ : Mem), pk (pr_X4_readPart n a1 a2 a3 μ) (fun q => Rz μ q) := by
  intro n
  induction n with
  | zero => intro a1 a2 a3 μ r e; rw [pr_X4_readPart_z] at e; cases e
  | succ n ih =>
    intro a1 a2 a3 μ
    rw [pr_X4_readPart_s]
    exact w_X4_readPart _ ih a1 a2 a3 μ
theorem w_X4_takeEnd (μ : Mem) : pk (p_X4_takeEnd μ) (fun q => Rz μ q) := by
  have z0 : Rz μ μ := Rz.rf
  rw [p_X4_takeEnd_eq]
  refine pk_bd (w_X4_isWell μ) (fun r2 μ1 ez1 => ?_)
  have z1 : Rz μ μ1 := z0.tr ez1
  refine pk_ite (fun _ => ?_) (fun _ => ?_)
  · exact pk_some z1
  · refine pk_ite (fun _ => ?_) (fun _ => ?_)
    · exact pk_some z1
    · refine pk_bw (w_X4_fail (μ1.1 16 2) μ1) (fun μ5 ez2 => ?_)
      have z2 : Rz μ μ5 := z1.tr ez2
      exact pk_some z2
theorem w_X4_readTask_b116 (a1 : Nat) (a2 : Int32) (a3 : Int32) (μ : Mem) : pk (p_X4_readTask_b116 a1 a2 a3 μ) (fun q => Rz μ q) := by
  have z0 : Rz μ μ := Rz.rf
  rw [p_X4_readTask_b116_eq]
  refine pk_bd (w_X4_take (41 : Int32) μ) (fun r13 μ12 ez1 => ?_)
  have z1 : Rz μ μ12 := z0.tr ez1
  refine pk_bvy (fun μ14 ez2 => ?_)
  have z2 : Rz μ μ14 := by rw [ez2]; exact z1.sF
  refine pk_bw (w_X4_takeEnd μ14) (fun μ15 ez3 => ?_)
  have z3 : Rz μ μ15 := z2.tr ez3
  exact pk_some z3
theorem w_X4_readTask_b71 : ∀ (n : Nat) (a1 : Nat) (a2 : Int32) (a3 : Int32) (μ : Mem), pk (p_X4_readTask_b71  n a1 a2 a3 μ) (fun q => Rz μ q) := by
  intro n
  induction n with
  | zero => intro a1 a2 a3 μ r e; rw [p_X4_readTask_b71_z] at e; cases e
  | succ n ih =>
    intro a1 a2 a3 μ
    have z0 : Rz μ μ := Rz.rf
    rw [p_X4_readTask_b71_s]
    refine pk_bd (w_X4_isWell μ) (fun r23 μ22 ez1 => ?_)
    have z1 : Rz μ μ22 := z0.tr ez1
    refine pk_ite (fun _ => ?_) (fun _ => ?_)
    · exact pk_mono (w_X4_readTask_b116 a1 a2 a3 μ22) (fun _ hq => z1.tr hq)
    · refine pk_bd (w_X4_here μ22) (fun r26 μ25 ez2 => ?_)
      have z2 : Rz μ μ25 := z1.tr ez2
      refine pk_ite (fun _ => ?_) (fun _ => ?_)
      · refine pk_ite (fun _ => ?_) (fun _ => ?_)
        · exact pk_mono (w_X4_readTask_b116 a1 a2 a3 μ25) (fun _ hq => z2.tr hq)
        · refine pk_bvy (fun μ29 ez3 => ?_)
          have z3 : Rz μ μ29 := by rw [ez3]; exact z2.sF
          refine pk_bw (wr_X4_readPart 50 a1 (8 : Int32) (0 : Int32) μ29) (fun μ30 ez4 => ?_)
          have z4 : Rz μ μ30 := z3.tr ez4
          refine pk_bvy (fun v32 _ => ?_)
          exact pk_mono (ih a1 a2 v32 μ30) (fun _ hq => z4.tr hq)
      · exact pk_mono (w_X4_readTask_b116 a1 a2 a3 μ25) (fun _ hq => z2.tr hq)
theorem w_X4_readTask (a1 : Nat) (μ : Mem) : pk (p_X4_readTask a1 μ) (fun q => Rz μ q) := by
  have z0 : Rz μ μ := Rz.rf
  rw [p_X4_readTask_eq]
  refine pk_bw (w_X2_begin a1 (0 : Int32) μ) (fun μ1 ez1 => ?_)
  have z1 : Rz μ μ1 := z0.tr ez1
  refine pk_bd (w_X4_here μ1) (fun r4 μ3 ez2 => ?_)
  have z2 : Rz μ μ3 := z1.tr ez2
  refine pk_ite (fun _ => ?_) (fun _ => ?_)
  · refine pk_bw (w_X4_fail (μ3.1 16 2) μ3) (fun μ33 ez3 => ?_)
    have z3 : Rz μ μ33 := z2.tr ez3
    exact pk_some z3
  · refine pk_bvy (fun μ6 ez4 => ?_)
    have z4 : Rz μ μ6 := by rw [ez4]; exact z2.sF
    refine pk_bd (w_X4_take (40 : Int32) μ6) (fun r8 μ7 ez5 => ?_)
    have z5 : Rz μ μ7 := z4.tr ez5
    refine pk_bd (w_X4_isWell μ7) (fun r10 μ9 ez6 => ?_)
    have z6 : Rz μ μ9 := z5.tr ez6
    refine pk_ite (fun _ => ?_) (fun _ => ?_)
    · exact pk_mono (w_X4_readTask_b116 a1 r4 (0 : Int32) μ9) (fun _ hq => z6.tr hq)
    · refine pk_bd (w_X4_here μ9) (fun r18 μ17 ez7 => ?_)
      have z7 : Rz μ μ17 := z6.tr ez7
      refine pk_ite (fun _ => ?_) (fun _ => ?_)
      · exact pk_mono (w_X4_readTask_b116 a1 r4 (0 : Int32) μ17) (fun _ hq => z7.tr hq)
      · refine pk_bw (wr_X4_readPart 50 a1 (8 : Int32) (0 : Int32) μ17) (fun μ20 ez8 => ?_)
        have z8 : Rz μ μ20 := z7.tr ez8
        exact pk_mono (w_X4_readTask_b71 FUEL a1 r4 (1 : Int32) μ20) (fun _ hq => z8.tr hq)
theorem w_X4_readValues_b30 (K7 : Nat → Int32 → Int32 → Mem → Option Mem) (hK7 : ∀ (y0 : Nat) (y1 : Int32) (y2 : Int32) (y3 : Mem), pk (K7 y0 y1 y2 y3) (fun q => Rz y3 q)) (a1 : Nat) (a2 : Int32) (a3 : Int32) (μ : Mem) : pk (p_X4_readValues_b30 K7 a1 a2 a3 μ) (fun q => Rz μ q) := by
  have z0 : Rz μ μ := Rz.rf
  rw [p_X4_readValues_b30_eq]
  refine pk_bw (wr_X4_readPart 50 a1 (0 : Int32) (0 : Int32) μ) (fun μ12 ez1 => ?_)
  have z1 : Rz μ μ12 := z0.tr ez1
  refine pk_bvy (fun v14 _ => ?_)
  exact pk_mono (hK7 a1 a2 v14 μ12) (fun _ hq => z1.tr hq)
theorem w_X4_readValues_b7 : ∀ (n : Nat) (a1 : Nat) (a2 : Int32) (a3 : Int32) (μ : Mem), pk (p_X4_readValues_b7  n a1 a2 a3 μ) (fun q => Rz μ q) := by
  intro n
  induction n with
  | zero => intro a1 a2 a3 μ r e; rw [p_X4_readValues_b7_z] at e; cases e
  | succ n ih =>
    intro a1 a2 a3 μ
    have z0 : Rz μ μ := Rz.rf
    rw [p_X4_readValues_b7_s]
    refine pk_ite (fun _ => ?_) (fun _ => ?_)
    · refine pk_bw (w_X4_takeEnd μ) (fun μ4 ez1 => ?_)
      have z1 : Rz μ μ4 := z0.tr ez1
      exact pk_some z1
    · refine pk_bd (w_X4_isWell μ) (fun r7 μ6 ez2 => ?_)
      have z2 : Rz μ μ6 := z0.tr ez2
      refine pk_ite (fun _ => ?_) (fun _ => ?_)
      · refine pk_bw (w_X4_takeEnd μ6) (fun μ9 ez3 => ?_)
        have z3 : Rz μ μ9 := z2.tr ez3
        exact pk_some z3
      · refine pk_ite (fun _ => ?_) (fun _ => ?_)
        · exact pk_mono (w_X4_readValues_b30 (p_X4_readValues_b7  n) ih a1 a2 a3 μ6) (fun _ hq => z2.tr hq)
        · refine pk_bd (w_X4_take (44 : Int32) μ6) (fun r16 μ15 ez4 => ?_)
          have z4 : Rz μ μ15 := z2.tr ez4
          exact pk_mono (w_X4_readValues_b30 (p_X4_readValues_b7  n) ih a1 a2 a3 μ15) (fun _ hq => z4.tr hq)
theorem w_X4_readValues (a1 : Nat) (a2 : Int32) (μ : Mem) : pk (p_X4_readValues a1 a2 μ) (fun q => Rz μ q) := by
  have z0 : Rz μ μ := Rz.rf
  rw [p_X4_readValues_eq]
  refine pk_bw (w_X2_begin a1 (0 : Int32) μ) (fun μ1 ez1 => ?_)
  have z1 : Rz μ μ1 := z0.tr ez1
  exact pk_mono (w_X4_readValues_b7 FUEL a1 a2 (0 : Int32) μ1) (fun _ hq => z1.tr hq)
theorem w_X11_fault (μ : Mem) : pk (p_X11_fault μ) (fun q => Rz μ q.2) := by
  have z0 : Rz μ μ := Rz.rf
  rw [p_X11_fault_eq]
  exact pk_some z0
theorem w_X10_setLimit_b46 (a1 : Int32) (a2 : Int32) (μ : Mem) : pk (p_X10_setLimit_b46 a1 a2 μ) (fun q => Rz μ q.2) := by
  have z0 : Rz μ μ := Rz.rf
  rw [p_X10_setLimit_b46_eq]
  refine pk_ite (fun _ => ?_) (fun _ => ?_)
  · refine pk_ite (fun _ => ?_) (fun _ => ?_)
    · exact pk_some z0
    · refine pk_ite (fun _ => ?_) (fun _ => ?_)
      · exact pk_some z0
      · refine pk_bvy (fun μ6 ez1 => ?_)
        have z1 : Rz μ μ6 := by rw [ez1]; exact z0.sF
        exact pk_some z1
  · exact pk_some z0
theorem w_X10_setLimit_b22 (a1 : Int32) (a2 : Int32) (μ : Mem) : pk (p_X10_setLimit_b22 a1 a2 μ) (fun q => Rz μ q.2) := by
  have z0 : Rz μ μ := Rz.rf
  rw [p_X10_setLimit_b22_eq]
  refine pk_ite (fun _ => ?_) (fun _ => ?_)
  · refine pk_ite (fun _ => ?_) (fun _ => ?_)
    · exact pk_mono (w_X10_setLimit_b46 a1 a2 μ) (fun _ hq => z0.tr hq)
    · refine pk_ite (fun _ => ?_) (fun _ => ?_)
      · exact pk_mono (w_X10_setLimit_b46 a1 a2 μ) (fun _ hq => z0.tr hq)
      · refine pk_bvy (fun μ9 ez1 => ?_)
        have z1 : Rz μ μ9 := by rw [ez1]; exact z0.sF
        exact pk_some z1
  · exact pk_mono (w_X10_setLimit_b46 a1 a2 μ) (fun _ hq => z0.tr hq)
theorem w_X10_setLimit (a1 : Int32) (a2 : Int32) (μ : Mem) : pk (p_X10_setLimit a1 a2 μ) (fun q => Rz μ q.2) := by
  have z0 : Rz μ μ := Rz.rf
  rw [p_X10_setLimit_eq]
  refine pk_ite (fun _ => ?_) (fun _ => ?_)
  · refine pk_ite (fun _ => ?_) (fun _ => ?_)
    · exact pk_mono (w_X10_setLimit_b22 a1 a2 μ) (fun _ hq => z0.tr hq)
    · refine pk_ite (fun _ => ?_) (fun _ => ?_)
      · exact pk_mono (w_X10_setLimit_b22 a1 a2 μ) (fun _ hq => z0.tr hq)
      · refine pk_bvy (fun μ12 ez1 => ?_)
        have z1 : Rz μ μ12 := by rw [ez1]; exact z0.sF
        exact pk_some z1
  · exact pk_mono (w_X10_setLimit_b22 a1 a2 μ) (fun _ hq => z0.tr hq)
theorem w_X11_set (a1 : Int32) (a2 : Int32) (μ : Mem) : pk (p_X11_set a1 a2 μ) (fun q => Rz μ q.2) := by
  have z0 : Rz μ μ := Rz.rf
  rw [p_X11_set_eq]
  refine pk_bd (w_X10_setLimit a1 a2 μ) (fun r2 μ1 ez1 => ?_)
  have z1 : Rz μ μ1 := z0.tr ez1
  refine pk_ite (fun _ => ?_) (fun _ => ?_)
  · exact pk_some z1
  · refine pk_bw (w_X5_clear μ1) (fun μ4 ez2 => ?_)
    have z2 : Rz μ μ4 := z1.tr ez2
    exact pk_some z2
theorem w_X11_is (a1 : Int32) (μ : Mem) : pk (p_X11_is a1 μ) (fun q => Rz μ q.2) := by
  have z0 : Rz μ μ := Rz.rf
  rw [p_X11_is_eq]
  refine pk_ite (fun _ => ?_) (fun _ => ?_)
  · exact pk_some z0
  · refine pk_ite (fun _ => ?_) (fun _ => ?_)
    · refine pk_bd (w_X2_stars (sel 1 (μ.2.2 0 6)) μ) (fun r5 μ4 ez1 => ?_)
      have z1 : Rz μ μ4 := z0.tr ez1
      exact pk_some z1
    · refine pk_ite (fun _ => ?_) (fun _ => ?_)
      · refine pk_ite (fun _ => ?_) (fun _ => ?_)
        · exact pk_some z0
        · refine pk_bd (w_X2_stars (sel 1 (μ.2.2 0 6)) μ) (fun r9 μ8 ez2 => ?_)
          have z2 : Rz μ μ8 := z0.tr ez2
          exact pk_some z2
      · refine pk_ite (fun _ => ?_) (fun _ => ?_)
        · exact pk_some z0
        · refine pk_ite (fun _ => ?_) (fun _ => ?_)
          · exact pk_some z0
          · refine pk_ite (fun _ => ?_) (fun _ => ?_)
            · exact pk_some z0
            · refine pk_ite (fun _ => ?_) (fun _ => ?_)
              · exact pk_some z0
              · refine pk_ite (fun _ => ?_) (fun _ => ?_)
                · exact pk_some z0
                · exact pk_some z0
theorem w_X3_about (a0 : Nat) (a1 : Int32) (a2 : Int32) (μ : Mem) : pk (p_X3_about a0 a1 a2 μ) (fun q => Rz μ q.2) := by
  have z0 : Rz μ μ := Rz.rf
  rw [p_X3_about_eq]
  refine pk_ite (fun _ => ?_) (fun _ => ?_)
  · exact pk_some z0
  · refine pk_ite (fun _ => ?_) (fun _ => ?_)
    · exact pk_some z0
    · refine pk_ite (fun _ => ?_) (fun _ => ?_)
      · exact pk_some z0
      · refine pk_ite (fun _ => ?_) (fun _ => ?_)
        · refine pk_gd (fun _ => ?_)
          exact pk_some z0
        · exact pk_some z0
theorem w_X11_function (a1 : Int32) (a2 : Int32) (μ : Mem) : pk (p_X11_function a1 a2 μ) (fun q => Rz μ q.2) := by
  have z0 : Rz μ μ := Rz.rf
  rw [p_X11_function_eq]
  refine pk_bd (w_X3_about (sel 2 (μ.2.2 0 4)) a1 a2 μ) (fun r2 μ1 ez1 => ?_)
  have z1 : Rz μ μ1 := z0.tr ez1
  exact pk_some z1
theorem w_X2_addParts_b3 : ∀ (n : Nat) (a0 : Nat) (a1 : Nat) (a3 : Int32) (a4 : Int32) (μ : Mem), pk (p_X2_addParts_b3  n a0 a1 a3 a4 μ) (fun q => Rz μ q) := by
  intro n
  induction n with
  | zero => intro a0 a1 a3 a4 μ r e; rw [p_X2_addParts_b3_z] at e; cases e
  | succ n ih =>
    intro a0 a1 a3 a4 μ
    have z0 : Rz μ μ := Rz.rf
    rw [p_X2_addParts_b3_s]
    refine pk_ite (fun _ => ?_) (fun _ => ?_)
    · exact pk_some z0
    · refine pk_ite (fun _ => ?_) (fun _ => ?_)
      · exact pk_some z0
      · refine pk_gd (fun _ => ?_)
        refine pk_gd (fun _ => ?_)
        refine pk_bw (w_X2_add a0 (μ.2.1 (a1 + 1) a4.toNatClampNeg) (μ.2.1 (a1 + 2) a4.toNatClampNeg) μ) (fun μ3 ez1 => ?_)
        have z1 : Rz μ μ3 := z0.tr ez1
        refine pk_bvy (fun v5 _ => ?_)
        exact pk_mono (ih a0 a1 a3 v5 μ3) (fun _ hq => z1.tr hq)
theorem w_X2_addParts (a0 : Nat) (a1 : Nat) (a2 : Int32) (a3 : Int32) (μ : Mem) : pk (p_X2_addParts a0 a1 a2 a3 μ) (fun q => Rz μ q) := by
  have z0 : Rz μ μ := Rz.rf
  rw [p_X2_addParts_eq]
  exact pk_mono (w_X2_addParts_b3 FUEL a0 a1 a3 a2 μ) (fun _ hq => z0.tr hq)
theorem w_X2_copyFrom (a0 : Nat) (a1 : Nat) (μ : Mem) : pk (p_X2_copyFrom a0 a1 μ) (fun q => Rz μ q) := by
  have z0 : Rz μ μ := Rz.rf
  rw [p_X2_copyFrom_eq]
  refine pk_bw (w_X2_begin a0 (μ.1 a1 3) μ) (fun μ1 ez1 => ?_)
  have z1 : Rz μ μ1 := z0.tr ez1
  refine pk_bw (w_X2_addParts a0 a1 (0 : Int32) (μ1.1 a1 2) μ1) (fun μ3 ez2 => ?_)
  have z2 : Rz μ μ3 := z1.tr ez2
  exact pk_some z2
theorem w_X5_setVariant (a1 : Int32) (a2 : Int32) (a3 : Int32) (μ : Mem) : pk (p_X5_setVariant a1 a2 a3 μ) (fun q => Rz μ q) := by
  have z0 : Rz μ μ := Rz.rf
  rw [p_X5_setVariant_eq]
  refine pk_ite (fun _ => ?_) (fun _ => ?_)
  · exact pk_some z0
  · refine pk_ite (fun _ => ?_) (fun _ => ?_)
    · exact pk_some z0
    · refine pk_gd (fun _ => ?_)
      refine pk_bvy (fun μ3 ez1 => ?_)
      have z1 : Rz μ μ3 := by rw [ez1]; exact z0.sF
      exact pk_some z1
theorem w_X5_addVariant (a1 : Nat) (a2 : Int32) (μ : Mem) : pk (p_X5_addVariant a1 a2 μ) (fun q => Rz μ q.2) := by
  have z0 : Rz μ μ := Rz.rf
  rw [p_X5_addVariant_eq]
  refine pk_ite (fun _ => ?_) (fun _ => ?_)
  · refine pk_bvy (fun v2 _ => ?_)
    refine pk_bvy (fun μ3 ez1 => ?_)
    have z1 : Rz μ μ3 := by rw [ez1]; exact z0.sF
    refine pk_gd (fun _ => ?_)
    refine pk_bw (w_X2_copyFrom (ptc v2.toNatClampNeg) a1 μ3) (fun μ4 ez2 => ?_)
    have z2 : Rz μ μ4 := z1.tr ez2
    refine pk_bw (w_X5_setVariant v2 (0 : Int32) a2 μ4) (fun μ6 ez3 => ?_)
    have z3 : Rz μ μ6 := z2.tr ez3
    refine pk_bw (w_X5_setVariant v2 (1 : Int32) (0 : Int32) μ6) (fun μ8 ez4 => ?_)
    have z4 : Rz μ μ8 := z3.tr ez4
    refine pk_bd (w_X2_stars a1 μ8) (fun r11 μ10 ez5 => ?_)
    have z5 : Rz μ μ10 := z4.tr ez5
    refine pk_bw (w_X5_setVariant v2 (2 : Int32) r11 μ10) (fun μ12 ez6 => ?_)
    have z6 : Rz μ μ12 := z5.tr ez6
    refine pk_bw (w_X5_setVariant v2 (3 : Int32) (-1 : Int32) μ12) (fun μ14 ez7 => ?_)
    have z7 : Rz μ μ14 := z6.tr ez7
    exact pk_some z7
  · exact pk_some z0
theorem w_X5_patternOf (a1 : Int32) (μ : Mem) : pk (p_X5_patternOf a1 μ) (fun q => Rz μ q.2) := by
  have z0 : Rz μ μ := Rz.rf
  rw [p_X5_patternOf_eq]
  refine pk_gd (fun _ => ?_)
  exact pk_some z0
theorem w_X5_addBlock (μ : Mem) : pk (p_X5_addBlock μ) (fun q => Rz μ q.2) := by
  have z0 : Rz μ μ := Rz.rf
  rw [p_X5_addBlock_eq]
  refine pk_ite (fun _ => ?_) (fun _ => ?_)
  · refine pk_gd (fun _ => ?_)
    refine pk_bvy (fun μ2 ez1 => ?_)
    have z1 : Rz μ μ2 := by rw [ez1]; exact z0.sF
    refine pk_gd (fun _ => ?_)
    refine pk_bvy (fun μ3 ez2 => ?_)
    have z2 : Rz μ μ3 := by rw [ez2]; exact z1.sF
    refine pk_gd (fun _ => ?_)
    refine pk_bvy (fun μ4 ez3 => ?_)
    have z3 : Rz μ μ4 := by rw [ez3]; exact z2.sL
    refine pk_bvy (fun μ5 ez4 => ?_)
    have z4 : Rz μ μ5 := by rw [ez4]; exact z3.sF
    exact pk_some z4
  · exact pk_some z0
theorem w_X8_clear (μ : Mem) : pk (p_X8_clear μ) (fun q => Rz μ q) := by
  have z0 : Rz μ μ := Rz.rf
  rw [p_X8_clear_eq]
  refine pk_bvy (fun μ1 ez1 => ?_)
  have z1 : Rz μ μ1 := by rw [ez1]; exact z0.sF
  refine pk_bvy (fun μ2 ez2 => ?_)
  have z2 : Rz μ μ2 := by rw [ez2]; exact z1.sF
  refine pk_bvy (fun μ3 ez3 => ?_)
  have z3 : Rz μ μ3 := by rw [ez3]; exact z2.sF
  exact pk_some z3
theorem w_X8_isPair (a1 : Int64) (μ : Mem) : pk (p_X8_isPair a1 μ) (fun q => Rz μ q.2) := by
  have z0 : Rz μ μ := Rz.rf
  rw [p_X8_isPair_eq]
  refine pk_ite (fun _ => ?_) (fun _ => ?_)
  · refine pk_ite (fun _ => ?_) (fun _ => ?_)
    · exact pk_some z0
    · refine pk_ite (fun _ => ?_) (fun _ => ?_)
      · exact pk_some z0
      · exact pk_some z0
  · exact pk_some z0
theorem w_X8_weightOf (a1 : Int64) (μ : Mem) : pk (p_X8_weightOf a1 μ) (fun q => Rz μ q.2) := by
  have z0 : Rz μ μ := Rz.rf
  rw [p_X8_weightOf_eq]
  refine pk_bd (w_X8_isPair a1 μ) (fun r2 μ1 ez1 => ?_)
  have z1 : Rz μ μ1 := z0.tr ez1
  refine pk_ite (fun _ => ?_) (fun _ => ?_)
  · exact pk_some z1
  · refine pk_gd (fun _ => ?_)
    exact pk_some z1
theorem w_X8_deepOf (a1 : Int64) (μ : Mem) : pk (p_X8_deepOf a1 μ) (fun q => Rz μ q.2) := by
  have z0 : Rz μ μ := Rz.rf
  rw [p_X8_deepOf_eq]
  refine pk_bd (w_X8_isPair a1 μ) (fun r2 μ1 ez1 => ?_)
  have z1 : Rz μ μ1 := z0.tr ez1
  refine pk_ite (fun _ => ?_) (fun _ => ?_)
  · exact pk_some z1
  · refine pk_gd (fun _ => ?_)
    exact pk_some z1
theorem w_X8_pair (a1 : Int64) (a3 : Int64) (μ : Mem) : pk (p_X8_pair a1 a3 μ) (fun q => Rz μ q.2) := by
  have z0 : Rz μ μ := Rz.rf
  rw [p_X8_pair_eq]
  refine pk_ite (fun _ => ?_) (fun _ => ?_)
  · refine pk_gd (fun _ => ?_)
    refine pk_bvy (fun μ2 ez1 => ?_)
    have z1 : Rz μ μ2 := by rw [ez1]; exact z0.sL
    refine pk_gd (fun _ => ?_)
    refine pk_bvy (fun μ3 ez2 => ?_)
    have z2 : Rz μ μ3 := by rw [ez2]; exact z1.sL
    refine pk_bd (w_X8_weightOf a1 μ3) (fun r5 μ4 ez3 => ?_)
    have z3 : Rz μ μ4 := z2.tr ez3
    refine pk_bd (w_X8_weightOf a3 μ4) (fun r7 μ6 ez4 => ?_)
    have z4 : Rz μ μ6 := z3.tr ez4
    refine pk_gd (fun _ => ?_)
    refine pk_bvy (fun μ8 ez5 => ?_)
    have z5 : Rz μ μ8 := by rw [ez5]; exact z4.sF
    refine pk_bd (w_X8_deepOf a1 μ8) (fun r10 μ9 ez6 => ?_)
    have z6 : Rz μ μ9 := z5.tr ez6
    refine pk_bd (w_X8_deepOf a3 μ9) (fun r12 μ11 ez7 => ?_)
    have z7 : Rz μ μ11 := z6.tr ez7
    refine pk_gd (fun _ => ?_)
    refine pk_bvy (fun μ13 ez8 => ?_)
    have z8 : Rz μ μ13 := by rw [ez8]; exact z7.sF
    refine pk_bvy (fun μ14 ez9 => ?_)
    have z9 : Rz μ μ14 := by rw [ez9]; exact z8.sF
    exact pk_some z9
  · exact pk_some z0
theorem w_X8_build_b148 : ∀ (n : Nat) (a3 : Nat) (a4 : Int32) (a6 : Int32) (a7 : Int32) (μ : Mem), pk (p_X8_build_b148  n a3 a4 a6 a7 μ) (fun q => Rz μ q.2) := by
  intro n
  induction n with
  | zero => intro a3 a4 a6 a7 μ r e; rw [p_X8_build_b148_z] at e; cases e
  | succ n ih =>
    intro a3 a4 a6 a7 μ
    have z0 : Rz μ μ := Rz.rf
    rw [p_X8_build_b148_s]
    refine pk_ite (fun _ => ?_) (fun _ => ?_)
    · exact pk_some z0
    · refine pk_gd (fun _ => ?_)
      refine pk_gd (fun _ => ?_)
      refine pk_bvy (fun μ7 ez1 => ?_)
      have z1 : Rz μ μ7 := by rw [ez1]; exact z0.sL
      refine pk_bvy (fun v8 _ => ?_)
      exact pk_mono (ih a3 a4 a6 v8 μ7) (fun _ hq => z1.tr hq)
theorem w_X8_build_b130 (K17 : Nat → Nat → Nat → Int32 → Int32 → Int32 → Mem → Option (Int32 × Mem)) (hK17 : ∀ (y0 : Nat) (y1 : Nat) (y2 : Nat) (y3 : Int32) (y4 : Int32) (y5 : Int32) (y6 : Mem), pk (K17 y0 y1 y2 y3 y4 y5 y6) (fun q => Rz y6 q.2)) (a1 : Nat) (a2 : Nat) (a3 : Nat) (a4 : Int32) (a5 : Int32) (a6 : Int32) (μ : Mem) : pk (p_X8_build_b130 K17 a1 a2 a3 a4 a5 a6 μ) (fun q => Rz μ q.2) := by
  have z0 : Rz μ μ := Rz.rf
  rw [p_X8_build_b130_eq]
  refine pk_bvy (fun v13 _ => ?_)
  exact pk_mono (hK17 a1 a2 a3 a4 a5 v13 μ) (fun _ hq => z0.tr hq)
theorem w_X8_build_b108 (K17 : Nat → Nat → Nat → Int32 → Int32 → Int32 → Mem → Option (Int32 × Mem)) (hK17 : ∀ (y0 : Nat) (y1 : Nat) (y2 : Nat) (y3 : Int32) (y4 : Int32) (y5 : Int32) (y6 : Mem), pk (K17 y0 y1 y2 y3 y4 y5 y6) (fun q => Rz y6 q.2)) (a1 : Nat) (a2 : Nat) (a3 : Nat) (a4 : Int32) (a5 : Int32) (a6 : Int32) (a7 : Int64) (μ : Mem) : pk (p_X8_build_b108 K17 a1 a2 a3 a4 a5 a6 a7 μ) (fun q => Rz μ q.2) := by
  have z0 : Rz μ μ := Rz.rf
  rw [p_X8_build_b108_eq]
  refine pk_ite (fun _ => ?_) (fun _ => ?_)
  · exact pk_mono (w_X8_build_b130 K17 hK17 a1 a2 a3 a4 a5 a6 μ) (fun _ hq => z0.tr hq)
  · refine pk_gd (fun _ => ?_)
    refine pk_bvy (fun μ14 ez1 => ?_)
    have z1 : Rz μ μ14 := by rw [ez1]; exact z0.sL
    refine pk_bvy (fun v15 _ => ?_)
    exact pk_mono (w_X8_build_b130 K17 hK17 a1 a2 a3 v15 a5 a6 μ14) (fun _ hq => z1.tr hq)
theorem w_X8_build_b63 (K17 : Nat → Nat → Nat → Int32 → Int32 → Int32 → Mem → Option (Int32 × Mem)) (hK17 : ∀ (y0 : Nat) (y1 : Nat) (y2 : Nat) (y3 : Int32) (y4 : Int32) (y5 : Int32) (y6 : Mem), pk (K17 y0 y1 y2 y3 y4 y5 y6) (fun q => Rz y6 q.2)) (a1 : Nat) (a2 : Nat) (a3 : Nat) (a4 : Int32) (a5 : Int32) (a6 : Int32) (k0 : Int64) (μ : Mem) : pk (p_X8_build_b63 K17 a1 a2 a3 a4 a5 a6 k0 μ) (fun q => Rz μ q.2) := by
  have z0 : Rz μ μ := Rz.rf
  rw [p_X8_build_b63_eq]
  exact pk_mono (w_X8_build_b108 K17 hK17 a1 a2 a3 a4 a5 a6 k0 μ) (fun _ hq => z0.tr hq)
theorem w_X8_build_b62 (K17 : Nat → Nat → Nat → Int32 → Int32 → Int32 → Mem → Option (Int32 × Mem)) (hK17 : ∀ (y0 : Nat) (y1 : Nat) (y2 : Nat) (y3 : Int32) (y4 : Int32) (y5 : Int32) (y6 : Mem), pk (K17 y0 y1 y2 y3 y4 y5 y6) (fun q => Rz y6 q.2)) (a1 : Nat) (a2 : Nat) (a3 : Nat) (a4 : Int32) (a5 : Int32) (a6 : Int32) (μ : Mem) : pk (p_X8_build_b62 K17 a1 a2 a3 a4 a5 a6 μ) (fun q => Rz μ q.2) := by
  have z0 : Rz μ μ := Rz.rf
  rw [p_X8_build_b62_eq]
  exact pk_mono (w_X8_build_b63 K17 hK17 a1 a2 a3 a4 a5 a6 (0 : Int64) μ) (fun _ hq => z0.tr hq)
theorem w_X8_build_b17 : ∀ (n : Nat) (a1 : Nat) (a2 : Nat) (a3 : Nat) (a4 : Int32) (a5 : Int32) (a6 : Int32) (μ : Mem), pk (p_X8_build_b17  n a1 a2 a3 a4 a5 a6 μ) (fun q => Rz μ q.2) := by
  intro n
  induction n with
  | zero => intro a1 a2 a3 a4 a5 a6 μ r e; rw [p_X8_build_b17_z] at e; cases e
  | succ n ih =>
    intro a1 a2 a3 a4 a5 a6 μ
    have z0 : Rz μ μ := Rz.rf
    rw [p_X8_build_b17_s]
    refine pk_ite (fun _ => ?_) (fun _ => ?_)
    · refine pk_bvy (fun v5 _ => ?_)
      exact pk_mono (w_X8_build_b148 FUEL a3 a4 v5 (0 : Int32) μ) (fun _ hq => z0.tr hq)
    · refine pk_gd (fun _ => ?_)
      refine pk_bvy (fun v9 _ => ?_)
      refine pk_ite (fun _ => ?_) (fun _ => ?_)
      · refine pk_bvy (fun v20 _ => ?_)
        refine pk_ite (fun _ => ?_) (fun _ => ?_)
        · exact pk_mono (w_X8_build_b62 (p_X8_build_b17  n) ih a1 a2 a3 a4 v20 a6 μ) (fun _ hq => z0.tr hq)
        · refine pk_ite (fun _ => ?_) (fun _ => ?_)
          · exact pk_mono (w_X8_build_b62 (p_X8_build_b17  n) ih a1 a2 a3 a4 v20 a6 μ) (fun _ hq => z0.tr hq)
          · refine pk_gd (fun _ => ?_)
            exact pk_mono (w_X8_build_b63 (p_X8_build_b17  n) ih a1 a2 a3 a4 v20 a6 (μ.2.1 a2 v20.toNatClampNeg) μ) (fun _ hq => z0.tr hq)
      · refine pk_ite (fun _ => ?_) (fun _ => ?_)
        · refine pk_ite (fun _ => ?_) (fun _ => ?_)
          · exact pk_mono (w_X8_build_b108 (p_X8_build_b17  n) ih a1 a2 a3 a4 a5 a6 v9 μ) (fun _ hq => z0.tr hq)
          · refine pk_bvy (fun v17 _ => ?_)
            refine pk_gd (fun _ => ?_)
            refine pk_gd (fun _ => ?_)
            refine pk_bd (w_X8_pair (μ.2.1 35 (v17 + (1 : Int32)).toNatClampNeg) (μ.2.1 35 v17.toNatClampNeg) μ) (fun r19 μ18 ez1 => ?_)
            have z1 : Rz μ μ18 := z0.tr ez1
            exact pk_mono (w_X8_build_b108 (p_X8_build_b17  n) ih a1 a2 a3 v17 a5 a6 r19 μ18) (fun _ hq => z1.tr hq)
        · exact pk_mono (w_X8_build_b108 (p_X8_build_b17  n) ih a1 a2 a3 a4 a5 a6 v9 μ) (fun _ hq => z0.tr hq)
theorem w_X8_build (a1 : Nat) (a2 : Nat) (a3 : Nat) (μ : Mem) : pk (p_X8_build a1 a2 a3 μ) (fun q => Rz μ q.2) := by
  have z0 : Rz μ μ := Rz.rf
  rw [p_X8_build_eq]
  refine pk_bd (w_X2_stars a1 μ) (fun r2 μ1 ez1 => ?_)
  have z1 : Rz μ μ1 := z0.tr ez1
  refine pk_bvy (fun v3 _ => ?_)
  exact pk_mono (w_X8_build_b17 FUEL a1 a2 a3 (0 : Int32) r2 v3 μ1) (fun _ hq => z1.tr hq)
theorem w_X8_setVar (a1 : Int32) (a2 : Int64) (μ : Mem) : pk (p_X8_setVar a1 a2 μ) (fun q => Rz μ q) := by
  have z0 : Rz μ μ := Rz.rf
  rw [p_X8_setVar_eq]
  refine pk_bvy (fun v1 _ => ?_)
  refine pk_ite (fun _ => ?_) (fun _ => ?_)
  · exact pk_some z0
  · refine pk_ite (fun _ => ?_) (fun _ => ?_)
    · exact pk_some z0
    · refine pk_gd (fun _ => ?_)
      refine pk_bvy (fun μ4 ez1 => ?_)
      have z1 : Rz μ μ4 := by rw [ez1]; exact z0.sL
      exact pk_some z1
theorem w_X10_beginVariant_b87 : ∀ (n : Nat) (a2 : Nat) (a3 : Int32) (a4 : Int32) (μ : Mem), pk (p_X10_beginVariant_b87  n a2 a3 a4 μ) (fun q => Rz μ q) := by
  intro n
  induction n with
  | zero => intro a2 a3 a4 μ r e; rw [p_X10_beginVariant_b87_z] at e; cases e
  | succ n ih =>
    intro a2 a3 a4 μ
    have z0 : Rz μ μ := Rz.rf
    rw [p_X10_beginVariant_b87_s]
    refine pk_ite (fun _ => ?_) (fun _ => ?_)
    · refine pk_bd (w_X3_startOf (sel 2 (μ.2.2 137 5)) (μ.1 a2 3) μ) (fun r18 μ17 ez1 => ?_)
      have z1 : Rz μ μ17 := z0.tr ez1
      refine pk_bvy (fun μ19 ez2 => ?_)
      have z2 : Rz μ μ19 := by rw [ez2]; exact z1.sF
      exact pk_some z2
    · refine pk_gd (fun _ => ?_)
      refine pk_bw (w_X8_setVar a4 (μ.2.1 141 a4.toNatClampNeg) μ) (fun μ20 ez3 => ?_)
      have z3 : Rz μ μ20 := z0.tr ez3
      refine pk_bvy (fun v22 _ => ?_)
      exact pk_mono (ih a2 a3 v22 μ20) (fun _ hq => z3.tr hq)
theorem w_X10_beginVariant (a1 : Int32) (μ : Mem) : pk (p_X10_beginVariant a1 μ) (fun q => Rz μ q) := by
  have z0 : Rz μ μ := Rz.rf
  rw [p_X10_beginVariant_eq]
  refine pk_bvy (fun μ1 ez1 => ?_)
  have z1 : Rz μ μ1 := by rw [ez1]; exact z0.sF
  refine pk_ite (fun _ => ?_) (fun _ => ?_)
  · refine pk_bd (w_X5_patternOf a1 μ1) (fun r4 μ3 ez2 => ?_)
    have z2 : Rz μ μ3 := z1.tr ez2
    refine pk_bd (w_X5_addBlock μ3) (fun r6 μ5 ez3 => ?_)
    have z3 : Rz μ μ5 := z2.tr ez3
    refine pk_bvy (fun μ7 ez4 => ?_)
    have z4 : Rz μ μ7 := by rw [ez4]; exact z3.sF
    refine pk_bw (w_X5_setVariant a1 (3 : Int32) (μ7.1 137 8) μ7) (fun μ8 ez5 => ?_)
    have z5 : Rz μ μ8 := z4.tr ez5
    refine pk_bw (w_X8_clear μ8) (fun μ10 ez6 => ?_)
    have z6 : Rz μ μ10 := z5.tr ez6
    refine pk_bvy (fun μ12 ez7 => ?_)
    have z7 : Rz μ μ12 := by rw [ez7]; exact z6.sF
    refine pk_bvy (fun μ13 ez8 => ?_)
    have z8 : Rz μ μ13 := by rw [ez8]; exact z7.sF
    refine pk_bd (w_X8_build r4 140 141 μ13) (fun r15 μ14 ez9 => ?_)
    have z9 : Rz μ μ14 := z8.tr ez9
    exact pk_mono (w_X10_beginVariant_b87 FUEL r4 r15 (0 : Int32) μ14) (fun _ hq => z9.tr hq)
  · exact pk_some z1
theorem w_X10_begin (a1 : Nat) (a2 : Nat) (μ : Mem) : pk (p_X10_begin a1 a2 μ) (fun q => Rz μ q) := by
  have z0 : Rz μ μ := Rz.rf
  rw [p_X10_begin_eq]
  refine pk_bvy (fun μ1 ez1 => ?_)
  have z1 : Rz μ μ1 := by rw [ez1]; exact z0.sR (by decide)
  refine pk_bw (w_X5_clear μ1) (fun μ2 ez2 => ?_)
  have z2 : Rz μ μ2 := z1.tr ez2
  refine pk_bvy (fun μ4 ez3 => ?_)
  have z3 : Rz μ μ4 := by rw [ez3]; exact z2.sF
  refine pk_bvy (fun μ5 ez4 => ?_)
  have z4 : Rz μ μ5 := by rw [ez4]; exact z3.sF
  refine pk_bd (w_X3_startOf (sel 2 (μ5.2.2 137 5)) (μ5.1 a2 3) μ5) (fun r7 μ6 ez5 => ?_)
  have z5 : Rz μ μ6 := z4.tr ez5
  refine pk_ite (fun _ => ?_) (fun _ => ?_)
  · refine pk_bvy (fun μ13 ez6 => ?_)
    have z6 : Rz μ μ13 := by rw [ez6]; exact z5.sF
    exact pk_some z6
  · refine pk_bd (w_X5_addVariant a2 (-1 : Int32) μ6) (fun r10 μ9 ez7 => ?_)
    have z7 : Rz μ μ9 := z5.tr ez7
    refine pk_bw (w_X10_beginVariant (0 : Int32) μ9) (fun μ11 ez8 => ?_)
    have z8 : Rz μ μ11 := z7.tr ez8
    exact pk_some z8
theorem w_X10_isWorking (μ : Mem) : pk (p_X10_isWorking μ) (fun q => Rz μ q.2) := by
  have z0 : Rz μ μ := Rz.rf
  rw [p_X10_isWorking_eq]
  refine pk_ite (fun _ => ?_) (fun _ => ?_)
  · refine pk_ite (fun _ => ?_) (fun _ => ?_)
    · exact pk_some z0
    · exact pk_some z0
  · exact pk_some z0
theorem w_X3_stepAt (a0 : Nat) (a1 : Int32) (μ : Mem) : pk (p_X3_stepAt a0 a1 μ) (fun q => Rz μ q.2) := by
  have z0 : Rz μ μ := Rz.rf
  rw [p_X3_stepAt_eq]
  refine pk_ite (fun _ => ?_) (fun _ => ?_)
  · exact pk_some z0
  · refine pk_ite (fun _ => ?_) (fun _ => ?_)
    · exact pk_some z0
    · refine pk_gd (fun _ => ?_)
      exact pk_some z0
theorem w_X3_markAt (a0 : Nat) (a1 : Int32) (μ : Mem) : pk (p_X3_markAt a0 a1 μ) (fun q => Rz μ q.2) := by
  have z0 : Rz μ μ := Rz.rf
  rw [p_X3_markAt_eq]
  refine pk_ite (fun _ => ?_) (fun _ => ?_)
  · exact pk_some z0
  · refine pk_ite (fun _ => ?_) (fun _ => ?_)
    · exact pk_some z0
    · refine pk_gd (fun _ => ?_)
      exact pk_some z0
theorem w_X3_bitsAt (a0 : Nat) (a1 : Int32) (μ : Mem) : pk (p_X3_bitsAt a0 a1 μ) (fun q => Rz μ q.2) := by
  have z0 : Rz μ μ := Rz.rf
  rw [p_X3_bitsAt_eq]
  refine pk_ite (fun _ => ?_) (fun _ => ?_)
  · exact pk_some z0
  · refine pk_ite (fun _ => ?_) (fun _ => ?_)
    · exact pk_some z0
    · refine pk_gd (fun _ => ?_)
      exact pk_some z0
theorem w_X8_push (a1 : Int64) (μ : Mem) : pk (p_X8_push a1 μ) (fun q => Rz μ q) := by
  have z0 : Rz μ μ := Rz.rf
  rw [p_X8_push_eq]
  refine pk_ite (fun _ => ?_) (fun _ => ?_)
  · exact pk_some z0
  · refine pk_gd (fun _ => ?_)
    refine pk_bvy (fun μ2 ez1 => ?_)
    have z1 : Rz μ μ2 := by rw [ez1]; exact z0.sL
    refine pk_bvy (fun μ3 ez2 => ?_)
    have z2 : Rz μ μ3 := by rw [ez2]; exact z1.sF
    exact pk_some z2
theorem w_X8_varAt (a1 : Int32) (μ : Mem) : pk (p_X8_varAt a1 μ) (fun q => Rz μ q.2) := by
  have z0 : Rz μ μ := Rz.rf
  rw [p_X8_varAt_eq]
  refine pk_bvy (fun v1 _ => ?_)
  refine pk_ite (fun _ => ?_) (fun _ => ?_)
  · exact pk_some z0
  · refine pk_ite (fun _ => ?_) (fun _ => ?_)
    · exact pk_some z0
    · refine pk_gd (fun _ => ?_)
      exact pk_some z0
theorem w_X8_pop (μ : Mem) : pk (p_X8_pop μ) (fun q => Rz μ q.2) := by
  have z0 : Rz μ μ := Rz.rf
  rw [p_X8_pop_eq]
  refine pk_ite (fun _ => ?_) (fun _ => ?_)
  · refine pk_bvy (fun μ2 ez1 => ?_)
    have z1 : Rz μ μ2 := by rw [ez1]; exact z0.sF
    refine pk_gd (fun _ => ?_)
    exact pk_some z1
  · exact pk_some z0
theorem w_X8_firstOf (a1 : Int64) (μ : Mem) : pk (p_X8_firstOf a1 μ) (fun q => Rz μ q.2) := by
  have z0 : Rz μ μ := Rz.rf
  rw [p_X8_firstOf_eq]
  refine pk_bd (w_X8_isPair a1 μ) (fun r2 μ1 ez1 => ?_)
  have z1 : Rz μ μ1 := z0.tr ez1
  refine pk_ite (fun _ => ?_) (fun _ => ?_)
  · exact pk_some z1
  · refine pk_gd (fun _ => ?_)
    exact pk_some z1
theorem w_X8_num_b5 : ∀ (n : Nat) (a3 : Int64) (a5 : Int32) (μ : Mem), pk (p_X8_num_b5  n a3 a5 μ) (fun q => Rz μ q.2) := by
  intro n
  induction n with
  | zero => intro a3 a5 μ r e; rw [p_X8_num_b5_z] at e; cases e
  | succ n ih =>
    intro a3 a5 μ
    have z0 : Rz μ μ := Rz.rf
    rw [p_X8_num_b5_s]
    refine pk_ite (fun _ => ?_) (fun _ => ?_)
    · exact pk_some z0
    · refine pk_bd (w_X8_isPair a3 μ) (fun r3 μ2 ez1 => ?_)
      have z1 : Rz μ μ2 := z0.tr ez1
      refine pk_ite (fun _ => ?_) (fun _ => ?_)
      · exact pk_some z1
      · refine pk_bd (w_X8_firstOf a3 μ2) (fun r6 μ5 ez2 => ?_)
        have z2 : Rz μ μ5 := z1.tr ez2
        refine pk_bvy (fun v7 _ => ?_)
        exact pk_mono (ih r6 v7 μ5) (fun _ hq => z2.tr hq)
theorem w_X8_num (a1 : Int64) (μ : Mem) : pk (p_X8_num a1 μ) (fun q => Rz μ q.2) := by
  have z0 : Rz μ μ := Rz.rf
  rw [p_X8_num_eq]
  exact pk_mono (w_X8_num_b5 FUEL a1 (0 : Int32) μ) (fun _ hq => z0.tr hq)
theorem w_X8_popNum (μ : Mem) : pk (p_X8_popNum μ) (fun q => Rz μ q.2) := by
  have z0 : Rz μ μ := Rz.rf
  rw [p_X8_popNum_eq]
  refine pk_bd (w_X8_pop μ) (fun r2 μ1 ez1 => ?_)
  have z1 : Rz μ μ1 := z0.tr ez1
  refine pk_bd (w_X8_num r2 μ1) (fun r4 μ3 ez2 => ?_)
  have z2 : Rz μ μ3 := z1.tr ez2
  exact pk_some z2
theorem w_X5_addInstruction_b182 (a4 : Int32) (a6 : Int32) (μ : Mem) : pk (p_X5_addInstruction_b182 a4 a6 μ) (fun q => Rz μ q.2) := by
  have z0 : Rz μ μ := Rz.rf
  rw [p_X5_addInstruction_b182_eq]
  refine pk_gd (fun _ => ?_)
  refine pk_bvy (fun v13 _ => ?_)
  refine pk_ite (fun _ => ?_) (fun _ => ?_)
  · refine pk_gd (fun _ => ?_)
    refine pk_bvy (fun μ17 ez1 => ?_)
    have z1 : Rz μ μ17 := by rw [ez1]; exact z0.sF
    refine pk_gd (fun _ => ?_)
    refine pk_bvy (fun μ18 ez2 => ?_)
    have z2 : Rz μ μ18 := by rw [ez2]; exact z1.sF
    exact pk_some z2
  · refine pk_gd (fun _ => ?_)
    refine pk_bvy (fun μ15 ez3 => ?_)
    have z3 : Rz μ μ15 := by rw [ez3]; exact z0.sF
    refine pk_gd (fun _ => ?_)
    refine pk_bvy (fun μ16 ez4 => ?_)
    have z4 : Rz μ μ16 := by rw [ez4]; exact z3.sF
    exact pk_some z4
theorem w_X5_addInstruction_b76 : ∀ (n : Nat) (a1 : Int32) (a2 : Int32) (a3 : Int32) (a4 : Int32) (a6 : Int32) (a7 : Int32) (a8 : Int32) (μ : Mem), pk (p_X5_addInstruction_b76  n a1 a2 a3 a4 a6 a7 a8 μ) (fun q => Rz μ q.2) := by
  intro n
  induction n with
  | zero => intro a1 a2 a3 a4 a6 a7 a8 μ r e; rw [p_X5_addInstruction_b76_z] at e; cases e
  | succ n ih =>
    intro a1 a2 a3 a4 a6 a7 a8 μ
    have z0 : Rz μ μ := Rz.rf
    rw [p_X5_addInstruction_b76_s]
    refine pk_ite (fun _ => ?_) (fun _ => ?_)
    · refine pk_gd (fun _ => ?_)
      refine pk_bvy (fun μ8 ez1 => ?_)
      have z1 : Rz μ μ8 := by rw [ez1]; exact z0.sF
      refine pk_gd (fun _ => ?_)
      refine pk_bvy (fun μ9 ez2 => ?_)
      have z2 : Rz μ μ9 := by rw [ez2]; exact z1.sF
      refine pk_gd (fun _ => ?_)
      refine pk_bvy (fun μ10 ez3 => ?_)
      have z3 : Rz μ μ10 := by rw [ez3]; exact z2.sF
      refine pk_gd (fun _ => ?_)
      refine pk_bvy (fun μ11 ez4 => ?_)
      have z4 : Rz μ μ11 := by rw [ez4]; exact z3.sF
      refine pk_ite (fun _ => ?_) (fun _ => ?_)
      · exact pk_mono (w_X5_addInstruction_b182 a4 a6 μ11) (fun _ hq => z4.tr hq)
      · refine pk_bvy (fun v19 _ => ?_)
        refine pk_gd (fun _ => ?_)
        refine pk_gd (fun _ => ?_)
        refine pk_bvy (fun μ20 ez5 => ?_)
        have z5 : Rz μ μ20 := by rw [ez5]; exact z4.sF
        refine pk_gd (fun _ => ?_)
        refine pk_gd (fun _ => ?_)
        refine pk_bvy (fun μ21 ez6 => ?_)
        have z6 : Rz μ μ21 := by rw [ez6]; exact z5.sF
        exact pk_mono (w_X5_addInstruction_b182 a4 a6 μ21) (fun _ hq => z6.tr hq)
    · refine pk_gd (fun _ => ?_)
      refine pk_bvy (fun μ22 ez7 => ?_)
      have z7 : Rz μ μ22 := by rw [ez7]; exact z0.sF
      refine pk_bvy (fun v23 _ => ?_)
      exact pk_mono (ih a1 a2 a3 a4 a6 a7 v23 μ22) (fun _ hq => z7.tr hq)
theorem w_X5_addInstruction_b31 (a1 : Int32) (a2 : Int32) (a3 : Int32) (a4 : Int32) (k0 : Int32) (μ : Mem) : pk (p_X5_addInstruction_b31 a1 a2 a3 a4 k0 μ) (fun q => Rz μ q.2) := by
  have z0 : Rz μ μ := Rz.rf
  rw [p_X5_addInstruction_b31_eq]
  refine pk_ite (fun _ => ?_) (fun _ => ?_)
  · exact pk_some z0
  · refine pk_ite (fun _ => ?_) (fun _ => ?_)
    · exact pk_some z0
    · refine pk_bvy (fun v4 _ => ?_)
      refine pk_bvy (fun v5 _ => ?_)
      refine pk_bvy (fun μ6 ez1 => ?_)
      have z1 : Rz μ μ6 := by rw [ez1]; exact z0.sF
      exact pk_mono (w_X5_addInstruction_b76 FUEL a1 a2 a3 a4 v4 v5 (0 : Int32) μ6) (fun _ hq => z1.tr hq)
theorem w_X5_addInstruction_b30 (a1 : Int32) (a2 : Int32) (a3 : Int32) (a4 : Int32) (μ : Mem) : pk (p_X5_addInstruction_b30 a1 a2 a3 a4 μ) (fun q => Rz μ q.2) := by
  have z0 : Rz μ μ := Rz.rf
  rw [p_X5_addInstruction_b30_eq]
  exact pk_mono (w_X5_addInstruction_b31 a1 a2 a3 a4 (0 : Int32) μ) (fun _ hq => z0.tr hq)
theorem w_X5_addInstruction (a1 : Int32) (a2 : Int32) (a3 : Int32) (a4 : Int32) (μ : Mem) : pk (p_X5_addInstruction a1 a2 a3 a4 μ) (fun q => Rz μ q.2) := by
  have z0 : Rz μ μ := Rz.rf
  rw [p_X5_addInstruction_eq]
  refine pk_ite (fun _ => ?_) (fun _ => ?_)
  · exact pk_mono (w_X5_addInstruction_b30 a1 a2 a3 a4 μ) (fun _ hq => z0.tr hq)
  · refine pk_ite (fun _ => ?_) (fun _ => ?_)
    · exact pk_mono (w_X5_addInstruction_b30 a1 a2 a3 a4 μ) (fun _ hq => z0.tr hq)
    · refine pk_ite (fun _ => ?_) (fun _ => ?_)
      · exact pk_mono (w_X5_addInstruction_b30 a1 a2 a3 a4 μ) (fun _ hq => z0.tr hq)
      · refine pk_ite (fun _ => ?_) (fun _ => ?_)
        · exact pk_mono (w_X5_addInstruction_b30 a1 a2 a3 a4 μ) (fun _ hq => z0.tr hq)
        · exact pk_mono (w_X5_addInstruction_b31 a1 a2 a3 a4 (1 : Int32) μ) (fun _ hq => z0.tr hq)
theorem w_X10_breakOff (a1 : Int32) (μ : Mem) : pk (p_X10_breakOff a1 μ) (fun q => Rz μ q) := by
  have z0 : Rz μ μ := Rz.rf
  rw [p_X10_breakOff_eq]
  refine pk_ite (fun _ => ?_) (fun _ => ?_)
  · refine pk_bvy (fun μ2 ez1 => ?_)
    have z1 : Rz μ μ2 := by rw [ez1]; exact z0.sF
    exact pk_some z1
  · exact pk_some z0
theorem w_X5_setOperand (a1 : Int32) (a2 : Int32) (a3 : Int64) (μ : Mem) : pk (p_X5_setOperand a1 a2 a3 μ) (fun q => Rz μ q) := by
  have z0 : Rz μ μ := Rz.rf
  rw [p_X5_setOperand_eq]
  refine pk_ite (fun _ => ?_) (fun _ => ?_)
  · exact pk_some z0
  · refine pk_ite (fun _ => ?_) (fun _ => ?_)
    · exact pk_some z0
    · refine pk_ite (fun _ => ?_) (fun _ => ?_)
      · exact pk_some z0
      · refine pk_ite (fun _ => ?_) (fun _ => ?_)
        · exact pk_some z0
        · refine pk_gd (fun _ => ?_)
          refine pk_bvy (fun μ5 ez1 => ?_)
          have z1 : Rz μ μ5 := by rw [ez1]; exact z0.sL
          exact pk_some z1
theorem w_X5_cell (a1 : Int32) (a2 : Int32) (μ : Mem) : pk (p_X5_cell a1 a2 μ) (fun q => Rz μ q.2) := by
  have z0 : Rz μ μ := Rz.rf
  rw [p_X5_cell_eq]
  refine pk_ite (fun _ => ?_) (fun _ => ?_)
  · exact pk_some z0
  · refine pk_ite (fun _ => ?_) (fun _ => ?_)
    · exact pk_some z0
    · refine pk_ite (fun _ => ?_) (fun _ => ?_)
      · exact pk_some z0
      · refine pk_gd (fun _ => ?_)
        exact pk_some z0
theorem w_X10_leave (a1 : Int32) (a2 : Int32) (a3 : Int64) (a5 : Int64) (μ : Mem) : pk (p_X10_leave a1 a2 a3 a5 μ) (fun q => Rz μ q.2) := by
  have z0 : Rz μ μ := Rz.rf
  rw [p_X10_leave_eq]
  refine pk_ite (fun _ => ?_) (fun _ => ?_)
  · refine pk_bd (w_X5_addInstruction a1 a2 (μ.1 137 7) (μ.1 137 8) μ) (fun r3 μ2 ez1 => ?_)
    have z1 : Rz μ μ2 := z0.tr ez1
    refine pk_ite (fun _ => ?_) (fun _ => ?_)
    · refine pk_bw (w_X10_breakOff (-2 : Int32) μ2) (fun μ11 ez2 => ?_)
      have z2 : Rz μ μ11 := z1.tr ez2
      exact pk_some z2
    · refine pk_bw (w_X5_setOperand r3 (0 : Int32) a3 μ2) (fun μ5 ez3 => ?_)
      have z3 : Rz μ μ5 := z1.tr ez3
      refine pk_bw (w_X5_setOperand r3 (1 : Int32) a5 μ5) (fun μ7 ez4 => ?_)
      have z4 : Rz μ μ7 := z3.tr ez4
      refine pk_bd (w_X5_cell r3 (1 : Int32) μ7) (fun r10 μ9 ez5 => ?_)
      have z5 : Rz μ μ9 := z4.tr ez5
      exact pk_some z5
  · exact pk_some z0
theorem w_X10_reckon_b49 (a1 : Int32) (a2 : Int64) (a4 : Int64) (μ : Mem) : pk (p_X10_reckon_b49 a1 a2 a4 μ) (fun q => Rz μ q) := by
  have z0 : Rz μ μ := Rz.rf
  rw [p_X10_reckon_b49_eq]
  refine pk_bd (w_X10_leave (0 : Int32) a1 a4 a2 μ) (fun r7 μ6 ez1 => ?_)
  have z1 : Rz μ μ6 := z0.tr ez1
  refine pk_bw (w_X8_push r7 μ6) (fun μ8 ez2 => ?_)
  have z2 : Rz μ μ8 := z1.tr ez2
  exact pk_some z2
theorem w_X10_reckon (a1 : Int32) (μ : Mem) : pk (p_X10_reckon a1 μ) (fun q => Rz μ q) := by
  have z0 : Rz μ μ := Rz.rf
  rw [p_X10_reckon_eq]
  refine pk_bd (w_X8_popNum μ) (fun r2 μ1 ez1 => ?_)
  have z1 : Rz μ μ1 := z0.tr ez1
  refine pk_bd (w_X8_popNum μ1) (fun r4 μ3 ez2 => ?_)
  have z2 : Rz μ μ3 := z1.tr ez2
  refine pk_ite (fun _ => ?_) (fun _ => ?_)
  · exact pk_mono (w_X10_reckon_b49 a1 r2 r4 μ3) (fun _ hq => z2.tr hq)
  · refine pk_ite (fun _ => ?_) (fun _ => ?_)
    · exact pk_mono (w_X10_reckon_b49 a1 r2 r4 μ3) (fun _ hq => z2.tr hq)
    · refine pk_bw (w_X8_push (s_X0_apply a1 r4 r2) μ3) (fun μ11 ez3 => ?_)
      have z3 : Rz μ μ11 := z2.tr ez3
      exact pk_some z3
theorem w_X10_turn_b49 (a2 : Int64) (k0 : Int32) (μ : Mem) : pk (p_X10_turn_b49 a2 k0 μ) (fun q => Rz μ q) := by
  have z0 : Rz μ μ := Rz.rf
  rw [p_X10_turn_b49_eq]
  refine pk_bd (w_X10_leave k0 (0 : Int32) a2 (0 : Int64) μ) (fun r7 μ6 ez1 => ?_)
  have z1 : Rz μ μ6 := z0.tr ez1
  refine pk_bw (w_X8_push r7 μ6) (fun μ8 ez2 => ?_)
  have z2 : Rz μ μ8 := z1.tr ez2
  exact pk_some z2
theorem w_X10_turn (a1 : Int32) (μ : Mem) : pk (p_X10_turn a1 μ) (fun q => Rz μ q) := by
  have z0 : Rz μ μ := Rz.rf
  rw [p_X10_turn_eq]
  refine pk_bd (w_X8_popNum μ) (fun r2 μ1 ez1 => ?_)
  have z1 : Rz μ μ1 := z0.tr ez1
  refine pk_ite (fun _ => ?_) (fun _ => ?_)
  · refine pk_ite (fun _ => ?_) (fun _ => ?_)
    · exact pk_mono (w_X10_turn_b49 r2 (1 : Int32) μ1) (fun _ hq => z1.tr hq)
    · refine pk_ite (fun _ => ?_) (fun _ => ?_)
      · exact pk_mono (w_X10_turn_b49 r2 (2 : Int32) μ1) (fun _ hq => z1.tr hq)
      · exact pk_mono (w_X10_turn_b49 r2 (3 : Int32) μ1) (fun _ hq => z1.tr hq)
  · refine pk_bw (w_X8_push (s_X0_turn a1 r2) μ1) (fun μ10 ez2 => ?_)
    have z2 : Rz μ μ10 := z1.tr ez2
    exact pk_some z2
theorem w_X8_secondOf (a1 : Int64) (μ : Mem) : pk (p_X8_secondOf a1 μ) (fun q => Rz μ q.2) := by
  have z0 : Rz μ μ := Rz.rf
  rw [p_X8_secondOf_eq]
  refine pk_bd (w_X8_isPair a1 μ) (fun r2 μ1 ez1 => ?_)
  have z1 : Rz μ μ1 := z0.tr ez1
  refine pk_ite (fun _ => ?_) (fun _ => ?_)
  · exact pk_some z1
  · refine pk_gd (fun _ => ?_)
    exact pk_some z1
theorem w_X10_takePart_b19 (a2 : Int64) (k0 : Int32) (μ : Mem) : pk (p_X10_takePart_b19 a2 k0 μ) (fun q => Rz μ q) := by
  have z0 : Rz μ μ := Rz.rf
  rw [p_X10_takePart_b19_eq]
  refine pk_ite (fun _ => ?_) (fun _ => ?_)
  · refine pk_ite (fun _ => ?_) (fun _ => ?_)
    · refine pk_bd (w_X10_leave (5 : Int32) (0 : Int32) a2 (0 : Int64) μ) (fun r16 μ15 ez1 => ?_)
      have z1 : Rz μ μ15 := z0.tr ez1
      refine pk_bw (w_X8_push r16 μ15) (fun μ17 ez2 => ?_)
      have z2 : Rz μ μ17 := z1.tr ez2
      exact pk_some z2
    · refine pk_bd (w_X10_leave (4 : Int32) (0 : Int32) a2 (0 : Int64) μ) (fun r20 μ19 ez3 => ?_)
      have z3 : Rz μ μ19 := z0.tr ez3
      refine pk_bw (w_X8_push r20 μ19) (fun μ21 ez4 => ?_)
      have z4 : Rz μ μ21 := z3.tr ez4
      exact pk_some z4
  · refine pk_ite (fun _ => ?_) (fun _ => ?_)
    · refine pk_bd (w_X8_secondOf a2 μ) (fun r7 μ6 ez5 => ?_)
      have z5 : Rz μ μ6 := z0.tr ez5
      refine pk_bw (w_X8_push r7 μ6) (fun μ8 ez6 => ?_)
      have z6 : Rz μ μ8 := z5.tr ez6
      exact pk_some z6
    · refine pk_bd (w_X8_firstOf a2 μ) (fun r11 μ10 ez7 => ?_)
      have z7 : Rz μ μ10 := z0.tr ez7
      refine pk_bw (w_X8_push r11 μ10) (fun μ12 ez8 => ?_)
      have z8 : Rz μ μ12 := z7.tr ez8
      exact pk_some z8
theorem w_X10_takePart (a1 : Int32) (μ : Mem) : pk (p_X10_takePart a1 μ) (fun q => Rz μ q) := by
  have z0 : Rz μ μ := Rz.rf
  rw [p_X10_takePart_eq]
  refine pk_bd (w_X8_pop μ) (fun r2 μ1 ez1 => ?_)
  have z1 : Rz μ μ1 := z0.tr ez1
  refine pk_ite (fun _ => ?_) (fun _ => ?_)
  · exact pk_mono (w_X10_takePart_b19 r2 (1 : Int32) μ1) (fun _ hq => z1.tr hq)
  · exact pk_mono (w_X10_takePart_b19 r2 (0 : Int32) μ1) (fun _ hq => z1.tr hq)
theorem w_X8_isTooHeavy (a1 : Int64) (a3 : Int64) (μ : Mem) : pk (p_X8_isTooHeavy a1 a3 μ) (fun q => Rz μ q.2) := by
  have z0 : Rz μ μ := Rz.rf
  rw [p_X8_isTooHeavy_eq]
  refine pk_bd (w_X8_weightOf a1 μ) (fun r2 μ1 ez1 => ?_)
  have z1 : Rz μ μ1 := z0.tr ez1
  refine pk_bd (w_X8_weightOf a3 μ1) (fun r4 μ3 ez2 => ?_)
  have z2 : Rz μ μ3 := z1.tr ez2
  refine pk_ite (fun _ => ?_) (fun _ => ?_)
  · exact pk_some z2
  · exact pk_some z2
theorem w_X10_makePair (μ : Mem) : pk (p_X10_makePair μ) (fun q => Rz μ q) := by
  have z0 : Rz μ μ := Rz.rf
  rw [p_X10_makePair_eq]
  refine pk_bd (w_X8_pop μ) (fun r2 μ1 ez1 => ?_)
  have z1 : Rz μ μ1 := z0.tr ez1
  refine pk_bd (w_X8_pop μ1) (fun r4 μ3 ez2 => ?_)
  have z2 : Rz μ μ3 := z1.tr ez2
  refine pk_bd (w_X8_isTooHeavy r4 r2 μ3) (fun r6 μ5 ez3 => ?_)
  have z3 : Rz μ μ5 := z2.tr ez3
  refine pk_ite (fun _ => ?_) (fun _ => ?_)
  · refine pk_bd (w_X8_pair r4 r2 μ5) (fun r9 μ8 ez4 => ?_)
    have z4 : Rz μ μ8 := z3.tr ez4
    refine pk_bw (w_X8_push r9 μ8) (fun μ10 ez5 => ?_)
    have z5 : Rz μ μ10 := z4.tr ez5
    exact pk_some z5
  · refine pk_bw (w_X10_breakOff (-5 : Int32) μ5) (fun μ12 ez6 => ?_)
    have z6 : Rz μ μ12 := z3.tr ez6
    exact pk_some z6
theorem w_X10_setBranch (a1 : Int32) (a2 : Int32) (μ : Mem) : pk (p_X10_setBranch a1 a2 μ) (fun q => Rz μ q) := by
  have z0 : Rz μ μ := Rz.rf
  rw [p_X10_setBranch_eq]
  refine pk_ite (fun _ => ?_) (fun _ => ?_)
  · exact pk_some z0
  · refine pk_gd (fun _ => ?_)
    refine pk_bvy (fun μ2 ez1 => ?_)
    have z1 : Rz μ μ2 := by rw [ez1]; exact z0.sF
    exact pk_some z1
theorem w_X10_openBranch (a1 : Int64) (a3 : Int32) (μ : Mem) : pk (p_X10_openBranch a1 a3 μ) (fun q => Rz μ q) := by
  have z0 : Rz μ μ := Rz.rf
  rw [p_X10_openBranch_eq]
  refine pk_ite (fun _ => ?_) (fun _ => ?_)
  · exact pk_some z0
  · refine pk_gd (fun _ => ?_)
    refine pk_bvy (fun μ2 ez1 => ?_)
    have z1 : Rz μ μ2 := by rw [ez1]; exact z0.sL
    refine pk_bvy (fun μ3 ez2 => ?_)
    have z2 : Rz μ μ3 := by rw [ez2]; exact z1.sF
    refine pk_bw (w_X10_setBranch (0 : Int32) (μ3.1 137 8) μ3) (fun μ4 ez3 => ?_)
    have z3 : Rz μ μ4 := z2.tr ez3
    refine pk_bw (w_X10_setBranch (1 : Int32) a3 μ4) (fun μ6 ez4 => ?_)
    have z4 : Rz μ μ6 := z3.tr ez4
    refine pk_bw (w_X10_setBranch (2 : Int32) (-1 : Int32) μ6) (fun μ8 ez5 => ?_)
    have z5 : Rz μ μ8 := z4.tr ez5
    exact pk_some z5
theorem w_X10_test (a1 : Int32) (μ : Mem) : pk (p_X10_test a1 μ) (fun q => Rz μ q) := by
  have z0 : Rz μ μ := Rz.rf
  rw [p_X10_test_eq]
  refine pk_bd (w_X8_popNum μ) (fun r2 μ1 ez1 => ?_)
  have z1 : Rz μ μ1 := z0.tr ez1
  refine pk_ite (fun _ => ?_) (fun _ => ?_)
  · refine pk_bd (w_X5_addBlock μ1) (fun r5 μ4 ez2 => ?_)
    have z2 : Rz μ μ4 := z1.tr ez2
    refine pk_bw (w_X10_openBranch r2 r5 μ4) (fun μ6 ez3 => ?_)
    have z3 : Rz μ μ6 := z2.tr ez3
    refine pk_bvy (fun μ8 ez4 => ?_)
    have z4 : Rz μ μ8 := by rw [ez4]; exact z3.sF
    refine pk_bvy (fun μ9 ez5 => ?_)
    have z5 : Rz μ μ9 := by rw [ez5]; exact z4.sF
    exact pk_some z5
  · refine pk_bw (w_X10_openBranch r2 (-1 : Int32) μ1) (fun μ10 ez6 => ?_)
    have z6 : Rz μ μ10 := z1.tr ez6
    refine pk_ite (fun _ => ?_) (fun _ => ?_)
    · refine pk_bvy (fun μ13 ez7 => ?_)
      have z7 : Rz μ μ13 := by rw [ez7]; exact z6.sF
      exact pk_some z7
    · refine pk_bvy (fun μ14 ez8 => ?_)
      have z8 : Rz μ μ14 := by rw [ez8]; exact z6.sF
      exact pk_some z8
theorem w_X10_branch (a1 : Int32) (μ : Mem) : pk (p_X10_branch a1 μ) (fun q => Rz μ q.2) := by
  have z0 : Rz μ μ := Rz.rf
  rw [p_X10_branch_eq]
  refine pk_ite (fun _ => ?_) (fun _ => ?_)
  · refine pk_gd (fun _ => ?_)
    exact pk_some z0
  · exact pk_some z0
theorem w_X10_closeBranch (μ : Mem) : pk (p_X10_closeBranch μ) (fun q => Rz μ q) := by
  have z0 : Rz μ μ := Rz.rf
  rw [p_X10_closeBranch_eq]
  refine pk_bvy (fun μ1 ez1 => ?_)
  have z1 : Rz μ μ1 := by rw [ez1]; exact z0.sF
  exact pk_some z1
theorem w_X10_lift (RE : Int64 → Int32 → Mem → Option (Int64 × Mem)) (hRE : ∀ (y0 : Int64) (y1 : Int32) (y2 : Mem), pk (RE y0 y1 y2) (fun q => Rz y2 q.2)) (a1 : Int64) (a3 : Int32) (μ : Mem) : pk (p_X10_lift RE a1 a3 μ) (fun q => Rz μ q.2) := by
  have z0 : Rz μ μ := Rz.rf
  rw [p_X10_lift_eq]
  refine pk_bd (w_X8_isPair a1 μ) (fun r2 μ1 ez1 => ?_)
  have z1 : Rz μ μ1 := z0.tr ez1
  refine pk_ite (fun _ => ?_) (fun _ => ?_)
  · exact pk_some z1
  · refine pk_ite (fun _ => ?_) (fun _ => ?_)
    · exact pk_some z1
    · refine pk_ite (fun _ => ?_) (fun _ => ?_)
      · refine pk_bd (w_X8_firstOf a1 μ1) (fun r7 μ6 ez2 => ?_)
        have z2 : Rz μ μ6 := z1.tr ez2
        refine pk_bd (hRE r7 (a3 + (1 : Int32)) μ6) (fun r9 μ8 ez3 => ?_)
        have z3 : Rz μ μ8 := z2.tr ez3
        refine pk_bd (w_X8_secondOf a1 μ8) (fun r11 μ10 ez4 => ?_)
        have z4 : Rz μ μ10 := z3.tr ez4
        refine pk_bd (hRE r11 (a3 + (1 : Int32)) μ10) (fun r13 μ12 ez5 => ?_)
        have z5 : Rz μ μ12 := z4.tr ez5
        refine pk_bd (w_X10_leave (10 : Int32) (0 : Int32) r9 r13 μ12) (fun r15 μ14 ez6 => ?_)
        have z6 : Rz μ μ14 := z5.tr ez6
        exact pk_some z6
      · exact pk_some z1
theorem wr_X10_lift : ∀ (n : Nat) (a1 : Int64) (a3 : Int32) (μ : Mem), pk (pr_X10_lift n a1 a3 μ) (fun q => Rz μ q.2) := by
  intro n
  induction n with
  | zero => intro a1 a3 μ r e; rw [pr_X10_lift_z] at e; cases e
  | succ n ih =>
    intro a1 a3 μ
    rw [pr_X10_lift_s]
    exact w_X10_lift _ ih a1 a3 μ
theorem w_X5_isBlock (a1 : Int32) (μ : Mem) : pk (p_X5_isBlock a1 μ) (fun q => Rz μ q.2) := by
  have z0 : Rz μ μ := Rz.rf
  rw [p_X5_isBlock_eq]
  refine pk_ite (fun _ => ?_) (fun _ => ?_)
  · exact pk_some z0
  · refine pk_ite (fun _ => ?_) (fun _ => ?_)
    · exact pk_some z0
    · exact pk_some z0
theorem w_X5_endBlock (a1 : Int32) (a2 : Int64) (μ : Mem) : pk (p_X5_endBlock a1 a2 μ) (fun q => Rz μ q) := by
  have z0 : Rz μ μ := Rz.rf
  rw [p_X5_endBlock_eq]
  refine pk_bd (w_X5_isBlock a1 μ) (fun r2 μ1 ez1 => ?_)
  have z1 : Rz μ μ1 := z0.tr ez1
  refine pk_ite (fun _ => ?_) (fun _ => ?_)
  · exact pk_some z1
  · refine pk_gd (fun _ => ?_)
    refine pk_bvy (fun μ4 ez2 => ?_)
    have z2 : Rz μ μ4 := by rw [ez2]; exact z1.sL
    exact pk_some z2
theorem w_X10_endThen (a1 : Int32) (μ : Mem) : pk (p_X10_endThen a1 μ) (fun q => Rz μ q) := by
  have z0 : Rz μ μ := Rz.rf
  rw [p_X10_endThen_eq]
  refine pk_bd (w_X10_branch (1 : Int32) μ) (fun r2 μ1 ez1 => ?_)
  have z1 : Rz μ μ1 := z0.tr ez1
  refine pk_ite (fun _ => ?_) (fun _ => ?_)
  · refine pk_bw (w_X10_closeBranch μ1) (fun μ15 ez2 => ?_)
    have z2 : Rz μ μ15 := z1.tr ez2
    refine pk_bvy (fun μ17 ez3 => ?_)
    have z3 : Rz μ μ17 := by rw [ez3]; exact z2.sF
    exact pk_some z3
  · refine pk_bd (w_X8_pop μ1) (fun r5 μ4 ez4 => ?_)
    have z4 : Rz μ μ4 := z1.tr ez4
    refine pk_bd (wr_X10_lift 50 r5 (0 : Int32) μ4) (fun r7 μ6 ez5 => ?_)
    have z5 : Rz μ μ6 := z4.tr ez5
    refine pk_bw (w_X5_endBlock (μ1.1 137 8) r7 μ6) (fun μ8 ez6 => ?_)
    have z6 : Rz μ μ8 := z5.tr ez6
    refine pk_bd (w_X5_addBlock μ8) (fun r11 μ10 ez7 => ?_)
    have z7 : Rz μ μ10 := z6.tr ez7
    refine pk_bvy (fun μ12 ez8 => ?_)
    have z8 : Rz μ μ12 := by rw [ez8]; exact z7.sF
    refine pk_bw (w_X10_setBranch (2 : Int32) (μ12.1 137 8) μ12) (fun μ13 ez9 => ?_)
    have z9 : Rz μ μ13 := z8.tr ez9
    exact pk_some z9
theorem w_X5_setCell (a1 : Int32) (a2 : Int32) (a3 : Int32) (μ : Mem) : pk (p_X5_setCell a1 a2 a3 μ) (fun q => Rz μ q) := by
  have z0 : Rz μ μ := Rz.rf
  rw [p_X5_setCell_eq]
  refine pk_ite (fun _ => ?_) (fun _ => ?_)
  · exact pk_some z0
  · refine pk_ite (fun _ => ?_) (fun _ => ?_)
    · exact pk_some z0
    · refine pk_ite (fun _ => ?_) (fun _ => ?_)
      · exact pk_some z0
      · refine pk_gd (fun _ => ?_)
        refine pk_bvy (fun μ4 ez1 => ?_)
        have z1 : Rz μ μ4 := by rw [ez1]; exact z0.sF
        exact pk_some z1
theorem w_X5_endOf (a1 : Int32) (μ : Mem) : pk (p_X5_endOf a1 μ) (fun q => Rz μ q.2) := by
  have z0 : Rz μ μ := Rz.rf
  rw [p_X5_endOf_eq]
  refine pk_bd (w_X5_isBlock a1 μ) (fun r2 μ1 ez1 => ?_)
  have z1 : Rz μ μ1 := z0.tr ez1
  refine pk_ite (fun _ => ?_) (fun _ => ?_)
  · exact pk_some z1
  · refine pk_gd (fun _ => ?_)
    exact pk_some z1
theorem w_X10_endElse (μ : Mem) : pk (p_X10_endElse μ) (fun q => Rz μ q) := by
  have z0 : Rz μ μ := Rz.rf
  rw [p_X10_endElse_eq]
  refine pk_bd (w_X10_branch (1 : Int32) μ) (fun r2 μ1 ez1 => ?_)
  have z1 : Rz μ μ1 := z0.tr ez1
  refine pk_bd (w_X10_branch (2 : Int32) μ1) (fun r4 μ3 ez2 => ?_)
  have z2 : Rz μ μ3 := z1.tr ez2
  refine pk_ite (fun _ => ?_) (fun _ => ?_)
  · refine pk_bw (w_X10_closeBranch μ3) (fun μ6 ez3 => ?_)
    have z3 : Rz μ μ6 := z2.tr ez3
    exact pk_some z3
  · refine pk_ite (fun _ => ?_) (fun _ => ?_)
    · refine pk_bd (w_X8_pop μ3) (fun r10 μ9 ez4 => ?_)
      have z4 : Rz μ μ9 := z2.tr ez4
      refine pk_bd (wr_X10_lift 50 r10 (0 : Int32) μ9) (fun r12 μ11 ez5 => ?_)
      have z5 : Rz μ μ11 := z4.tr ez5
      refine pk_bw (w_X5_endBlock (μ3.1 137 8) r12 μ11) (fun μ13 ez6 => ?_)
      have z6 : Rz μ μ13 := z5.tr ez6
      refine pk_bd (w_X10_branch (0 : Int32) μ13) (fun r16 μ15 ez7 => ?_)
      have z7 : Rz μ μ15 := z6.tr ez7
      refine pk_bvy (fun μ17 ez8 => ?_)
      have z8 : Rz μ μ17 := by rw [ez8]; exact z7.sF
      refine pk_gd (fun _ => ?_)
      refine pk_bd (w_X10_leave (6 : Int32) (0 : Int32) (μ17.2.1 139 ((μ17.1 137 12) - (1 : Int32)).toNatClampNeg) (0 : Int64) μ17) (fun r19 μ18 ez9 => ?_)
      have z9 : Rz μ μ18 := z8.tr ez9
      refine pk_bw (w_X10_closeBranch μ18) (fun μ20 ez10 => ?_)
      have z10 : Rz μ μ20 := z9.tr ez10
      refine pk_bvy (fun μ22 ez11 => ?_)
      have z11 : Rz μ μ22 := by rw [ez11]; exact z10.sF
      refine pk_ite (fun _ => ?_) (fun _ => ?_)
      · refine pk_bw (w_X5_setCell ((μ22.1 39 1) - (1 : Int32)) (3 : Int32) r2 μ22) (fun μ24 ez12 => ?_)
        have z12 : Rz μ μ24 := z11.tr ez12
        refine pk_bw (w_X5_setCell ((μ24.1 39 1) - (1 : Int32)) (4 : Int32) r4 μ24) (fun μ26 ez13 => ?_)
        have z13 : Rz μ μ26 := z12.tr ez13
        refine pk_bd (w_X5_endOf r2 μ26) (fun r29 μ28 ez14 => ?_)
        have z14 : Rz μ μ28 := z13.tr ez14
        refine pk_ite (fun _ => ?_) (fun _ => ?_)
        · refine pk_bw (w_X8_push r19 μ28) (fun μ31 ez15 => ?_)
          have z15 : Rz μ μ31 := z14.tr ez15
          exact pk_some z15
        · refine pk_bd (w_X5_endOf r4 μ28) (fun r34 μ33 ez16 => ?_)
          have z16 : Rz μ μ33 := z14.tr ez16
          refine pk_ite (fun _ => ?_) (fun _ => ?_)
          · refine pk_bw (w_X8_push r29 μ33) (fun μ38 ez17 => ?_)
            have z17 : Rz μ μ38 := z16.tr ez17
            exact pk_some z17
          · refine pk_bw (w_X8_push r19 μ33) (fun μ36 ez18 => ?_)
            have z18 : Rz μ μ36 := z16.tr ez18
            exact pk_some z18
      · exact pk_some z11
    · refine pk_bw (w_X10_closeBranch μ3) (fun μ40 ez19 => ?_)
      have z19 : Rz μ μ40 := z2.tr ez19
      exact pk_some z19
theorem w_X8_fromTop (a1 : Int32) (μ : Mem) : pk (p_X8_fromTop a1 μ) (fun q => Rz μ q.2) := by
  have z0 : Rz μ μ := Rz.rf
  rw [p_X8_fromTop_eq]
  refine pk_bvy (fun v1 _ => ?_)
  refine pk_ite (fun _ => ?_) (fun _ => ?_)
  · exact pk_some z0
  · refine pk_ite (fun _ => ?_) (fun _ => ?_)
    · exact pk_some z0
    · refine pk_gd (fun _ => ?_)
      exact pk_some z0
theorem w_X10_putAt (a1 : Int32) (μ : Mem) : pk (p_X10_putAt a1 μ) (fun q => Rz μ q) := by
  have z0 : Rz μ μ := Rz.rf
  rw [p_X10_putAt_eq]
  refine pk_bd (w_X8_popNum μ) (fun r2 μ1 ez1 => ?_)
  have z1 : Rz μ μ1 := z0.tr ez1
  refine pk_bd (w_X10_leave (8 : Int32) a1 r2 (0 : Int64) μ1) (fun r4 μ3 ez2 => ?_)
  have z2 : Rz μ μ3 := z1.tr ez2
  refine pk_ite (fun _ => ?_) (fun _ => ?_)
  · refine pk_bw (w_X8_push r4 μ3) (fun μ6 ez3 => ?_)
    have z3 : Rz μ μ6 := z2.tr ez3
    exact pk_some z3
  · refine pk_bw (w_X8_push (s_X0_stored a1 r2) μ3) (fun μ8 ez4 => ?_)
    have z4 : Rz μ μ8 := z2.tr ez4
    exact pk_some z4
theorem w_X8_drop (a1 : Int32) (μ : Mem) : pk (p_X8_drop a1 μ) (fun q => Rz μ q) := by
  have z0 : Rz μ μ := Rz.rf
  rw [p_X8_drop_eq]
  refine pk_bvy (fun μ1 ez1 => ?_)
  have z1 : Rz μ μ1 := by rw [ez1]; exact z0.sF
  exact pk_some z1
theorem w_X8_bindArguments_b4 : ∀ (n : Nat) (a2 : Int32) (μ : Mem), pk (p_X8_bindArguments_b4  n a2 μ) (fun q => Rz μ q) := by
  intro n
  induction n with
  | zero => intro a2 μ r e; rw [p_X8_bindArguments_b4_z] at e; cases e
  | succ n ih =>
    intro a2 μ
    have z0 : Rz μ μ := Rz.rf
    rw [p_X8_bindArguments_b4_s]
    refine pk_ite (fun _ => ?_) (fun _ => ?_)
    · exact pk_some z0
    · refine pk_bd (w_X8_pop μ) (fun r4 μ3 ez1 => ?_)
      have z1 : Rz μ μ3 := z0.tr ez1
      refine pk_bw (w_X8_setVar a2 r4 μ3) (fun μ5 ez2 => ?_)
      have z2 : Rz μ μ5 := z1.tr ez2
      refine pk_bvy (fun v7 _ => ?_)
      exact pk_mono (ih v7 μ5) (fun _ hq => z2.tr hq)
theorem w_X8_bindArguments (a1 : Int32) (μ : Mem) : pk (p_X8_bindArguments a1 μ) (fun q => Rz μ q) := by
  have z0 : Rz μ μ := Rz.rf
  rw [p_X8_bindArguments_eq]
  refine pk_bvy (fun v1 _ => ?_)
  exact pk_mono (w_X8_bindArguments_b4 FUEL v1 μ) (fun _ hq => z0.tr hq)
theorem w_X8_openFrame (a1 : Int32) (a2 : Int32) (μ : Mem) : pk (p_X8_openFrame a1 a2 μ) (fun q => Rz μ q) := by
  have z0 : Rz μ μ := Rz.rf
  rw [p_X8_openFrame_eq]
  refine pk_ite (fun _ => ?_) (fun _ => ?_)
  · refine pk_bvy (fun μ2 ez1 => ?_)
    have z1 : Rz μ μ2 := by rw [ez1]; exact z0.sF
    refine pk_gd (fun _ => ?_)
    refine pk_bvy (fun μ3 ez2 => ?_)
    have z2 : Rz μ μ3 := by rw [ez2]; exact z1.sF
    refine pk_bw (w_X8_bindArguments a1 μ3) (fun μ4 ez3 => ?_)
    have z3 : Rz μ μ4 := z2.tr ez3
    exact pk_some z3
  · exact pk_some z0
theorem w_X10_workCall (a1 : Int32) (a2 : Int32) (μ : Mem) : pk (p_X10_workCall a1 a2 μ) (fun q => Rz μ q.2) := by
  have z0 : Rz μ μ := Rz.rf
  rw [p_X10_workCall_eq]
  refine pk_bd (w_X3_startOf (sel 2 (μ.2.2 137 5)) a1 μ) (fun r2 μ1 ez1 => ?_)
  have z1 : Rz μ μ1 := z0.tr ez1
  refine pk_ite (fun _ => ?_) (fun _ => ?_)
  · refine pk_bw (w_X8_drop a2 μ1) (fun μ13 ez2 => ?_)
    have z2 : Rz μ μ13 := z1.tr ez2
    refine pk_bd (w_X10_leave (12 : Int32) (0 : Int32) (0 : Int64) (0 : Int64) μ13) (fun r16 μ15 ez3 => ?_)
    have z3 : Rz μ μ15 := z2.tr ez3
    refine pk_bw (w_X8_push r16 μ15) (fun μ17 ez4 => ?_)
    have z4 : Rz μ μ17 := z3.tr ez4
    exact pk_some z4
  · refine pk_ite (fun _ => ?_) (fun _ => ?_)
    · exact pk_some z1
    · refine pk_ite (fun _ => ?_) (fun _ => ?_)
      · refine pk_ite (fun _ => ?_) (fun _ => ?_)
        · refine pk_bvy (fun μ7 ez5 => ?_)
          have z5 : Rz μ μ7 := by rw [ez5]; exact z1.sF
          refine pk_bw (w_X8_openFrame a2 (μ7.1 137 9) μ7) (fun μ8 ez6 => ?_)
          have z6 : Rz μ μ8 := z5.tr ez6
          refine pk_bvy (fun μ10 ez7 => ?_)
          have z7 : Rz μ μ10 := by rw [ez7]; exact z6.sF
          exact pk_some z7
        · refine pk_bw (w_X10_breakOff (-3 : Int32) μ1) (fun μ11 ez8 => ?_)
          have z8 : Rz μ μ11 := z1.tr ez8
          exact pk_some z8
      · exact pk_some z1
theorem w_X8_flatten_b145 (K13 : Nat → Int32 → Int32 → Mem → Option Mem) (hK13 : ∀ (y0 : Nat) (y1 : Int32) (y2 : Int32) (y3 : Mem), pk (K13 y0 y1 y2 y3) (fun q => Rz y3 q)) (a3 : Nat) (a4 : Int32) (a5 : Int32) (μ : Mem) : pk (p_X8_flatten_b145 K13 a3 a4 a5 μ) (fun q => Rz μ q) := by
  have z0 : Rz μ μ := Rz.rf
  rw [p_X8_flatten_b145_eq]
  refine pk_bvy (fun v13 _ => ?_)
  exact pk_mono (hK13 a3 a4 v13 μ) (fun _ hq => z0.tr hq)
theorem w_X8_flatten_b140 (K13 : Nat → Int32 → Int32 → Mem → Option Mem) (hK13 : ∀ (y0 : Nat) (y1 : Int32) (y2 : Int32) (y3 : Mem), pk (K13 y0 y1 y2 y3) (fun q => Rz y3 q)) (a3 : Nat) (a4 : Int32) (a5 : Int32) (a6 : Int64) (k0 : Int64) (k1 : Nat) (μ : Mem) : pk (p_X8_flatten_b140 K13 a3 a4 a5 a6 k0 k1 μ) (fun q => Rz μ q) := by
  have z0 : Rz μ μ := Rz.rf
  rw [p_X8_flatten_b140_eq]
  refine pk_bw (w_X2_add k1 k0 a6 μ) (fun μ11 ez1 => ?_)
  have z1 : Rz μ μ11 := z0.tr ez1
  exact pk_mono (w_X8_flatten_b145 K13 hK13 a3 a4 a5 μ11) (fun _ hq => z1.tr hq)
theorem w_X8_flatten_b124 (K13 : Nat → Int32 → Int32 → Mem → Option Mem) (hK13 : ∀ (y0 : Nat) (y1 : Int32) (y2 : Int32) (y3 : Mem), pk (K13 y0 y1 y2 y3) (fun q => Rz y3 q)) (a3 : Nat) (a4 : Int32) (a5 : Int32) (a6 : Int64) (k0 : Int32) (μ : Mem) : pk (p_X8_flatten_b124 K13 a3 a4 a5 a6 k0 μ) (fun q => Rz μ q) := by
  have z0 : Rz μ μ := Rz.rf
  rw [p_X8_flatten_b124_eq]
  refine pk_ite (fun _ => ?_) (fun _ => ?_)
  · exact pk_mono (w_X8_flatten_b140 K13 hK13 a3 a4 a5 a6 a6 a3 μ) (fun _ hq => z0.tr hq)
  · exact pk_mono (w_X8_flatten_b140 K13 hK13 a3 a4 a5 a6 (17179869184 : Int64) a3 μ) (fun _ hq => z0.tr hq)
theorem w_X8_flatten_b110 (K13 : Nat → Int32 → Int32 → Mem → Option Mem) (hK13 : ∀ (y0 : Nat) (y1 : Int32) (y2 : Int32) (y3 : Mem), pk (K13 y0 y1 y2 y3) (fun q => Rz y3 q)) (a3 : Nat) (a4 : Int32) (a5 : Int32) (a6 : Int64) (μ : Mem) : pk (p_X8_flatten_b110 K13 a3 a4 a5 a6 μ) (fun q => Rz μ q) := by
  have z0 : Rz μ μ := Rz.rf
  rw [p_X8_flatten_b110_eq]
  refine pk_ite (fun _ => ?_) (fun _ => ?_)
  · exact pk_mono (w_X8_flatten_b124 K13 hK13 a3 a4 a5 a6 (1 : Int32) μ) (fun _ hq => z0.tr hq)
  · exact pk_mono (w_X8_flatten_b124 K13 hK13 a3 a4 a5 a6 (0 : Int32) μ) (fun _ hq => z0.tr hq)
theorem w_X8_flatten_b13 : ∀ (n : Nat) (a3 : Nat) (a4 : Int32) (a5 : Int32) (μ : Mem), pk (p_X8_flatten_b13  n a3 a4 a5 μ) (fun q => Rz μ q) := by
  intro n
  induction n with
  | zero => intro a3 a4 a5 μ r e; rw [p_X8_flatten_b13_z] at e; cases e
  | succ n ih =>
    intro a3 a4 a5 μ
    have z0 : Rz μ μ := Rz.rf
    rw [p_X8_flatten_b13_s]
    refine pk_ite (fun _ => ?_) (fun _ => ?_)
    · exact pk_some z0
    · refine pk_ite (fun _ => ?_) (fun _ => ?_)
      · exact pk_some z0
      · refine pk_bvy (fun v4 _ => ?_)
        refine pk_gd (fun _ => ?_)
        refine pk_bvy (fun v5 _ => ?_)
        refine pk_bd (w_X8_isPair v5 μ) (fun r7 μ6 ez1 => ?_)
        have z1 : Rz μ μ6 := z0.tr ez1
        refine pk_ite (fun _ => ?_) (fun _ => ?_)
        · exact pk_mono (w_X8_flatten_b110 (p_X8_flatten_b13  n) ih a3 v4 a5 v5 μ6) (fun _ hq => z1.tr hq)
        · refine pk_ite (fun _ => ?_) (fun _ => ?_)
          · exact pk_mono (w_X8_flatten_b110 (p_X8_flatten_b13  n) ih a3 v4 a5 v5 μ6) (fun _ hq => z1.tr hq)
          · refine pk_bw (w_X2_add a3 (8589934592 : Int64) v5 μ6) (fun μ15 ez2 => ?_)
            have z2 : Rz μ μ15 := z1.tr ez2
            refine pk_gd (fun _ => ?_)
            refine pk_gd (fun _ => ?_)
            refine pk_bvy (fun μ17 ez3 => ?_)
            have z3 : Rz μ μ17 := by rw [ez3]; exact z2.sL
            refine pk_gd (fun _ => ?_)
            refine pk_gd (fun _ => ?_)
            refine pk_bvy (fun μ18 ez4 => ?_)
            have z4 : Rz μ μ18 := by rw [ez4]; exact z3.sL
            refine pk_bvy (fun v19 _ => ?_)
            exact pk_mono (w_X8_flatten_b145 (p_X8_flatten_b13  n) ih a3 v19 a5 μ18) (fun _ hq => z4.tr hq)
theorem w_X8_flatten (a1 : Int64) (a3 : Nat) (μ : Mem) : pk (p_X8_flatten a1 a3 μ) (fun q => Rz μ q) := by
  have z0 : Rz μ μ := Rz.rf
  rw [p_X8_flatten_eq]
  refine pk_gd (fun _ => ?_)
  refine pk_bvy (fun μ1 ez1 => ?_)
  have z1 : Rz μ μ1 := by rw [ez1]; exact z0.sL
  exact pk_mono (w_X8_flatten_b13 FUEL a3 (1 : Int32) (0 : Int32) μ1) (fun _ hq => z1.tr hq)
theorem w_X2_behind_b39 (K8 : Nat → Int32 → Int32 → Mem → Option (Int32 × Mem)) (hK8 : ∀ (y0 : Nat) (y1 : Int32) (y2 : Int32) (y3 : Mem), pk (K8 y0 y1 y2 y3) (fun q => Rz y3 q.2)) (a0 : Nat) (a3 : Int32) (k0 : Int32) (k1 : Int32) (μ : Mem) : pk (p_X2_behind_b39 K8 a0 a3 k0 k1 μ) (fun q => Rz μ q.2) := by
  have z0 : Rz μ μ := Rz.rf
  rw [p_X2_behind_b39_eq]
  refine pk_bvy (fun v5 _ => ?_)
  refine pk_bvy (fun v6 _ => ?_)
  exact pk_mono (hK8 a0 v5 v6 μ) (fun _ hq => z0.tr hq)
theorem w_X2_behind_b8 : ∀ (n : Nat) (a0 : Nat) (a2 : Int32) (a3 : Int32) (μ : Mem), pk (p_X2_behind_b8  n a0 a2 a3 μ) (fun q => Rz μ q.2) := by
  intro n
  induction n with
  | zero => intro a0 a2 a3 μ r e; rw [p_X2_behind_b8_z] at e; cases e
  | succ n ih =>
    intro a0 a2 a3 μ
    have z0 : Rz μ μ := Rz.rf
    rw [p_X2_behind_b8_s]
    refine pk_ite (fun _ => ?_) (fun _ => ?_)
    · exact pk_some z0
    · refine pk_ite (fun _ => ?_) (fun _ => ?_)
      · exact pk_some z0
      · refine pk_gd (fun _ => ?_)
        refine pk_ite (fun _ => ?_) (fun _ => ?_)
        · exact pk_mono (w_X2_behind_b39 (p_X2_behind_b8  n) ih a0 a3 (1 : Int32) a2 μ) (fun _ hq => z0.tr hq)
        · exact pk_mono (w_X2_behind_b39 (p_X2_behind_b8  n) ih a0 a3 (-1 : Int32) a2 μ) (fun _ hq => z0.tr hq)
theorem w_X2_behind (a0 : Nat) (a1 : Int32) (μ : Mem) : pk (p_X2_behind a0 a1 μ) (fun q => Rz μ q.2) := by
  have z0 : Rz μ μ := Rz.rf
  rw [p_X2_behind_eq]
  refine pk_bvy (fun v1 _ => ?_)
  exact pk_mono (w_X2_behind_b8 FUEL a0 (1 : Int32) v1 μ) (fun _ hq => z0.tr hq)
theorem w_X2_growBeside_b171 (K19 : Nat → Nat → Nat → Int32 → Int32 → Int32 → Int32 → Mem → Option (Int32 × Mem)) (hK19 : ∀ (y0 : Nat) (y1 : Nat) (y2 : Nat) (y3 : Int32) (y4 : Int32) (y5 : Int32) (y6 : Int32) (y7 : Mem), pk (K19 y0 y1 y2 y3 y4 y5 y6 y7) (fun q => Rz y7 q.2)) (a0 : Nat) (a1 : Nat) (a2 : Nat) (a3 : Int32) (a4 : Int32) (a5 : Int32) (a6 : Int32) (μ : Mem) : pk (p_X2_growBeside_b171 K19 a0 a1 a2 a3 a4 a5 a6 μ) (fun q => Rz μ q.2) := by
  have z0 : Rz μ μ := Rz.rf
  rw [p_X2_growBeside_b171_eq]
  refine pk_bvy (fun v14 _ => ?_)
  exact pk_mono (hK19 a0 a1 a2 a3 a4 a5 v14 μ) (fun _ hq => z0.tr hq)
theorem w_X2_growBeside_b159 (K19 : Nat → Nat → Nat → Int32 → Int32 → Int32 → Int32 → Mem → Option (Int32 × Mem)) (hK19 : ∀ (y0 : Nat) (y1 : Nat) (y2 : Nat) (y3 : Int32) (y4 : Int32) (y5 : Int32) (y6 : Int32) (y7 : Mem), pk (K19 y0 y1 y2 y3 y4 y5 y6 y7) (fun q => Rz y7 q.2)) (a0 : Nat) (a1 : Nat) (a2 : Nat) (a3 : Int32) (a5 : Int32) (a6 : Int32) (a7 : Int32) (μ : Mem) : pk (p_X2_growBeside_b159 K19 a0 a1 a2 a3 a5 a6 a7 μ) (fun q => Rz μ q.2) := by
  have z0 : Rz μ μ := Rz.rf
  rw [p_X2_growBeside_b159_eq]
  refine pk_bd (w_X2_behind a1 a5 μ) (fun r13 μ12 ez1 => ?_)
  have z1 : Rz μ μ12 := z0.tr ez1
  exact pk_mono (w_X2_growBeside_b171 K19 hK19 a0 a1 a2 a3 a7 r13 a6 μ12) (fun _ hq => z1.tr hq)
theorem w_X2_growBeside_b110 (K19 : Nat → Nat → Nat → Int32 → Int32 → Int32 → Int32 → Mem → Option (Int32 × Mem)) (hK19 : ∀ (y0 : Nat) (y1 : Nat) (y2 : Nat) (y3 : Int32) (y4 : Int32) (y5 : Int32) (y6 : Int32) (y7 : Mem), pk (K19 y0 y1 y2 y3 y4 y5 y6 y7) (fun q => Rz y7 q.2)) (a0 : Nat) (a1 : Nat) (a2 : Nat) (a3 : Int32) (a4 : Int32) (a5 : Int32) (a6 : Int32) (a7 : Int32) (μ : Mem) : pk (p_X2_growBeside_b110 K19 a0 a1 a2 a3 a4 a5 a6 a7 μ) (fun q => Rz μ q.2) := by
  have z0 : Rz μ μ := Rz.rf
  rw [p_X2_growBeside_b110_eq]
  refine pk_gd (fun _ => ?_)
  refine pk_gd (fun _ => ?_)
  refine pk_ite (fun _ => ?_) (fun _ => ?_)
  · refine pk_bw (w_X2_addParts a2 a0 a4 a7 μ) (fun μ10 ez1 => ?_)
    have z1 : Rz μ μ10 := z0.tr ez1
    exact pk_mono (w_X2_growBeside_b159 K19 hK19 a0 a1 a2 a3 a5 a6 a7 μ10) (fun _ hq => z1.tr hq)
  · refine pk_gd (fun _ => ?_)
    refine pk_bw (w_X2_add a2 (17179869184 : Int64) (μ.2.1 (a0 + 2) a4.toNatClampNeg) μ) (fun μ15 ez2 => ?_)
    have z2 : Rz μ μ15 := z0.tr ez2
    refine pk_bvy (fun v17 _ => ?_)
    exact pk_mono (w_X2_growBeside_b159 K19 hK19 a0 a1 a2 v17 a5 a6 a7 μ15) (fun _ hq => z2.tr hq)
theorem w_X2_growBeside_b19 : ∀ (n : Nat) (a0 : Nat) (a1 : Nat) (a2 : Nat) (a3 : Int32) (a4 : Int32) (a5 : Int32) (a6 : Int32) (μ : Mem), pk (p_X2_growBeside_b19  n a0 a1 a2 a3 a4 a5 a6 μ) (fun q => Rz μ q.2) := by
  intro n
  induction n with
  | zero => intro a0 a1 a2 a3 a4 a5 a6 μ r e; rw [p_X2_growBeside_b19_z] at e; cases e
  | succ n ih =>
    intro a0 a1 a2 a3 a4 a5 a6 μ
    have z0 : Rz μ μ := Rz.rf
    rw [p_X2_growBeside_b19_s]
    refine pk_ite (fun _ => ?_) (fun _ => ?_)
    · exact pk_some z0
    · refine pk_ite (fun _ => ?_) (fun _ => ?_)
      · exact pk_some z0
      · refine pk_ite (fun _ => ?_) (fun _ => ?_)
        · exact pk_some z0
        · refine pk_bd (w_X2_behind a0 a4 μ) (fun r7 μ6 ez1 => ?_)
          have z1 : Rz μ μ6 := z0.tr ez1
          refine pk_gd (fun _ => ?_)
          refine pk_ite (fun _ => ?_) (fun _ => ?_)
          · refine pk_gd (fun _ => ?_)
            refine pk_ite (fun _ => ?_) (fun _ => ?_)
            · refine pk_gd (fun _ => ?_)
              refine pk_gd (fun _ => ?_)
              refine pk_bw (w_X2_add a2 (μ6.2.1 (a0 + 1) a4.toNatClampNeg) (μ6.2.1 (a0 + 2) a4.toNatClampNeg) μ6) (fun μ19 ez2 => ?_)
              have z2 : Rz μ μ19 := z1.tr ez2
              refine pk_bvy (fun v21 _ => ?_)
              refine pk_bvy (fun v22 _ => ?_)
              exact pk_mono (w_X2_growBeside_b171 (p_X2_growBeside_b19  n) ih a0 a1 a2 a3 v21 v22 a6 μ19) (fun _ hq => z2.tr hq)
            · exact pk_mono (w_X2_growBeside_b110 (p_X2_growBeside_b19  n) ih a0 a1 a2 a3 a4 a5 a6 r7 μ6) (fun _ hq => z1.tr hq)
          · exact pk_mono (w_X2_growBeside_b110 (p_X2_growBeside_b19  n) ih a0 a1 a2 a3 a4 a5 a6 r7 μ6) (fun _ hq => z1.tr hq)
theorem w_X2_growBeside (a0 : Nat) (a1 : Nat) (a2 : Nat) (μ : Mem) : pk (p_X2_growBeside a0 a1 a2 μ) (fun q => Rz μ q.2) := by
  have z0 : Rz μ μ := Rz.rf
  rw [p_X2_growBeside_eq]
  refine pk_bw (w_X2_begin a2 (μ.1 a0 3) μ) (fun μ1 ez1 => ?_)
  have z1 : Rz μ μ1 := z0.tr ez1
  exact pk_mono (w_X2_growBeside_b19 FUEL a0 a1 a2 (0 : Int32) (0 : Int32) (0 : Int32) (0 : Int32) μ1) (fun _ hq => z1.tr hq)
theorem w_X10_swapCalls (μ : Mem) : pk (p_X10_swapCalls μ) (fun q => Rz μ q) := by
  have z0 : Rz μ μ := Rz.rf
  rw [p_X10_swapCalls_eq]
  refine pk_bvy (fun μ1 ez1 => ?_)
  have z1 : Rz μ μ1 := by rw [ez1]; exact z0.sR (by decide)
  refine pk_bvy (fun μ2 ez2 => ?_)
  have z2 : Rz μ μ2 := by rw [ez2]; exact z1.sR (by decide)
  exact pk_some z2
theorem w_X5_ofVariant (a1 : Int32) (a2 : Int32) (μ : Mem) : pk (p_X5_ofVariant a1 a2 μ) (fun q => Rz μ q.2) := by
  have z0 : Rz μ μ := Rz.rf
  rw [p_X5_ofVariant_eq]
  refine pk_ite (fun _ => ?_) (fun _ => ?_)
  · exact pk_some z0
  · refine pk_ite (fun _ => ?_) (fun _ => ?_)
    · exact pk_some z0
    · refine pk_gd (fun _ => ?_)
      exact pk_some z0
theorem w_X10_shapeCall_b117 (K57 : Int32 → Int32 → Int32 → Mem → Option Mem) (hK57 : ∀ (y0 : Int32) (y1 : Int32) (y2 : Int32) (y3 : Mem), pk (K57 y0 y1 y2 y3) (fun q => Rz y3 q)) (a1 : Int32) (a3 : Int32) (a4 : Int32) (μ : Mem) : pk (p_X10_shapeCall_b117 K57 a1 a3 a4 μ) (fun q => Rz μ q) := by
  have z0 : Rz μ μ := Rz.rf
  rw [p_X10_shapeCall_b117_eq]
  refine pk_bd (w_X5_ofVariant a3 (0 : Int32) μ) (fun r14 μ13 ez1 => ?_)
  have z1 : Rz μ μ13 := z0.tr ez1
  refine pk_bvy (fun v15 _ => ?_)
  exact pk_mono (hK57 a1 r14 v15 μ13) (fun _ hq => z1.tr hq)
theorem w_X10_shapeCall_b57 : ∀ (n : Nat) (a1 : Int32) (a3 : Int32) (a4 : Int32) (μ : Mem), pk (p_X10_shapeCall_b57  n a1 a3 a4 μ) (fun q => Rz μ q) := by
  intro n
  induction n with
  | zero => intro a1 a3 a4 μ r e; rw [p_X10_shapeCall_b57_z] at e; cases e
  | succ n ih =>
    intro a1 a3 a4 μ
    have z0 : Rz μ μ := Rz.rf
    rw [p_X10_shapeCall_b57_s]
    refine pk_ite (fun _ => ?_) (fun _ => ?_)
    · exact pk_some z0
    · refine pk_ite (fun _ => ?_) (fun _ => ?_)
      · exact pk_some z0
      · refine pk_bd (w_X5_patternOf a3 μ) (fun r11 μ10 ez1 => ?_)
        have z1 : Rz μ μ10 := z0.tr ez1
        refine pk_ite (fun _ => ?_) (fun _ => ?_)
        · refine pk_bd (w_X2_growBeside (sel 1 (μ10.2.2 137 14)) r11 (sel 1 (μ10.2.2 137 15)) μ10) (fun r17 μ16 ez2 => ?_)
          have z2 : Rz μ μ16 := z1.tr ez2
          refine pk_bvy (fun μ18 ez3 => ?_)
          have z3 : Rz μ μ18 := by rw [ez3]; exact z2.sF
          refine pk_bw (w_X10_swapCalls μ18) (fun μ19 ez4 => ?_)
          have z4 : Rz μ μ19 := z3.tr ez4
          exact pk_mono (w_X10_shapeCall_b117 (p_X10_shapeCall_b57  n) ih a1 a3 a4 μ19) (fun _ hq => z4.tr hq)
        · exact pk_mono (w_X10_shapeCall_b117 (p_X10_shapeCall_b57  n) ih a1 a3 a4 μ10) (fun _ hq => z1.tr hq)
theorem w_X10_shapeCall_b12 : ∀ (n : Nat) (a1 : Int32) (a2 : Int32) (a3 : Int32) (μ : Mem), pk (p_X10_shapeCall_b12  n a1 a2 a3 μ) (fun q => Rz μ q) := by
  intro n
  induction n with
  | zero => intro a1 a2 a3 μ r e; rw [p_X10_shapeCall_b12_z] at e; cases e
  | succ n ih =>
    intro a1 a2 a3 μ
    have z0 : Rz μ μ := Rz.rf
    rw [p_X10_shapeCall_b12_s]
    refine pk_ite (fun _ => ?_) (fun _ => ?_)
    · refine pk_bw (w_X8_drop a2 μ) (fun μ5 ez1 => ?_)
      have z1 : Rz μ μ5 := z0.tr ez1
      refine pk_bvy (fun v7 _ => ?_)
      exact pk_mono (w_X10_shapeCall_b57 FUEL a1 v7 (0 : Int32) μ5) (fun _ hq => z1.tr hq)
    · refine pk_bd (w_X8_fromTop a3 μ) (fun r22 μ21 ez2 => ?_)
      have z2 : Rz μ μ21 := z0.tr ez2
      refine pk_bw (w_X8_flatten r22 (sel 1 (μ21.2.2 137 14)) μ21) (fun μ23 ez3 => ?_)
      have z3 : Rz μ μ23 := z2.tr ez3
      refine pk_bvy (fun v25 _ => ?_)
      exact pk_mono (ih a1 a2 v25 μ23) (fun _ hq => z3.tr hq)
theorem w_X10_shapeCall (a1 : Int32) (a2 : Int32) (μ : Mem) : pk (p_X10_shapeCall a1 a2 μ) (fun q => Rz μ q) := by
  have z0 : Rz μ μ := Rz.rf
  rw [p_X10_shapeCall_eq]
  refine pk_bw (w_X2_begin (sel 1 (μ.2.2 137 14)) a1 μ) (fun μ1 ez1 => ?_)
  have z1 : Rz μ μ1 := z0.tr ez1
  refine pk_bvy (fun v3 _ => ?_)
  exact pk_mono (w_X10_shapeCall_b12 FUEL a1 a2 v3 μ1) (fun _ hq => z1.tr hq)
theorem w_X2_isSame_b26 : ∀ (n : Nat) (a0 : Nat) (a1 : Nat) (a2 : Int32) (μ : Mem), pk (p_X2_isSame_b26  n a0 a1 a2 μ) (fun q => Rz μ q.2) := by
  intro n
  induction n with
  | zero => intro a0 a1 a2 μ r e; rw [p_X2_isSame_b26_z] at e; cases e
  | succ n ih =>
    intro a0 a1 a2 μ
    have z0 : Rz μ μ := Rz.rf
    rw [p_X2_isSame_b26_s]
    refine pk_ite (fun _ => ?_) (fun _ => ?_)
    · exact pk_some z0
    · refine pk_ite (fun _ => ?_) (fun _ => ?_)
      · exact pk_some z0
      · refine pk_gd (fun _ => ?_)
        refine pk_gd (fun _ => ?_)
        refine pk_ite (fun _ => ?_) (fun _ => ?_)
        · refine pk_bvy (fun v6 _ => ?_)
          exact pk_mono (ih a0 a1 v6 μ) (fun _ hq => z0.tr hq)
        · exact pk_some z0
theorem w_X2_isSame (a0 : Nat) (a1 : Nat) (μ : Mem) : pk (p_X2_isSame a0 a1 μ) (fun q => Rz μ q.2) := by
  have z0 : Rz μ μ := Rz.rf
  rw [p_X2_isSame_eq]
  refine pk_ite (fun _ => ?_) (fun _ => ?_)
  · refine pk_ite (fun _ => ?_) (fun _ => ?_)
    · exact pk_mono (w_X2_isSame_b26 FUEL a0 a1 (0 : Int32) μ) (fun _ hq => z0.tr hq)
    · exact pk_some z0
  · exact pk_some z0
theorem w_X5_find_b2 : ∀ (n : Nat) (a1 : Nat) (a2 : Int32) (μ : Mem), pk (p_X5_find_b2  n a1 a2 μ) (fun q => Rz μ q.2) := by
  intro n
  induction n with
  | zero => intro a1 a2 μ r e; rw [p_X5_find_b2_z] at e; cases e
  | succ n ih =>
    intro a1 a2 μ
    have z0 : Rz μ μ := Rz.rf
    rw [p_X5_find_b2_s]
    refine pk_ite (fun _ => ?_) (fun _ => ?_)
    · exact pk_some z0
    · refine pk_ite (fun _ => ?_) (fun _ => ?_)
      · exact pk_some z0
      · refine pk_gd (fun _ => ?_)
        refine pk_bd (w_X2_isSame (ptc a2.toNatClampNeg) a1 μ) (fun r4 μ3 ez1 => ?_)
        have z1 : Rz μ μ3 := z0.tr ez1
        refine pk_ite (fun _ => ?_) (fun _ => ?_)
        · refine pk_bvy (fun v6 _ => ?_)
          exact pk_mono (ih a1 v6 μ3) (fun _ hq => z1.tr hq)
        · exact pk_some z1
theorem w_X5_find (a1 : Nat) (μ : Mem) : pk (p_X5_find a1 μ) (fun q => Rz μ q.2) := by
  have z0 : Rz μ μ := Rz.rf
  rw [p_X5_find_eq]
  exact pk_mono (w_X5_find_b2 FUEL a1 (0 : Int32) μ) (fun _ hq => z0.tr hq)
theorem w_X5_variantsOf_b34 (K4 : Int32 → Int32 → Int32 → Mem → Option (Int32 × Mem)) (hK4 : ∀ (y0 : Int32) (y1 : Int32) (y2 : Int32) (y3 : Mem), pk (K4 y0 y1 y2 y3) (fun q => Rz y3 q.2)) (a1 : Int32) (a2 : Int32) (a3 : Int32) (μ : Mem) : pk (p_X5_variantsOf_b34 K4 a1 a2 a3 μ) (fun q => Rz μ q.2) := by
  have z0 : Rz μ μ := Rz.rf
  rw [p_X5_variantsOf_b34_eq]
  refine pk_bvy (fun v4 _ => ?_)
  exact pk_mono (hK4 a1 a2 v4 μ) (fun _ hq => z0.tr hq)
theorem w_X5_variantsOf_b4 : ∀ (n : Nat) (a1 : Int32) (a2 : Int32) (a3 : Int32) (μ : Mem), pk (p_X5_variantsOf_b4  n a1 a2 a3 μ) (fun q => Rz μ q.2) := by
  intro n
  induction n with
  | zero => intro a1 a2 a3 μ r e; rw [p_X5_variantsOf_b4_z] at e; cases e
  | succ n ih =>
    intro a1 a2 a3 μ
    have z0 : Rz μ μ := Rz.rf
    rw [p_X5_variantsOf_b4_s]
    refine pk_ite (fun _ => ?_) (fun _ => ?_)
    · exact pk_some z0
    · refine pk_ite (fun _ => ?_) (fun _ => ?_)
      · exact pk_some z0
      · refine pk_gd (fun _ => ?_)
        refine pk_ite (fun _ => ?_) (fun _ => ?_)
        · refine pk_bvy (fun v5 _ => ?_)
          exact pk_mono (w_X5_variantsOf_b34 (p_X5_variantsOf_b4  n) ih a1 v5 a3 μ) (fun _ hq => z0.tr hq)
        · exact pk_mono (w_X5_variantsOf_b34 (p_X5_variantsOf_b4  n) ih a1 a2 a3 μ) (fun _ hq => z0.tr hq)
theorem w_X5_variantsOf (a1 : Int32) (μ : Mem) : pk (p_X5_variantsOf a1 μ) (fun q => Rz μ q.2) := by
  have z0 : Rz μ μ := Rz.rf
  rw [p_X5_variantsOf_eq]
  exact pk_mono (w_X5_variantsOf_b4 FUEL a1 (0 : Int32) (0 : Int32) μ) (fun _ hq => z0.tr hq)
theorem w_X10_isTooMuch (a1 : Int32) (μ : Mem) : pk (p_X10_isTooMuch a1 μ) (fun q => Rz μ q.2) := by
  have z0 : Rz μ μ := Rz.rf
  rw [p_X10_isTooMuch_eq]
  refine pk_bd (w_X5_variantsOf a1 μ) (fun r2 μ1 ez1 => ?_)
  have z1 : Rz μ μ1 := z0.tr ez1
  refine pk_ite (fun _ => ?_) (fun _ => ?_)
  · exact pk_some z1
  · refine pk_ite (fun _ => ?_) (fun _ => ?_)
    · exact pk_some z1
    · refine pk_bd (w_X2_stars (sel 1 (μ1.2.2 137 14)) μ1) (fun r6 μ5 ez2 => ?_)
      have z2 : Rz μ μ5 := z1.tr ez2
      refine pk_ite (fun _ => ?_) (fun _ => ?_)
      · exact pk_some z2
      · exact pk_some z2
theorem w_X2_letAllGo_b10 : ∀ (n : Nat) (a0 : Nat) (a1 : Nat) (a2 : Int32) (μ : Mem), pk (p_X2_letAllGo_b10  n a0 a1 a2 μ) (fun q => Rz μ q) := by
  intro n
  induction n with
  | zero => intro a0 a1 a2 μ r e; rw [p_X2_letAllGo_b10_z] at e; cases e
  | succ n ih =>
    intro a0 a1 a2 μ
    have z0 : Rz μ μ := Rz.rf
    rw [p_X2_letAllGo_b10_s]
    refine pk_ite (fun _ => ?_) (fun _ => ?_)
    · exact pk_some z0
    · refine pk_gd (fun _ => ?_)
      refine pk_bw (w_X2_add a1 (17179869184 : Int64) (μ.2.1 (a0 + 2) a2.toNatClampNeg) μ) (fun μ4 ez1 => ?_)
      have z1 : Rz μ μ4 := z0.tr ez1
      refine pk_bd (w_X2_behind a0 a2 μ4) (fun r7 μ6 ez2 => ?_)
      have z2 : Rz μ μ6 := z1.tr ez2
      refine pk_bvy (fun v8 _ => ?_)
      exact pk_mono (ih a0 a1 v8 μ6) (fun _ hq => z2.tr hq)
theorem w_X2_letAllGo (a0 : Nat) (a1 : Nat) (μ : Mem) : pk (p_X2_letAllGo a0 a1 μ) (fun q => Rz μ q) := by
  have z0 : Rz μ μ := Rz.rf
  rw [p_X2_letAllGo_eq]
  refine pk_bw (w_X2_begin a1 (μ.1 a0 3) μ) (fun μ1 ez1 => ?_)
  have z1 : Rz μ μ1 := z0.tr ez1
  exact pk_mono (w_X2_letAllGo_b10 FUEL a0 a1 (0 : Int32) μ1) (fun _ hq => z1.tr hq)
theorem w_X10_leaveCallTo_b113 : ∀ (n : Nat) (a1 : Int32) (a2 : Int32) (a3 : Int64) (a5 : Int32) (a6 : Int32) (μ : Mem), pk (p_X10_leaveCallTo_b113  n a1 a2 a3 a5 a6 μ) (fun q => Rz μ q) := by
  intro n
  induction n with
  | zero => intro a1 a2 a3 a5 a6 μ r e; rw [p_X10_leaveCallTo_b113_z] at e; cases e
  | succ n ih =>
    intro a1 a2 a3 a5 a6 μ
    have z0 : Rz μ μ := Rz.rf
    rw [p_X10_leaveCallTo_b113_s]
    refine pk_ite (fun _ => ?_) (fun _ => ?_)
    · refine pk_bd (w_X5_ofVariant a1 (1 : Int32) μ) (fun r10 μ9 ez1 => ?_)
      have z1 : Rz μ μ9 := z0.tr ez1
      refine pk_bw (w_X5_setVariant a1 (1 : Int32) (r10 + (1 : Int32)) μ9) (fun μ11 ez2 => ?_)
      have z2 : Rz μ μ11 := z1.tr ez2
      refine pk_bw (w_X8_push a3 μ11) (fun μ13 ez3 => ?_)
      have z3 : Rz μ μ13 := z2.tr ez3
      exact pk_some z3
    · refine pk_gd (fun _ => ?_)
      refine pk_bw (w_X5_setOperand a5 ((2 : Int32) + a6) (μ.2.1 141 a6.toNatClampNeg) μ) (fun μ15 ez4 => ?_)
      have z4 : Rz μ μ15 := z0.tr ez4
      refine pk_bvy (fun v17 _ => ?_)
      exact pk_mono (ih a1 a2 a3 a5 v17 μ15) (fun _ hq => z4.tr hq)
theorem w_X10_leaveCallTo_b69 (a1 : Int32) (a2 : Int32) (μ : Mem) : pk (p_X10_leaveCallTo_b69 a1 a2 μ) (fun q => Rz μ q) := by
  have z0 : Rz μ μ := Rz.rf
  rw [p_X10_leaveCallTo_b69_eq]
  refine pk_bd (w_X10_leave (11 : Int32) a1 (0 : Int64) (0 : Int64) μ) (fun r3 μ2 ez1 => ?_)
  have z1 : Rz μ μ2 := z0.tr ez1
  refine pk_ite (fun _ => ?_) (fun _ => ?_)
  · refine pk_bvy (fun v5 _ => ?_)
    refine pk_bw (w_X5_setCell v5 (7 : Int32) a2 μ2) (fun μ6 ez2 => ?_)
    have z2 : Rz μ μ6 := z1.tr ez2
    exact pk_mono (w_X10_leaveCallTo_b113 FUEL a1 a2 r3 v5 (0 : Int32) μ6) (fun _ hq => z2.tr hq)
  · exact pk_some z1
theorem w_X10_leaveCallTo_b63 (K4 : Int32 → Int32 → Int32 → Mem → Option Mem) (hK4 : ∀ (y0 : Int32) (y1 : Int32) (y2 : Int32) (y3 : Mem), pk (K4 y0 y1 y2 y3) (fun q => Rz y3 q)) (a1 : Int32) (a2 : Int32) (a3 : Int32) (μ : Mem) : pk (p_X10_leaveCallTo_b63 K4 a1 a2 a3 μ) (fun q => Rz μ q) := by
  have z0 : Rz μ μ := Rz.rf
  rw [p_X10_leaveCallTo_b63_eq]
  refine pk_bvy (fun v20 _ => ?_)
  exact pk_mono (hK4 a1 a2 v20 μ) (fun _ hq => z0.tr hq)
theorem w_X10_leaveCallTo_b4 : ∀ (n : Nat) (a1 : Int32) (a2 : Int32) (a3 : Int32) (μ : Mem), pk (p_X10_leaveCallTo_b4  n a1 a2 a3 μ) (fun q => Rz μ q) := by
  intro n
  induction n with
  | zero => intro a1 a2 a3 μ r e; rw [p_X10_leaveCallTo_b4_z] at e; cases e
  | succ n ih =>
    intro a1 a2 a3 μ
    have z0 : Rz μ μ := Rz.rf
    rw [p_X10_leaveCallTo_b4_s]
    refine pk_ite (fun _ => ?_) (fun _ => ?_)
    · exact pk_mono (w_X10_leaveCallTo_b69 a1 a2 μ) (fun _ hq => z0.tr hq)
    · refine pk_ite (fun _ => ?_) (fun _ => ?_)
      · exact pk_mono (w_X10_leaveCallTo_b69 a1 a2 μ) (fun _ hq => z0.tr hq)
      · refine pk_gd (fun _ => ?_)
        refine pk_ite (fun _ => ?_) (fun _ => ?_)
        · refine pk_gd (fun _ => ?_)
          refine pk_bd (wr_X10_lift 50 (μ.2.1 ((sel 1 (μ.2.2 137 14)) + 2) a3.toNatClampNeg) (0 : Int32) μ) (fun r22 μ21 ez1 => ?_)
          have z1 : Rz μ μ21 := z0.tr ez1
          refine pk_gd (fun _ => ?_)
          refine pk_bvy (fun μ23 ez2 => ?_)
          have z2 : Rz μ μ23 := by rw [ez2]; exact z1.sL
          refine pk_bvy (fun v24 _ => ?_)
          exact pk_mono (w_X10_leaveCallTo_b63 (p_X10_leaveCallTo_b4  n) ih a1 v24 a3 μ23) (fun _ hq => z2.tr hq)
        · exact pk_mono (w_X10_leaveCallTo_b63 (p_X10_leaveCallTo_b4  n) ih a1 a2 a3 μ) (fun _ hq => z0.tr hq)
theorem w_X10_leaveCallTo (a1 : Int32) (μ : Mem) : pk (p_X10_leaveCallTo a1 μ) (fun q => Rz μ q) := by
  have z0 : Rz μ μ := Rz.rf
  rw [p_X10_leaveCallTo_eq]
  exact pk_mono (w_X10_leaveCallTo_b4 FUEL a1 (0 : Int32) (0 : Int32) μ) (fun _ hq => z0.tr hq)
theorem w_X10_leaveCall_b86 (a2 : Int32) (μ : Mem) : pk (p_X10_leaveCall_b86 a2 μ) (fun q => Rz μ q) := by
  have z0 : Rz μ μ := Rz.rf
  rw [p_X10_leaveCall_b86_eq]
  refine pk_ite (fun _ => ?_) (fun _ => ?_)
  · refine pk_bw (w_X10_breakOff (-4 : Int32) μ) (fun μ8 ez1 => ?_)
    have z1 : Rz μ μ8 := z0.tr ez1
    exact pk_some z1
  · refine pk_bw (w_X10_leaveCallTo a2 μ) (fun μ6 ez2 => ?_)
    have z2 : Rz μ μ6 := z0.tr ez2
    exact pk_some z2
theorem w_X10_leaveCall_b65 (a2 : Int32) (μ : Mem) : pk (p_X10_leaveCall_b65 a2 μ) (fun q => Rz μ q) := by
  have z0 : Rz μ μ := Rz.rf
  rw [p_X10_leaveCall_b65_eq]
  refine pk_ite (fun _ => ?_) (fun _ => ?_)
  · refine pk_bd (w_X5_addVariant (sel 1 (μ.2.2 137 14)) (μ.1 137 7) μ) (fun r11 μ10 ez1 => ?_)
    have z1 : Rz μ μ10 := z0.tr ez1
    exact pk_mono (w_X10_leaveCall_b86 r11 μ10) (fun _ hq => z1.tr hq)
  · exact pk_mono (w_X10_leaveCall_b86 a2 μ) (fun _ hq => z0.tr hq)
theorem w_X10_leaveCall (a1 : Int32) (μ : Mem) : pk (p_X10_leaveCall a1 μ) (fun q => Rz μ q) := by
  have z0 : Rz μ μ := Rz.rf
  rw [p_X10_leaveCall_eq]
  refine pk_bd (w_X5_find (sel 1 (μ.2.2 137 14)) μ) (fun r2 μ1 ez1 => ?_)
  have z1 : Rz μ μ1 := z0.tr ez1
  refine pk_ite (fun _ => ?_) (fun _ => ?_)
  · refine pk_bd (w_X10_isTooMuch a1 μ1) (fun r13 μ12 ez2 => ?_)
    have z2 : Rz μ μ12 := z1.tr ez2
    refine pk_ite (fun _ => ?_) (fun _ => ?_)
    · exact pk_mono (w_X10_leaveCall_b65 r2 μ12) (fun _ hq => z2.tr hq)
    · refine pk_bvy (fun μ15 ez3 => ?_)
      have z3 : Rz μ μ15 := by rw [ez3]; exact z2.sF
      refine pk_bw (w_X2_letAllGo (sel 1 (μ15.2.2 137 14)) (sel 1 (μ15.2.2 137 15)) μ15) (fun μ16 ez4 => ?_)
      have z4 : Rz μ μ16 := z3.tr ez4
      refine pk_bw (w_X10_swapCalls μ16) (fun μ18 ez5 => ?_)
      have z5 : Rz μ μ18 := z4.tr ez5
      refine pk_bd (w_X5_find (sel 1 (μ18.2.2 137 14)) μ18) (fun r21 μ20 ez6 => ?_)
      have z6 : Rz μ μ20 := z5.tr ez6
      exact pk_mono (w_X10_leaveCall_b65 r21 μ20) (fun _ hq => z6.tr hq)
  · exact pk_mono (w_X10_leaveCall_b65 r2 μ1) (fun _ hq => z1.tr hq)
theorem w_X8_closeFrame (μ : Mem) : pk (p_X8_closeFrame μ) (fun q => Rz μ q.2) := by
  have z0 : Rz μ μ := Rz.rf
  rw [p_X8_closeFrame_eq]
  refine pk_ite (fun _ => ?_) (fun _ => ?_)
  · refine pk_bvy (fun μ2 ez1 => ?_)
    have z1 : Rz μ μ2 := by rw [ez1]; exact z0.sF
    refine pk_gd (fun _ => ?_)
    exact pk_some z1
  · exact pk_some z0
theorem w_X10_goBack (μ : Mem) : pk (p_X10_goBack μ) (fun q => Rz μ q) := by
  have z0 : Rz μ μ := Rz.rf
  rw [p_X10_goBack_eq]
  refine pk_bd (w_X8_closeFrame μ) (fun r2 μ1 ez1 => ?_)
  have z1 : Rz μ μ1 := z0.tr ez1
  refine pk_bvy (fun μ3 ez2 => ?_)
  have z2 : Rz μ μ3 := by rw [ez2]; exact z1.sF
  refine pk_ite (fun _ => ?_) (fun _ => ?_)
  · refine pk_bd (w_X8_pop μ3) (fun r6 μ5 ez3 => ?_)
    have z3 : Rz μ μ5 := z2.tr ez3
    refine pk_bd (wr_X10_lift 50 r6 (0 : Int32) μ5) (fun r8 μ7 ez4 => ?_)
    have z4 : Rz μ μ7 := z3.tr ez4
    refine pk_bw (w_X5_endBlock (μ3.1 137 8) r8 μ7) (fun μ9 ez5 => ?_)
    have z5 : Rz μ μ9 := z4.tr ez5
    refine pk_bw (w_X10_beginVariant ((μ9.1 137 7) + (1 : Int32)) μ9) (fun μ11 ez6 => ?_)
    have z6 : Rz μ μ11 := z5.tr ez6
    exact pk_some z6
  · exact pk_some z2
theorem w_X10_step (μ : Mem) : pk (p_X10_step μ) (fun q => Rz μ q) := by
  have z0 : Rz μ μ := Rz.rf
  rw [p_X10_step_eq]
  refine pk_bd (w_X3_stepAt (sel 2 (μ.2.2 137 5)) (μ.1 137 9) μ) (fun r2 μ1 ez1 => ?_)
  have z1 : Rz μ μ1 := z0.tr ez1
  refine pk_bd (w_X3_markAt (sel 2 (μ1.2.2 137 5)) (μ1.1 137 9) μ1) (fun r4 μ3 ez2 => ?_)
  have z2 : Rz μ μ3 := z1.tr ez2
  refine pk_bd (w_X3_bitsAt (sel 2 (μ3.2.2 137 5)) (μ3.1 137 9) μ3) (fun r6 μ5 ez3 => ?_)
  have z3 : Rz μ μ5 := z2.tr ez3
  refine pk_bvy (fun μ7 ez4 => ?_)
  have z4 : Rz μ μ7 := by rw [ez4]; exact z3.sF
  refine pk_ite (fun _ => ?_) (fun _ => ?_)
  · refine pk_bw (w_X8_push (s_X0_make r4 r6) μ7) (fun μ10 ez5 => ?_)
    have z5 : Rz μ μ10 := z4.tr ez5
    exact pk_some z5
  · refine pk_ite (fun _ => ?_) (fun _ => ?_)
    · refine pk_bd (w_X8_varAt r4 μ7) (fun r14 μ13 ez6 => ?_)
      have z6 : Rz μ μ13 := z4.tr ez6
      refine pk_bw (w_X8_push r14 μ13) (fun μ15 ez7 => ?_)
      have z7 : Rz μ μ15 := z6.tr ez7
      exact pk_some z7
    · refine pk_ite (fun _ => ?_) (fun _ => ?_)
      · refine pk_bw (w_X10_reckon r4 μ7) (fun μ18 ez8 => ?_)
        have z8 : Rz μ μ18 := z4.tr ez8
        exact pk_some z8
      · refine pk_ite (fun _ => ?_) (fun _ => ?_)
        · refine pk_bw (w_X10_turn r4 μ7) (fun μ21 ez9 => ?_)
          have z9 : Rz μ μ21 := z4.tr ez9
          exact pk_some z9
        · refine pk_ite (fun _ => ?_) (fun _ => ?_)
          · refine pk_bw (w_X10_takePart r4 μ7) (fun μ24 ez10 => ?_)
            have z10 : Rz μ μ24 := z4.tr ez10
            exact pk_some z10
          · refine pk_ite (fun _ => ?_) (fun _ => ?_)
            · refine pk_bw (w_X10_makePair μ7) (fun μ27 ez11 => ?_)
              have z11 : Rz μ μ27 := z4.tr ez11
              exact pk_some z11
            · refine pk_ite (fun _ => ?_) (fun _ => ?_)
              · refine pk_bw (w_X10_test r4 μ7) (fun μ30 ez12 => ?_)
                have z12 : Rz μ μ30 := z4.tr ez12
                exact pk_some z12
              · refine pk_ite (fun _ => ?_) (fun _ => ?_)
                · refine pk_bw (w_X10_endThen r4 μ7) (fun μ33 ez13 => ?_)
                  have z13 : Rz μ μ33 := z4.tr ez13
                  exact pk_some z13
                · refine pk_ite (fun _ => ?_) (fun _ => ?_)
                  · refine pk_bw (w_X10_endElse μ7) (fun μ36 ez14 => ?_)
                    have z14 : Rz μ μ36 := z4.tr ez14
                    exact pk_some z14
                  · refine pk_ite (fun _ => ?_) (fun _ => ?_)
                    · refine pk_bd (w_X8_fromTop (0 : Int32) μ7) (fun r40 μ39 ez15 => ?_)
                      have z15 : Rz μ μ39 := z4.tr ez15
                      refine pk_bd (w_X8_num r40 μ39) (fun r42 μ41 ez16 => ?_)
                      have z16 : Rz μ μ41 := z15.tr ez16
                      refine pk_bd (w_X10_leave (7 : Int32) (0 : Int32) r42 (0 : Int64) μ41) (fun r44 μ43 ez17 => ?_)
                      have z17 : Rz μ μ43 := z16.tr ez17
                      exact pk_some z17
                    · refine pk_ite (fun _ => ?_) (fun _ => ?_)
                      · refine pk_bw (w_X10_putAt r4 μ7) (fun μ46 ez18 => ?_)
                        have z18 : Rz μ μ46 := z4.tr ez18
                        exact pk_some z18
                      · refine pk_ite (fun _ => ?_) (fun _ => ?_)
                        · refine pk_bd (w_X10_leave (9 : Int32) r4 (0 : Int64) (0 : Int64) μ7) (fun r50 μ49 ez19 => ?_)
                          have z19 : Rz μ μ49 := z4.tr ez19
                          refine pk_bw (w_X8_push r50 μ49) (fun μ51 ez20 => ?_)
                          have z20 : Rz μ μ51 := z19.tr ez20
                          exact pk_some z20
                        · refine pk_ite (fun _ => ?_) (fun _ => ?_)
                          · refine pk_bd (w_X8_pop μ7) (fun r55 μ54 ez21 => ?_)
                            have z21 : Rz μ μ54 := z4.tr ez21
                            refine pk_bw (w_X8_setVar r4 r55 μ54) (fun μ56 ez22 => ?_)
                            have z22 : Rz μ μ56 := z21.tr ez22
                            exact pk_some z22
                          · refine pk_ite (fun _ => ?_) (fun _ => ?_)
                            · refine pk_bd (w_X10_workCall r4 r6 μ7) (fun r60 μ59 ez23 => ?_)
                              have z23 : Rz μ μ59 := z4.tr ez23
                              refine pk_ite (fun _ => ?_) (fun _ => ?_)
                              · refine pk_bw (w_X10_shapeCall r4 r6 μ59) (fun μ62 ez24 => ?_)
                                have z24 : Rz μ μ62 := z23.tr ez24
                                refine pk_bw (w_X10_leaveCall r4 μ62) (fun μ64 ez25 => ?_)
                                have z25 : Rz μ μ64 := z24.tr ez25
                                exact pk_some z25
                              · exact pk_some z23
                            · refine pk_bw (w_X10_goBack μ7) (fun μ66 ez26 => ?_)
                              have z26 : Rz μ μ66 := z4.tr ez26
                              exact pk_some z26
theorem w_X10_answer (μ : Mem) : pk (p_X10_answer μ) (fun q => Rz μ q.2) := by
  have z0 : Rz μ μ := Rz.rf
  rw [p_X10_answer_eq]
  refine pk_ite (fun _ => ?_) (fun _ => ?_)
  · refine pk_bvy (fun μ2 ez1 => ?_)
    have z1 : Rz μ μ2 := by rw [ez1]; exact z0.sF
    exact pk_some z1
  · refine pk_bw (w_X5_clear μ) (fun μ3 ez2 => ?_)
    have z2 : Rz μ μ3 := z0.tr ez2
    exact pk_some z2
theorem w_X11_specialise_b17 : ∀ (n : Nat) (a1 : Int32) (μ : Mem), pk (p_X11_specialise_b17  n a1 μ) (fun q => Rz μ q.2) := by
  intro n
  induction n with
  | zero => intro a1 μ r e; rw [p_X11_specialise_b17_z] at e; cases e
  | succ n ih =>
    intro a1 μ
    have z0 : Rz μ μ := Rz.rf
    rw [p_X11_specialise_b17_s]
    refine pk_ite (fun _ => ?_) (fun _ => ?_)
    · refine pk_bd (w_X10_answer μ) (fun r5 μ4 ez1 => ?_)
      have z1 : Rz μ μ4 := z0.tr ez1
      exact pk_some z1
    · refine pk_bd (w_X10_isWorking μ) (fun r7 μ6 ez2 => ?_)
      have z2 : Rz μ μ6 := z0.tr ez2
      refine pk_ite (fun _ => ?_) (fun _ => ?_)
      · refine pk_bd (w_X10_answer μ6) (fun r10 μ9 ez3 => ?_)
        have z3 : Rz μ μ9 := z2.tr ez3
        exact pk_some z3
      · refine pk_bw (w_X10_step μ6) (fun μ11 ez4 => ?_)
        have z4 : Rz μ μ11 := z2.tr ez4
        refine pk_bvy (fun v13 _ => ?_)
        exact pk_mono (ih v13 μ11) (fun _ hq => z4.tr hq)
theorem w_X11_specialise (μ : Mem) : pk (p_X11_specialise μ) (fun q => Rz μ q.2) := by
  have z0 : Rz μ μ := Rz.rf
  rw [p_X11_specialise_eq]
  refine pk_bw (w_X10_begin (sel 2 (μ.2.2 0 4)) (sel 1 (μ.2.2 0 6)) μ) (fun μ1 ez1 => ?_)
  have z1 : Rz μ μ1 := z0.tr ez1
  exact pk_mono (w_X11_specialise_b17 FUEL (0 : Int32) μ1) (fun _ hq => z1.tr hq)
theorem w_X5_countOf_b62 (K5 : Int32 → Int32 → Int32 → Int32 → Mem → Option (Int32 × Mem)) (hK5 : ∀ (y0 : Int32) (y1 : Int32) (y2 : Int32) (y3 : Int32) (y4 : Mem), pk (K5 y0 y1 y2 y3 y4) (fun q => Rz y4 q.2)) (a1 : Int32) (a2 : Int32) (a3 : Int32) (a4 : Int32) (μ : Mem) : pk (p_X5_countOf_b62 K5 a1 a2 a3 a4 μ) (fun q => Rz μ q.2) := by
  have z0 : Rz μ μ := Rz.rf
  rw [p_X5_countOf_b62_eq]
  refine pk_bvy (fun v4 _ => ?_)
  exact pk_mono (hK5 a1 a2 a3 v4 μ) (fun _ hq => z0.tr hq)
theorem w_X5_countOf_b59 (K5 : Int32 → Int32 → Int32 → Int32 → Mem → Option (Int32 × Mem)) (hK5 : ∀ (y0 : Int32) (y1 : Int32) (y2 : Int32) (y3 : Int32) (y4 : Mem), pk (K5 y0 y1 y2 y3 y4) (fun q => Rz y4 q.2)) (a1 : Int32) (a2 : Int32) (a3 : Int32) (a4 : Int32) (μ : Mem) : pk (p_X5_countOf_b59 K5 a1 a2 a3 a4 μ) (fun q => Rz μ q.2) := by
  have z0 : Rz μ μ := Rz.rf
  rw [p_X5_countOf_b59_eq]
  refine pk_bvy (fun v6 _ => ?_)
  exact pk_mono (w_X5_countOf_b62 K5 hK5 a1 a2 v6 a4 μ) (fun _ hq => z0.tr hq)
theorem w_X5_countOf_b36 (K5 : Int32 → Int32 → Int32 → Int32 → Mem → Option (Int32 × Mem)) (hK5 : ∀ (y0 : Int32) (y1 : Int32) (y2 : Int32) (y3 : Int32) (y4 : Mem), pk (K5 y0 y1 y2 y3 y4) (fun q => Rz y4 q.2)) (a1 : Int32) (a2 : Int32) (a3 : Int32) (a4 : Int32) (k0 : Int32) (μ : Mem) : pk (p_X5_countOf_b36 K5 a1 a2 a3 a4 k0 μ) (fun q => Rz μ q.2) := by
  have z0 : Rz μ μ := Rz.rf
  rw [p_X5_countOf_b36_eq]
  refine pk_ite (fun _ => ?_) (fun _ => ?_)
  · exact pk_mono (w_X5_countOf_b62 K5 hK5 a1 a2 a3 a4 μ) (fun _ hq => z0.tr hq)
  · refine pk_ite (fun _ => ?_) (fun _ => ?_)
    · exact pk_mono (w_X5_countOf_b59 K5 hK5 a1 a2 a3 a4 μ) (fun _ hq => z0.tr hq)
    · refine pk_bd (w_X5_cell a4 (0 : Int32) μ) (fun r8 μ7 ez1 => ?_)
      have z1 : Rz μ μ7 := z0.tr ez1
      refine pk_ite (fun _ => ?_) (fun _ => ?_)
      · exact pk_mono (w_X5_countOf_b59 K5 hK5 a1 a2 a3 a4 μ7) (fun _ hq => z1.tr hq)
      · exact pk_mono (w_X5_countOf_b62 K5 hK5 a1 a2 a3 a4 μ7) (fun _ hq => z1.tr hq)
theorem w_X5_countOf_b31 (K5 : Int32 → Int32 → Int32 → Int32 → Mem → Option (Int32 × Mem)) (hK5 : ∀ (y0 : Int32) (y1 : Int32) (y2 : Int32) (y3 : Int32) (y4 : Mem), pk (K5 y0 y1 y2 y3 y4) (fun q => Rz y4 q.2)) (a1 : Int32) (a2 : Int32) (a3 : Int32) (a4 : Int32) (μ : Mem) : pk (p_X5_countOf_b31 K5 a1 a2 a3 a4 μ) (fun q => Rz μ q.2) := by
  have z0 : Rz μ μ := Rz.rf
  rw [p_X5_countOf_b31_eq]
  exact pk_mono (w_X5_countOf_b36 K5 hK5 a1 a2 a3 a4 (1 : Int32) μ) (fun _ hq => z0.tr hq)
theorem w_X5_countOf_b5 : ∀ (n : Nat) (a1 : Int32) (a2 : Int32) (a3 : Int32) (a4 : Int32) (μ : Mem), pk (p_X5_countOf_b5  n a1 a2 a3 a4 μ) (fun q => Rz μ q.2) := by
  intro n
  induction n with
  | zero => intro a1 a2 a3 a4 μ r e; rw [p_X5_countOf_b5_z] at e; cases e
  | succ n ih =>
    intro a1 a2 a3 a4 μ
    have z0 : Rz μ μ := Rz.rf
    rw [p_X5_countOf_b5_s]
    refine pk_ite (fun _ => ?_) (fun _ => ?_)
    · exact pk_some z0
    · refine pk_ite (fun _ => ?_) (fun _ => ?_)
      · exact pk_mono (w_X5_countOf_b31 (p_X5_countOf_b5  n) ih a1 a2 a3 a4 μ) (fun _ hq => z0.tr hq)
      · refine pk_bd (w_X5_cell a4 (6 : Int32) μ) (fun r11 μ10 ez1 => ?_)
        have z1 : Rz μ μ10 := z0.tr ez1
        refine pk_ite (fun _ => ?_) (fun _ => ?_)
        · exact pk_mono (w_X5_countOf_b31 (p_X5_countOf_b5  n) ih a1 a2 a3 a4 μ10) (fun _ hq => z1.tr hq)
        · exact pk_mono (w_X5_countOf_b36 (p_X5_countOf_b5  n) ih a1 a2 a3 a4 (0 : Int32) μ10) (fun _ hq => z1.tr hq)
theorem w_X5_countOf (a1 : Int32) (a2 : Int32) (μ : Mem) : pk (p_X5_countOf a1 a2 μ) (fun q => Rz μ q.2) := by
  have z0 : Rz μ μ := Rz.rf
  rw [p_X5_countOf_eq]
  exact pk_mono (w_X5_countOf_b5 FUEL a1 a2 (0 : Int32) (0 : Int32) μ) (fun _ hq => z0.tr hq)
theorem w_X5_about (a1 : Int32) (μ : Mem) : pk (p_X5_about a1 μ) (fun q => Rz μ q.2) := by
  have z0 : Rz μ μ := Rz.rf
  rw [p_X5_about_eq]
  refine pk_ite (fun _ => ?_) (fun _ => ?_)
  · exact pk_some z0
  · refine pk_ite (fun _ => ?_) (fun _ => ?_)
    · exact pk_some z0
    · refine pk_ite (fun _ => ?_) (fun _ => ?_)
      · exact pk_some z0
      · refine pk_ite (fun _ => ?_) (fun _ => ?_)
        · exact pk_some z0
        · refine pk_ite (fun _ => ?_) (fun _ => ?_)
          · refine pk_bd (w_X5_countOf (-1 : Int32) (11 : Int32) μ) (fun r8 μ7 ez1 => ?_)
            have z1 : Rz μ μ7 := z0.tr ez1
            exact pk_some z1
          · refine pk_ite (fun _ => ?_) (fun _ => ?_)
            · refine pk_bd (w_X5_countOf (-1 : Int32) (7 : Int32) μ) (fun r11 μ10 ez2 => ?_)
              have z2 : Rz μ μ10 := z0.tr ez2
              exact pk_some z2
            · refine pk_ite (fun _ => ?_) (fun _ => ?_)
              · refine pk_bd (w_X5_countOf (-1 : Int32) (8 : Int32) μ) (fun r14 μ13 ez3 => ?_)
                have z3 : Rz μ μ13 := z0.tr ez3
                refine pk_bd (w_X5_countOf (-1 : Int32) (9 : Int32) μ13) (fun r16 μ15 ez4 => ?_)
                have z4 : Rz μ μ15 := z3.tr ez4
                exact pk_some z4
              · refine pk_ite (fun _ => ?_) (fun _ => ?_)
                · refine pk_bd (w_X5_countOf (-1 : Int32) (10 : Int32) μ) (fun r19 μ18 ez5 => ?_)
                  have z5 : Rz μ μ18 := z0.tr ez5
                  exact pk_some z5
                · refine pk_ite (fun _ => ?_) (fun _ => ?_)
                  · refine pk_bd (w_X5_countOf (-1 : Int32) (6 : Int32) μ) (fun r22 μ21 ez6 => ?_)
                    have z6 : Rz μ μ21 := z0.tr ez6
                    exact pk_some z6
                  · refine pk_ite (fun _ => ?_) (fun _ => ?_)
                    · exact pk_some z0
                    · refine pk_ite (fun _ => ?_) (fun _ => ?_)
                      · exact pk_some z0
                      · exact pk_some z0
theorem w_X11_residue (a1 : Int32) (μ : Mem) : pk (p_X11_residue a1 μ) (fun q => Rz μ q.2) := by
  have z0 : Rz μ μ := Rz.rf
  rw [p_X11_residue_eq]
  refine pk_bd (w_X5_about a1 μ) (fun r2 μ1 ez1 => ?_)
  have z1 : Rz μ μ1 := z0.tr ez1
  exact pk_some z1
theorem w_X5_hasVariant (a1 : Int32) (μ : Mem) : pk (p_X5_hasVariant a1 μ) (fun q => Rz μ q.2) := by
  have z0 : Rz μ μ := Rz.rf
  rw [p_X5_hasVariant_eq]
  refine pk_ite (fun _ => ?_) (fun _ => ?_)
  · exact pk_some z0
  · refine pk_ite (fun _ => ?_) (fun _ => ?_)
    · exact pk_some z0
    · refine pk_ite (fun _ => ?_) (fun _ => ?_)
      · exact pk_some z0
      · exact pk_some z0
theorem w_X2_numbers_b27 (K4 : Nat → Int32 → Int32 → Mem → Option (Int32 × Mem)) (hK4 : ∀ (y0 : Nat) (y1 : Int32) (y2 : Int32) (y3 : Mem), pk (K4 y0 y1 y2 y3) (fun q => Rz y3 q.2)) (a0 : Nat) (a1 : Int32) (a2 : Int32) (μ : Mem) : pk (p_X2_numbers_b27 K4 a0 a1 a2 μ) (fun q => Rz μ q.2) := by
  have z0 : Rz μ μ := Rz.rf
  rw [p_X2_numbers_b27_eq]
  refine pk_bvy (fun v3 _ => ?_)
  exact pk_mono (hK4 a0 a1 v3 μ) (fun _ hq => z0.tr hq)
theorem w_X2_numbers_b4 : ∀ (n : Nat) (a0 : Nat) (a1 : Int32) (a2 : Int32) (μ : Mem), pk (p_X2_numbers_b4  n a0 a1 a2 μ) (fun q => Rz μ q.2) := by
  intro n
  induction n with
  | zero => intro a0 a1 a2 μ r e; rw [p_X2_numbers_b4_z] at e; cases e
  | succ n ih =>
    intro a0 a1 a2 μ
    have z0 : Rz μ μ := Rz.rf
    rw [p_X2_numbers_b4_s]
    refine pk_ite (fun _ => ?_) (fun _ => ?_)
    · exact pk_some z0
    · refine pk_gd (fun _ => ?_)
      refine pk_ite (fun _ => ?_) (fun _ => ?_)
      · exact pk_mono (w_X2_numbers_b27 (p_X2_numbers_b4  n) ih a0 a1 a2 μ) (fun _ hq => z0.tr hq)
      · refine pk_bvy (fun v4 _ => ?_)
        exact pk_mono (w_X2_numbers_b27 (p_X2_numbers_b4  n) ih a0 v4 a2 μ) (fun _ hq => z0.tr hq)
theorem w_X2_numbers (a0 : Nat) (μ : Mem) : pk (p_X2_numbers a0 μ) (fun q => Rz μ q.2) := by
  have z0 : Rz μ μ := Rz.rf
  rw [p_X2_numbers_eq]
  exact pk_mono (w_X2_numbers_b4 FUEL a0 (0 : Int32) (0 : Int32) μ) (fun _ hq => z0.tr hq)
theorem w_X5_aboutVariant (a1 : Int32) (a2 : Int32) (μ : Mem) : pk (p_X5_aboutVariant a1 a2 μ) (fun q => Rz μ q.2) := by
  have z0 : Rz μ μ := Rz.rf
  rw [p_X5_aboutVariant_eq]
  refine pk_bd (w_X5_hasVariant a1 μ) (fun r2 μ1 ez1 => ?_)
  have z1 : Rz μ μ1 := z0.tr ez1
  refine pk_ite (fun _ => ?_) (fun _ => ?_)
  · exact pk_some z1
  · refine pk_ite (fun _ => ?_) (fun _ => ?_)
    · refine pk_bd (w_X5_patternOf a1 μ1) (fun r7 μ6 ez2 => ?_)
      have z2 : Rz μ μ6 := z1.tr ez2
      exact pk_some z2
    · refine pk_ite (fun _ => ?_) (fun _ => ?_)
      · refine pk_bd (w_X5_ofVariant a1 (2 : Int32) μ1) (fun r10 μ9 ez3 => ?_)
        have z3 : Rz μ μ9 := z1.tr ez3
        exact pk_some z3
      · refine pk_ite (fun _ => ?_) (fun _ => ?_)
        · refine pk_bd (w_X5_patternOf a1 μ1) (fun r13 μ12 ez4 => ?_)
          have z4 : Rz μ μ12 := z1.tr ez4
          refine pk_bd (w_X2_stars r13 μ12) (fun r15 μ14 ez5 => ?_)
          have z5 : Rz μ μ14 := z4.tr ez5
          exact pk_some z5
        · refine pk_ite (fun _ => ?_) (fun _ => ?_)
          · refine pk_bd (w_X5_countOf a1 (-1 : Int32) μ1) (fun r18 μ17 ez6 => ?_)
            have z6 : Rz μ μ17 := z1.tr ez6
            exact pk_some z6
          · refine pk_ite (fun _ => ?_) (fun _ => ?_)
            · refine pk_bd (w_X5_ofVariant a1 (0 : Int32) μ1) (fun r21 μ20 ez7 => ?_)
              have z7 : Rz μ μ20 := z1.tr ez7
              exact pk_some z7
            · refine pk_ite (fun _ => ?_) (fun _ => ?_)
              · refine pk_bd (w_X5_ofVariant a1 (1 : Int32) μ1) (fun r24 μ23 ez8 => ?_)
                have z8 : Rz μ μ23 := z1.tr ez8
                exact pk_some z8
              · refine pk_ite (fun _ => ?_) (fun _ => ?_)
                · refine pk_bd (w_X5_patternOf a1 μ1) (fun r27 μ26 ez9 => ?_)
                  have z9 : Rz μ μ26 := z1.tr ez9
                  refine pk_bd (w_X2_numbers r27 μ26) (fun r29 μ28 ez10 => ?_)
                  have z10 : Rz μ μ28 := z9.tr ez10
                  exact pk_some z10
                · exact pk_some z1
theorem w_X11_variant (a1 : Int32) (a2 : Int32) (μ : Mem) : pk (p_X11_variant a1 a2 μ) (fun q => Rz μ q.2) := by
  have z0 : Rz μ μ := Rz.rf
  rw [p_X11_variant_eq]
  refine pk_bd (w_X5_aboutVariant a1 a2 μ) (fun r2 μ1 ez1 => ?_)
  have z1 : Rz μ μ1 := z0.tr ez1
  exact pk_some z1
theorem w_X11_kinds (a1 : Int32) (a2 : Int32) (μ : Mem) : pk (p_X11_kinds a1 a2 μ) (fun q => Rz μ q.2) := by
  have z0 : Rz μ μ := Rz.rf
  rw [p_X11_kinds_eq]
  refine pk_bd (w_X5_hasVariant a1 μ) (fun r2 μ1 ez1 => ?_)
  have z1 : Rz μ μ1 := z0.tr ez1
  refine pk_ite (fun _ => ?_) (fun _ => ?_)
  · exact pk_some z1
  · refine pk_ite (fun _ => ?_) (fun _ => ?_)
    · exact pk_some z1
    · refine pk_ite (fun _ => ?_) (fun _ => ?_)
      · refine pk_bd (w_X5_countOf a1 a2 μ1) (fun r7 μ6 ez2 => ?_)
        have z2 : Rz μ μ6 := z1.tr ez2
        exact pk_some z2
      · exact pk_some z1
theorem w_X11_canRun_b25 (μ : Mem) : pk (p_X11_canRun_b25 μ) (fun q => Rz μ q.2) := by
  have z0 : Rz μ μ := Rz.rf
  rw [p_X11_canRun_b25_eq]
  refine pk_ite (fun _ => ?_) (fun _ => ?_)
  · refine pk_bd (w_X2_stars (sel 1 (μ.2.2 0 6)) μ) (fun r5 μ4 ez1 => ?_)
    have z1 : Rz μ μ4 := z0.tr ez1
    refine pk_ite (fun _ => ?_) (fun _ => ?_)
    · exact pk_some z1
    · exact pk_some z1
  · exact pk_some z0
theorem w_X11_canRun_b11 (a1 : Int32) (μ : Mem) : pk (p_X11_canRun_b11 a1 μ) (fun q => Rz μ q.2) := by
  have z0 : Rz μ μ := Rz.rf
  rw [p_X11_canRun_b11_eq]
  refine pk_ite (fun _ => ?_) (fun _ => ?_)
  · exact pk_mono (w_X11_canRun_b25 μ) (fun _ hq => z0.tr hq)
  · refine pk_ite (fun _ => ?_) (fun _ => ?_)
    · exact pk_some z0
    · exact pk_mono (w_X11_canRun_b25 μ) (fun _ hq => z0.tr hq)
theorem w_X11_canRun (a1 : Int32) (μ : Mem) : pk (p_X11_canRun a1 μ) (fun q => Rz μ q.2) := by
  have z0 : Rz μ μ := Rz.rf
  rw [p_X11_canRun_eq]
  refine pk_ite (fun _ => ?_) (fun _ => ?_)
  · exact pk_mono (w_X11_canRun_b11 a1 μ) (fun _ hq => z0.tr hq)
  · refine pk_ite (fun _ => ?_) (fun _ => ?_)
    · exact pk_mono (w_X11_canRun_b11 a1 μ) (fun _ hq => z0.tr hq)
    · exact pk_some z0
theorem w_X1_begin_b45 : ∀ (n : Nat) (a0 : Nat) (a1 : Int32) (μ : Mem), pk (p_X1_begin_b45  n a0 a1 μ) (fun q => Rz μ q) := by
  intro n
  induction n with
  | zero => intro a0 a1 μ r e; rw [p_X1_begin_b45_z] at e; cases e
  | succ n ih =>
    intro a0 a1 μ
    have z0 : Rz μ μ := Rz.rf
    rw [p_X1_begin_b45_s]
    refine pk_ite (fun _ => ?_) (fun _ => ?_)
    · exact pk_some z0
    · refine pk_gd (fun _ => ?_)
      refine pk_bvy (fun μ11 ez1 => ?_)
      have z1 : Rz μ μ11 := by rw [ez1]; exact z0.sF
      refine pk_bvy (fun v12 _ => ?_)
      exact pk_mono (ih a0 v12 μ11) (fun _ hq => z1.tr hq)
theorem w_X1_begin (a0 : Nat) (μ : Mem) : pk (p_X1_begin a0 μ) (fun q => Rz μ q) := by
  have z0 : Rz μ μ := Rz.rf
  rw [p_X1_begin_eq]
  refine pk_bvy (fun μ1 ez1 => ?_)
  have z1 : Rz μ μ1 := by rw [ez1]; exact z0.sF
  refine pk_bvy (fun μ2 ez2 => ?_)
  have z2 : Rz μ μ2 := by rw [ez2]; exact z1.sF
  refine pk_bvy (fun μ3 ez3 => ?_)
  have z3 : Rz μ μ3 := by rw [ez3]; exact z2.sF
  refine pk_bvy (fun μ4 ez4 => ?_)
  have z4 : Rz μ μ4 := by rw [ez4]; exact z3.sF
  refine pk_bvy (fun μ5 ez5 => ?_)
  have z5 : Rz μ μ5 := by rw [ez5]; exact z4.sF
  refine pk_bvy (fun μ6 ez6 => ?_)
  have z6 : Rz μ μ6 := by rw [ez6]; exact z5.sF
  refine pk_bvy (fun μ7 ez7 => ?_)
  have z7 : Rz μ μ7 := by rw [ez7]; exact z6.sF
  refine pk_bw (w_X2_begin (a0 + 3) (0 : Int32) μ7) (fun μ8 ez8 => ?_)
  have z8 : Rz μ μ8 := z7.tr ez8
  exact pk_mono (w_X1_begin_b45 FUEL a0 (0 : Int32) μ8) (fun _ hq => z8.tr hq)
theorem w_X1_clear (a0 : Nat) (μ : Mem) : pk (p_X1_clear a0 μ) (fun q => Rz μ q) := by
  have z0 : Rz μ μ := Rz.rf
  rw [p_X1_clear_eq]
  refine pk_bw (w_X1_begin a0 μ) (fun μ1 ez1 => ?_)
  have z1 : Rz μ μ1 := z0.tr ez1
  exact pk_some z1
theorem w_X1_isRunning (a0 : Nat) (μ : Mem) : pk (p_X1_isRunning a0 μ) (fun q => Rz μ q.2) := by
  have z0 : Rz μ μ := Rz.rf
  rw [p_X1_isRunning_eq]
  refine pk_ite (fun _ => ?_) (fun _ => ?_)
  · exact pk_some z0
  · exact pk_some z0
theorem w_X1_beginCall (a0 : Nat) (μ : Mem) : pk (p_X1_beginCall a0 μ) (fun q => Rz μ q.2) := by
  have z0 : Rz μ μ := Rz.rf
  rw [p_X1_beginCall_eq]
  refine pk_ite (fun _ => ?_) (fun _ => ?_)
  · refine pk_ite (fun _ => ?_) (fun _ => ?_)
    · refine pk_bvy (fun μ3 ez1 => ?_)
      have z1 : Rz μ μ3 := by rw [ez1]; exact z0.sF
      refine pk_bvy (fun μ4 ez2 => ?_)
      have z2 : Rz μ μ4 := by rw [ez2]; exact z1.sF
      refine pk_bvy (fun μ5 ez3 => ?_)
      have z3 : Rz μ μ5 := by rw [ez3]; exact z2.sF
      refine pk_bd (w_X1_isRunning a0 μ5) (fun r7 μ6 ez4 => ?_)
      have z4 : Rz μ μ6 := z3.tr ez4
      refine pk_gd (fun _ => ?_)
      exact pk_some z4
    · refine pk_bvy (fun μ9 ez5 => ?_)
      have z5 : Rz μ μ9 := by rw [ez5]; exact z0.sF
      refine pk_bd (w_X1_isRunning a0 μ9) (fun r11 μ10 ez6 => ?_)
      have z6 : Rz μ μ10 := z5.tr ez6
      refine pk_gd (fun _ => ?_)
      exact pk_some z6
  · refine pk_bvy (fun μ13 ez7 => ?_)
    have z7 : Rz μ μ13 := by rw [ez7]; exact z0.sF
    refine pk_bd (w_X1_isRunning a0 μ13) (fun r15 μ14 ez8 => ?_)
    have z8 : Rz μ μ14 := z7.tr ez8
    refine pk_gd (fun _ => ?_)
    exact pk_some z8
theorem w_X7_call (a1 : Int32) (a2 : Int32) (μ : Mem) : pk (p_X7_call a1 a2 μ) (fun q => Rz μ q) := by
  have z0 : Rz μ μ := Rz.rf
  rw [p_X7_call_eq]
  refine pk_bd (w_X3_startOf (sel 2 (μ.2.2 148 3)) a1 μ) (fun r2 μ1 ez1 => ?_)
  have z1 : Rz μ μ1 := z0.tr ez1
  refine pk_ite (fun _ => ?_) (fun _ => ?_)
  · refine pk_bvy (fun μ10 ez2 => ?_)
    have z2 : Rz μ μ10 := by rw [ez2]; exact z1.sF
    exact pk_some z2
  · refine pk_bd (w_X1_beginCall (sel 0 (μ1.2.2 148 4)) μ1) (fun r5 μ4 ez3 => ?_)
    have z3 : Rz μ μ4 := z1.tr ez3
    refine pk_ite (fun _ => ?_) (fun _ => ?_)
    · exact pk_some z3
    · refine pk_bw (w_X8_openFrame a2 (μ4.1 148 5) μ4) (fun μ7 ez4 => ?_)
      have z4 : Rz μ μ7 := z3.tr ez4
      refine pk_bvy (fun μ9 ez5 => ?_)
      have z5 : Rz μ μ9 := by rw [ez5]; exact z4.sF
      exact pk_some z5
theorem w_X7_makePair (μ : Mem) : pk (p_X7_makePair μ) (fun q => Rz μ q) := by
  have z0 : Rz μ μ := Rz.rf
  rw [p_X7_makePair_eq]
  refine pk_bd (w_X8_pop μ) (fun r2 μ1 ez1 => ?_)
  have z1 : Rz μ μ1 := z0.tr ez1
  refine pk_bd (w_X8_pop μ1) (fun r4 μ3 ez2 => ?_)
  have z2 : Rz μ μ3 := z1.tr ez2
  refine pk_bd (w_X8_isTooHeavy r4 r2 μ3) (fun r6 μ5 ez3 => ?_)
  have z3 : Rz μ μ5 := z2.tr ez3
  refine pk_ite (fun _ => ?_) (fun _ => ?_)
  · refine pk_bd (w_X8_pair r4 r2 μ5) (fun r9 μ8 ez4 => ?_)
    have z4 : Rz μ μ8 := z3.tr ez4
    refine pk_bw (w_X8_push r9 μ8) (fun μ10 ez5 => ?_)
    have z5 : Rz μ μ10 := z4.tr ez5
    exact pk_some z5
  · refine pk_bvy (fun μ12 ez6 => ?_)
    have z6 : Rz μ μ12 := by rw [ez6]; exact z3.sF
    exact pk_some z6
theorem w_X1_writeOut (a0 : Nat) (a1 : Int64) (μ : Mem) : pk (p_X1_writeOut a0 a1 μ) (fun q => Rz μ q) := by
  have z0 : Rz μ μ := Rz.rf
  rw [p_X1_writeOut_eq]
  refine pk_ite (fun _ => ?_) (fun _ => ?_)
  · refine pk_bvy (fun μ2 ez1 => ?_)
    have z1 : Rz μ μ2 := by rw [ez1]; exact z0.sF
    exact pk_some z1
  · refine pk_gd (fun _ => ?_)
    refine pk_bvy (fun μ3 ez2 => ?_)
    have z2 : Rz μ μ3 := by rw [ez2]; exact z0.sL
    refine pk_bvy (fun μ4 ez3 => ?_)
    have z3 : Rz μ μ4 := by rw [ez3]; exact z2.sF
    exact pk_some z3
theorem w_X1_put (a0 : Nat) (a1 : Int32) (a2 : Int64) (μ : Mem) : pk (p_X1_put a0 a1 a2 μ) (fun q => Rz μ q.2) := by
  have z0 : Rz μ μ := Rz.rf
  rw [p_X1_put_eq]
  refine pk_ite (fun _ => ?_) (fun _ => ?_)
  · exact pk_some z0
  · refine pk_ite (fun _ => ?_) (fun _ => ?_)
    · exact pk_some z0
    · refine pk_gd (fun _ => ?_)
      refine pk_bvy (fun μ3 ez1 => ?_)
      have z1 : Rz μ μ3 := by rw [ez1]; exact z0.sF
      exact pk_some z1
theorem w_X1_placeBits (a0 : Nat) (a1 : Int32) (μ : Mem) : pk (p_X1_placeBits a0 a1 μ) (fun q => Rz μ q.2) := by
  have z0 : Rz μ μ := Rz.rf
  rw [p_X1_placeBits_eq]
  refine pk_ite (fun _ => ?_) (fun _ => ?_)
  · exact pk_some z0
  · refine pk_ite (fun _ => ?_) (fun _ => ?_)
    · exact pk_some z0
    · refine pk_gd (fun _ => ?_)
      exact pk_some z0
theorem w_X1_get (a0 : Nat) (a1 : Int32) (μ : Mem) : pk (p_X1_get a0 a1 μ) (fun q => Rz μ q.2) := by
  have z0 : Rz μ μ := Rz.rf
  rw [p_X1_get_eq]
  refine pk_ite (fun _ => ?_) (fun _ => ?_)
  · refine pk_bd (w_X1_placeBits a0 a1 μ) (fun r3 μ2 ez1 => ?_)
    have z1 : Rz μ μ2 := z0.tr ez1
    exact pk_some z1
  · refine pk_bd (w_X1_placeBits a0 a1 μ) (fun r5 μ4 ez2 => ?_)
    have z2 : Rz μ μ4 := z0.tr ez2
    exact pk_some z2
theorem w_X1_endCall (a0 : Nat) (μ : Mem) : pk (p_X1_endCall a0 μ) (fun q => Rz μ q) := by
  have z0 : Rz μ μ := Rz.rf
  rw [p_X1_endCall_eq]
  refine pk_bvy (fun μ1 ez1 => ?_)
  have z1 : Rz μ μ1 := by rw [ez1]; exact z0.sF
  exact pk_some z1
theorem w_X1_endWith (a0 : Nat) (a2 : Int64) (μ : Mem) : pk (p_X1_endWith a0 a2 μ) (fun q => Rz μ q) := by
  have z0 : Rz μ μ := Rz.rf
  rw [p_X1_endWith_eq]
  refine pk_bvy (fun μ1 ez1 => ?_)
  have z1 : Rz μ μ1 := by rw [ez1]; exact z0.sF
  refine pk_bd (w_X8_weightOf a2 μ1) (fun r3 μ2 ez2 => ?_)
  have z2 : Rz μ μ2 := z1.tr ez2
  refine pk_bvy (fun μ4 ez3 => ?_)
  have z3 : Rz μ μ4 := by rw [ez3]; exact z2.sF
  refine pk_bd (w_X8_deepOf a2 μ4) (fun r6 μ5 ez4 => ?_)
  have z4 : Rz μ μ5 := z3.tr ez4
  refine pk_bvy (fun μ7 ez5 => ?_)
  have z5 : Rz μ μ7 := by rw [ez5]; exact z4.sF
  refine pk_bw (w_X8_flatten a2 (a0 + 3) μ7) (fun μ8 ez6 => ?_)
  have z6 : Rz μ μ8 := z5.tr ez6
  exact pk_some z6
theorem w_X7_goBack (μ : Mem) : pk (p_X7_goBack μ) (fun q => Rz μ q) := by
  have z0 : Rz μ μ := Rz.rf
  rw [p_X7_goBack_eq]
  refine pk_bw (w_X1_endCall (sel 0 (μ.2.2 148 4)) μ) (fun μ1 ez1 => ?_)
  have z1 : Rz μ μ1 := z0.tr ez1
  refine pk_bd (w_X8_closeFrame μ1) (fun r4 μ3 ez2 => ?_)
  have z2 : Rz μ μ3 := z1.tr ez2
  refine pk_bvy (fun μ5 ez3 => ?_)
  have z3 : Rz μ μ5 := by rw [ez3]; exact z2.sF
  refine pk_ite (fun _ => ?_) (fun _ => ?_)
  · exact pk_some z3
  · refine pk_bd (w_X8_pop μ5) (fun r8 μ7 ez4 => ?_)
    have z4 : Rz μ μ7 := z3.tr ez4
    refine pk_bw (w_X1_endWith (sel 0 (μ5.2.2 148 4)) r8 μ7) (fun μ9 ez5 => ?_)
    have z5 : Rz μ μ9 := z4.tr ez5
    exact pk_some z5
theorem w_X7_step (μ : Mem) : pk (p_X7_step μ) (fun q => Rz μ q) := by
  have z0 : Rz μ μ := Rz.rf
  rw [p_X7_step_eq]
  refine pk_bd (w_X3_stepAt (sel 2 (μ.2.2 148 3)) (μ.1 148 5) μ) (fun r2 μ1 ez1 => ?_)
  have z1 : Rz μ μ1 := z0.tr ez1
  refine pk_bd (w_X3_markAt (sel 2 (μ1.2.2 148 3)) (μ1.1 148 5) μ1) (fun r4 μ3 ez2 => ?_)
  have z2 : Rz μ μ3 := z1.tr ez2
  refine pk_bd (w_X3_bitsAt (sel 2 (μ3.2.2 148 3)) (μ3.1 148 5) μ3) (fun r6 μ5 ez3 => ?_)
  have z3 : Rz μ μ5 := z2.tr ez3
  refine pk_bvy (fun μ7 ez4 => ?_)
  have z4 : Rz μ μ7 := by rw [ez4]; exact z3.sF
  refine pk_ite (fun _ => ?_) (fun _ => ?_)
  · refine pk_bw (w_X8_push (s_X0_make r4 r6) μ7) (fun μ10 ez5 => ?_)
    have z5 : Rz μ μ10 := z4.tr ez5
    exact pk_some z5
  · refine pk_ite (fun _ => ?_) (fun _ => ?_)
    · refine pk_bd (w_X8_varAt r4 μ7) (fun r14 μ13 ez6 => ?_)
      have z6 : Rz μ μ13 := z4.tr ez6
      refine pk_bw (w_X8_push r14 μ13) (fun μ15 ez7 => ?_)
      have z7 : Rz μ μ15 := z6.tr ez7
      exact pk_some z7
    · refine pk_ite (fun _ => ?_) (fun _ => ?_)
      · refine pk_bd (w_X8_popNum μ7) (fun r19 μ18 ez8 => ?_)
        have z8 : Rz μ μ18 := z4.tr ez8
        refine pk_bd (w_X8_popNum μ18) (fun r21 μ20 ez9 => ?_)
        have z9 : Rz μ μ20 := z8.tr ez9
        refine pk_bw (w_X8_push (s_X0_apply r4 r21 r19) μ20) (fun μ22 ez10 => ?_)
        have z10 : Rz μ μ22 := z9.tr ez10
        exact pk_some z10
      · refine pk_ite (fun _ => ?_) (fun _ => ?_)
        · refine pk_bd (w_X8_popNum μ7) (fun r26 μ25 ez11 => ?_)
          have z11 : Rz μ μ25 := z4.tr ez11
          refine pk_bw (w_X8_push (s_X0_turn r4 r26) μ25) (fun μ27 ez12 => ?_)
          have z12 : Rz μ μ27 := z11.tr ez12
          exact pk_some z12
        · refine pk_ite (fun _ => ?_) (fun _ => ?_)
          · refine pk_bd (w_X8_pop μ7) (fun r31 μ30 ez13 => ?_)
            have z13 : Rz μ μ30 := z4.tr ez13
            refine pk_ite (fun _ => ?_) (fun _ => ?_)
            · refine pk_bd (w_X8_firstOf r31 μ30) (fun r38 μ37 ez14 => ?_)
              have z14 : Rz μ μ37 := z13.tr ez14
              refine pk_bw (w_X8_push r38 μ37) (fun μ39 ez15 => ?_)
              have z15 : Rz μ μ39 := z14.tr ez15
              exact pk_some z15
            · refine pk_bd (w_X8_secondOf r31 μ30) (fun r34 μ33 ez16 => ?_)
              have z16 : Rz μ μ33 := z13.tr ez16
              refine pk_bw (w_X8_push r34 μ33) (fun μ35 ez17 => ?_)
              have z17 : Rz μ μ35 := z16.tr ez17
              exact pk_some z17
          · refine pk_ite (fun _ => ?_) (fun _ => ?_)
            · refine pk_bw (w_X7_makePair μ7) (fun μ42 ez18 => ?_)
              have z18 : Rz μ μ42 := z4.tr ez18
              exact pk_some z18
            · refine pk_ite (fun _ => ?_) (fun _ => ?_)
              · refine pk_bd (w_X8_popNum μ7) (fun r46 μ45 ez19 => ?_)
                have z19 : Rz μ μ45 := z4.tr ez19
                refine pk_ite (fun _ => ?_) (fun _ => ?_)
                · refine pk_bvy (fun μ48 ez20 => ?_)
                  have z20 : Rz μ μ48 := by rw [ez20]; exact z19.sF
                  exact pk_some z20
                · refine pk_bvy (fun μ49 ez21 => ?_)
                  have z21 : Rz μ μ49 := by rw [ez21]; exact z19.sF
                  exact pk_some z21
              · refine pk_ite (fun _ => ?_) (fun _ => ?_)
                · refine pk_bvy (fun μ51 ez22 => ?_)
                  have z22 : Rz μ μ51 := by rw [ez22]; exact z4.sF
                  exact pk_some z22
                · refine pk_ite (fun _ => ?_) (fun _ => ?_)
                  · exact pk_some z4
                  · refine pk_ite (fun _ => ?_) (fun _ => ?_)
                    · refine pk_bd (w_X8_fromTop (0 : Int32) μ7) (fun r55 μ54 ez23 => ?_)
                      have z23 : Rz μ μ54 := z4.tr ez23
                      refine pk_bd (w_X8_num r55 μ54) (fun r57 μ56 ez24 => ?_)
                      have z24 : Rz μ μ56 := z23.tr ez24
                      refine pk_bw (w_X1_writeOut (sel 0 (μ7.2.2 148 4)) r57 μ56) (fun μ58 ez25 => ?_)
                      have z25 : Rz μ μ58 := z24.tr ez25
                      exact pk_some z25
                    · refine pk_ite (fun _ => ?_) (fun _ => ?_)
                      · refine pk_bd (w_X8_popNum μ7) (fun r62 μ61 ez26 => ?_)
                        have z26 : Rz μ μ61 := z4.tr ez26
                        refine pk_bd (w_X1_put (sel 0 (μ7.2.2 148 4)) r4 (s_X0_stored r4 r62) μ61) (fun r64 μ63 ez27 => ?_)
                        have z27 : Rz μ μ63 := z26.tr ez27
                        refine pk_bw (w_X8_push r64 μ63) (fun μ65 ez28 => ?_)
                        have z28 : Rz μ μ65 := z27.tr ez28
                        exact pk_some z28
                      · refine pk_ite (fun _ => ?_) (fun _ => ?_)
                        · refine pk_bd (w_X1_get (sel 0 (μ7.2.2 148 4)) r4 μ7) (fun r69 μ68 ez29 => ?_)
                          have z29 : Rz μ μ68 := z4.tr ez29
                          refine pk_bw (w_X8_push r69 μ68) (fun μ70 ez30 => ?_)
                          have z30 : Rz μ μ70 := z29.tr ez30
                          exact pk_some z30
                        · refine pk_ite (fun _ => ?_) (fun _ => ?_)
                          · refine pk_bd (w_X8_pop μ7) (fun r74 μ73 ez31 => ?_)
                            have z31 : Rz μ μ73 := z4.tr ez31
                            refine pk_bw (w_X8_setVar r4 r74 μ73) (fun μ75 ez32 => ?_)
                            have z32 : Rz μ μ75 := z31.tr ez32
                            exact pk_some z32
                          · refine pk_ite (fun _ => ?_) (fun _ => ?_)
                            · refine pk_bw (w_X7_call r4 r6 μ7) (fun μ78 ez33 => ?_)
                              have z33 : Rz μ μ78 := z4.tr ez33
                              exact pk_some z33
                            · refine pk_bw (w_X7_goBack μ7) (fun μ80 ez34 => ?_)
                              have z34 : Rz μ μ80 := z4.tr ez34
                              exact pk_some z34
theorem w_X7_runTask_b131 : ∀ (n : Nat) (a6 : Int32) (μ : Mem), pk (p_X7_runTask_b131  n a6 μ) (fun q => Rz μ q) := by
  intro n
  induction n with
  | zero => intro a6 μ r e; rw [p_X7_runTask_b131_z] at e; cases e
  | succ n ih =>
    intro a6 μ
    have z0 : Rz μ μ := Rz.rf
    rw [p_X7_runTask_b131_s]
    refine pk_ite (fun _ => ?_) (fun _ => ?_)
    · exact pk_some z0
    · refine pk_bd (w_X1_isRunning (sel 0 (μ.2.2 148 4)) μ) (fun r16 μ15 ez1 => ?_)
      have z1 : Rz μ μ15 := z0.tr ez1
      refine pk_ite (fun _ => ?_) (fun _ => ?_)
      · exact pk_some z1
      · refine pk_bw (w_X7_step μ15) (fun μ18 ez2 => ?_)
        have z2 : Rz μ μ18 := z1.tr ez2
        refine pk_bvy (fun v20 _ => ?_)
        exact pk_mono (ih v20 μ18) (fun _ hq => z2.tr hq)
theorem w_X7_runTask_b63 : ∀ (n : Nat) (a2 : Nat) (a5 : Int32) (a6 : Int32) (μ : Mem), pk (p_X7_runTask_b63  n a2 a5 a6 μ) (fun q => Rz μ q) := by
  intro n
  induction n with
  | zero => intro a2 a5 a6 μ r e; rw [p_X7_runTask_b63_z] at e; cases e
  | succ n ih =>
    intro a2 a5 a6 μ
    have z0 : Rz μ μ := Rz.rf
    rw [p_X7_runTask_b63_s]
    refine pk_ite (fun _ => ?_) (fun _ => ?_)
    · refine pk_bw (w_X7_call (μ.1 a2 3) a5 μ) (fun μ12 ez1 => ?_)
      have z1 : Rz μ μ12 := z0.tr ez1
      exact pk_mono (w_X7_runTask_b131 FUEL (0 : Int32) μ12) (fun _ hq => z1.tr hq)
    · refine pk_gd (fun _ => ?_)
      refine pk_bd (w_X8_weightOf (μ.2.1 150 a6.toNatClampNeg) μ) (fun r22 μ21 ez2 => ?_)
      have z2 : Rz μ μ21 := z0.tr ez2
      refine pk_ite (fun _ => ?_) (fun _ => ?_)
      · refine pk_gd (fun _ => ?_)
        refine pk_bw (w_X8_push (μ21.2.1 150 a6.toNatClampNeg) μ21) (fun μ24 ez3 => ?_)
        have z3 : Rz μ μ24 := z2.tr ez3
        refine pk_bvy (fun v26 _ => ?_)
        exact pk_mono (ih a2 a5 v26 μ24) (fun _ hq => z3.tr hq)
      · refine pk_bvy (fun μ27 ez4 => ?_)
        have z4 : Rz μ μ27 := by rw [ez4]; exact z2.sF
        exact pk_some z4
theorem w_X7_runTask (a1 : Nat) (a2 : Nat) (a3 : Nat) (a4 : Nat) (μ : Mem) : pk (p_X7_runTask a1 a2 a3 a4 μ) (fun q => Rz μ q) := by
  have z0 : Rz μ μ := Rz.rf
  rw [p_X7_runTask_eq]
  refine pk_bvy (fun μ1 ez1 => ?_)
  have z1 : Rz μ μ1 := by rw [ez1]; exact z0.sR (by decide)
  refine pk_bvy (fun μ2 ez2 => ?_)
  have z2 : Rz μ μ2 := by rw [ez2]; exact z1.sR (by decide)
  refine pk_bw (w_X1_clear (sel 0 (μ2.2.2 148 4)) μ2) (fun μ3 ez3 => ?_)
  have z3 : Rz μ μ3 := z2.tr ez3
  refine pk_bw (w_X8_clear μ3) (fun μ5 ez4 => ?_)
  have z4 : Rz μ μ5 := z3.tr ez4
  refine pk_bd (w_X8_build a3 149 149 μ5) (fun r8 μ7 ez5 => ?_)
  have z5 : Rz μ μ7 := z4.tr ez5
  refine pk_bd (w_X8_build a2 149 150 μ7) (fun r10 μ9 ez6 => ?_)
  have z6 : Rz μ μ9 := z5.tr ez6
  exact pk_mono (w_X7_runTask_b63 FUEL a2 r10 (0 : Int32) μ9) (fun _ hq => z6.tr hq)
theorem w_X6_setRegister (a1 : Int32) (a2 : Int32) (a3 : Int64) (μ : Mem) : pk (p_X6_setRegister a1 a2 a3 μ) (fun q => Rz μ q) := by
  have z0 : Rz μ μ := Rz.rf
  rw [p_X6_setRegister_eq]
  refine pk_bvy (fun v1 _ => ?_)
  refine pk_ite (fun _ => ?_) (fun _ => ?_)
  · exact pk_some z0
  · refine pk_ite (fun _ => ?_) (fun _ => ?_)
    · exact pk_some z0
    · refine pk_ite (fun _ => ?_) (fun _ => ?_)
      · exact pk_some z0
      · refine pk_gd (fun _ => ?_)
        refine pk_bvy (fun μ5 ez1 => ?_)
        have z1 : Rz μ μ5 := by rw [ez1]; exact z0.sL
        exact pk_some z1
theorem w_X5_firstOf (a1 : Int32) (μ : Mem) : pk (p_X5_firstOf a1 μ) (fun q => Rz μ q.2) := by
  have z0 : Rz μ μ := Rz.rf
  rw [p_X5_firstOf_eq]
  refine pk_bd (w_X5_isBlock a1 μ) (fun r2 μ1 ez1 => ?_)
  have z1 : Rz μ μ1 := z0.tr ez1
  refine pk_ite (fun _ => ?_) (fun _ => ?_)
  · exact pk_some z1
  · refine pk_gd (fun _ => ?_)
    exact pk_some z1
theorem w_X6_enter (a1 : Int32) (μ : Mem) : pk (p_X6_enter a1 μ) (fun q => Rz μ q) := by
  have z0 : Rz μ μ := Rz.rf
  rw [p_X6_enter_eq]
  refine pk_ite (fun _ => ?_) (fun _ => ?_)
  · exact pk_some z0
  · refine pk_gd (fun _ => ?_)
    refine pk_bvy (fun μ2 ez1 => ?_)
    have z1 : Rz μ μ2 := by rw [ez1]; exact z0.sF
    refine pk_bd (w_X5_firstOf a1 μ2) (fun r4 μ3 ez2 => ?_)
    have z2 : Rz μ μ3 := z1.tr ez2
    refine pk_gd (fun _ => ?_)
    refine pk_bvy (fun μ5 ez3 => ?_)
    have z3 : Rz μ μ5 := by rw [ez3]; exact z2.sF
    refine pk_bvy (fun μ6 ez4 => ?_)
    have z4 : Rz μ μ6 := by rw [ez4]; exact z3.sF
    exact pk_some z4
theorem w_X6_known (a1 : Int64) (μ : Mem) : pk (p_X6_known a1 μ) (fun q => Rz μ q.2) := by
  have z0 : Rz μ μ := Rz.rf
  rw [p_X6_known_eq]
  refine pk_ite (fun _ => ?_) (fun _ => ?_)
  · refine pk_bvy (fun v2 _ => ?_)
    refine pk_ite (fun _ => ?_) (fun _ => ?_)
    · exact pk_some z0
    · refine pk_ite (fun _ => ?_) (fun _ => ?_)
      · exact pk_some z0
      · refine pk_gd (fun _ => ?_)
        exact pk_some z0
  · exact pk_some z0
theorem w_X6_goOn (a1 : Int32) (a2 : Int64) (μ : Mem) : pk (p_X6_goOn a1 a2 μ) (fun q => Rz μ q) := by
  have z0 : Rz μ μ := Rz.rf
  rw [p_X6_goOn_eq]
  refine pk_bd (w_X5_cell a1 (1 : Int32) μ) (fun r2 μ1 ez1 => ?_)
  have z1 : Rz μ μ1 := z0.tr ez1
  refine pk_bw (w_X6_setRegister (μ.1 151 6) r2 a2 μ1) (fun μ3 ez2 => ?_)
  have z2 : Rz μ μ3 := z1.tr ez2
  refine pk_ite (fun _ => ?_) (fun _ => ?_)
  · exact pk_some z2
  · refine pk_bd (w_X5_cell a1 (5 : Int32) μ3) (fun r7 μ6 ez3 => ?_)
    have z3 : Rz μ μ6 := z2.tr ez3
    refine pk_gd (fun _ => ?_)
    refine pk_bvy (fun μ8 ez4 => ?_)
    have z4 : Rz μ μ8 := by rw [ez4]; exact z3.sF
    exact pk_some z4
theorem w_X6_endBlock (μ : Mem) : pk (p_X6_endBlock μ) (fun q => Rz μ q) := by
  have z0 : Rz μ μ := Rz.rf
  rw [p_X6_endBlock_eq]
  refine pk_gd (fun _ => ?_)
  refine pk_bd (w_X5_endOf (μ.1 154 ((μ.1 151 5) - (1 : Int32)).toNatClampNeg) μ) (fun r2 μ1 ez1 => ?_)
  have z1 : Rz μ μ1 := z0.tr ez1
  refine pk_bd (w_X6_known r2 μ1) (fun r4 μ3 ez2 => ?_)
  have z2 : Rz μ μ3 := z1.tr ez2
  refine pk_bvy (fun μ5 ez3 => ?_)
  have z3 : Rz μ μ5 := by rw [ez3]; exact z2.sF
  refine pk_ite (fun _ => ?_) (fun _ => ?_)
  · refine pk_gd (fun _ => ?_)
    refine pk_bvy (fun v7 _ => ?_)
    refine pk_bd (w_X5_cell v7 (0 : Int32) μ5) (fun r9 μ8 ez4 => ?_)
    have z4 : Rz μ μ8 := z3.tr ez4
    refine pk_ite (fun _ => ?_) (fun _ => ?_)
    · refine pk_bw (w_X1_endCall (sel 0 (μ8.2.2 151 8)) μ8) (fun μ13 ez5 => ?_)
      have z5 : Rz μ μ13 := z4.tr ez5
      refine pk_bd (w_X5_cell v7 (6 : Int32) μ13) (fun r16 μ15 ez6 => ?_)
      have z6 : Rz μ μ15 := z5.tr ez6
      refine pk_bd (w_X5_ofVariant r16 (2 : Int32) μ15) (fun r18 μ17 ez7 => ?_)
      have z7 : Rz μ μ17 := z6.tr ez7
      refine pk_bvy (fun μ19 ez8 => ?_)
      have z8 : Rz μ μ19 := by rw [ez8]; exact z7.sF
      refine pk_bw (w_X6_goOn v7 r4 μ19) (fun μ20 ez9 => ?_)
      have z9 : Rz μ μ20 := z8.tr ez9
      exact pk_some z9
    · refine pk_bw (w_X6_goOn v7 r4 μ8) (fun μ11 ez10 => ?_)
      have z10 : Rz μ μ11 := z4.tr ez10
      exact pk_some z10
  · refine pk_bw (w_X1_endWith (sel 0 (μ5.2.2 151 8)) r4 μ5) (fun μ22 ez11 => ?_)
    have z11 : Rz μ μ22 := z3.tr ez11
    exact pk_some z11
theorem w_X5_operand_b27 (a1 : Int32) (a2 : Int32) (k0 : Int32) (μ : Mem) : pk (p_X5_operand_b27 a1 a2 k0 μ) (fun q => Rz μ q.2) := by
  have z0 : Rz μ μ := Rz.rf
  rw [p_X5_operand_b27_eq]
  refine pk_ite (fun _ => ?_) (fun _ => ?_)
  · exact pk_some z0
  · refine pk_gd (fun _ => ?_)
    exact pk_some z0
theorem w_X5_operand_b26 (a1 : Int32) (a2 : Int32) (μ : Mem) : pk (p_X5_operand_b26 a1 a2 μ) (fun q => Rz μ q.2) := by
  have z0 : Rz μ μ := Rz.rf
  rw [p_X5_operand_b26_eq]
  exact pk_mono (w_X5_operand_b27 a1 a2 (0 : Int32) μ) (fun _ hq => z0.tr hq)
theorem w_X5_operand (a1 : Int32) (a2 : Int32) (μ : Mem) : pk (p_X5_operand a1 a2 μ) (fun q => Rz μ q.2) := by
  have z0 : Rz μ μ := Rz.rf
  rw [p_X5_operand_eq]
  refine pk_ite (fun _ => ?_) (fun _ => ?_)
  · exact pk_mono (w_X5_operand_b26 a1 a2 μ) (fun _ hq => z0.tr hq)
  · refine pk_ite (fun _ => ?_) (fun _ => ?_)
    · exact pk_mono (w_X5_operand_b26 a1 a2 μ) (fun _ hq => z0.tr hq)
    · refine pk_ite (fun _ => ?_) (fun _ => ?_)
      · exact pk_mono (w_X5_operand_b26 a1 a2 μ) (fun _ hq => z0.tr hq)
      · refine pk_ite (fun _ => ?_) (fun _ => ?_)
        · exact pk_mono (w_X5_operand_b26 a1 a2 μ) (fun _ hq => z0.tr hq)
        · exact pk_mono (w_X5_operand_b27 a1 a2 (1 : Int32) μ) (fun _ hq => z0.tr hq)
theorem w_X6_operand (a1 : Int32) (a2 : Int32) (μ : Mem) : pk (p_X6_operand a1 a2 μ) (fun q => Rz μ q.2) := by
  have z0 : Rz μ μ := Rz.rf
  rw [p_X6_operand_eq]
  refine pk_bd (w_X5_operand a1 a2 μ) (fun r2 μ1 ez1 => ?_)
  have z1 : Rz μ μ1 := z0.tr ez1
  refine pk_bd (w_X6_known r2 μ1) (fun r4 μ3 ez2 => ?_)
  have z2 : Rz μ μ3 := z1.tr ez2
  exact pk_some z2
theorem w_X6_num (a1 : Int32) (a2 : Int32) (μ : Mem) : pk (p_X6_num a1 a2 μ) (fun q => Rz μ q.2) := by
  have z0 : Rz μ μ := Rz.rf
  rw [p_X6_num_eq]
  refine pk_bd (w_X6_operand a1 a2 μ) (fun r2 μ1 ez1 => ?_)
  have z1 : Rz μ μ1 := z0.tr ez1
  refine pk_bd (w_X8_num r2 μ1) (fun r4 μ3 ez2 => ?_)
  have z2 : Rz μ μ3 := z1.tr ez2
  exact pk_some z2
theorem w_X6_makePair (a1 : Int32) (μ : Mem) : pk (p_X6_makePair a1 μ) (fun q => Rz μ q) := by
  have z0 : Rz μ μ := Rz.rf
  rw [p_X6_makePair_eq]
  refine pk_bd (w_X6_operand a1 (0 : Int32) μ) (fun r2 μ1 ez1 => ?_)
  have z1 : Rz μ μ1 := z0.tr ez1
  refine pk_bd (w_X6_operand a1 (1 : Int32) μ1) (fun r4 μ3 ez2 => ?_)
  have z2 : Rz μ μ3 := z1.tr ez2
  refine pk_bd (w_X8_isTooHeavy r2 r4 μ3) (fun r6 μ5 ez3 => ?_)
  have z3 : Rz μ μ5 := z2.tr ez3
  refine pk_ite (fun _ => ?_) (fun _ => ?_)
  · refine pk_bd (w_X8_pair r2 r4 μ5) (fun r9 μ8 ez4 => ?_)
    have z4 : Rz μ μ8 := z3.tr ez4
    refine pk_bw (w_X6_goOn a1 r9 μ8) (fun μ10 ez5 => ?_)
    have z5 : Rz μ μ10 := z4.tr ez5
    exact pk_some z5
  · refine pk_bvy (fun μ12 ez6 => ?_)
    have z6 : Rz μ μ12 := by rw [ez6]; exact z3.sF
    exact pk_some z6
theorem w_X6_call_b53 : ∀ (n : Nat) (a1 : Int32) (a2 : Int32) (a4 : Int32) (a5 : Int32) (a6 : Int32) (μ : Mem), pk (p_X6_call_b53  n a1 a2 a4 a5 a6 μ) (fun q => Rz μ q) := by
  intro n
  induction n with
  | zero => intro a1 a2 a4 a5 a6 μ r e; rw [p_X6_call_b53_z] at e; cases e
  | succ n ih =>
    intro a1 a2 a4 a5 a6 μ
    have z0 : Rz μ μ := Rz.rf
    rw [p_X6_call_b53_s]
    refine pk_ite (fun _ => ?_) (fun _ => ?_)
    · refine pk_bvy (fun μ12 ez1 => ?_)
      have z1 : Rz μ μ12 := by rw [ez1]; exact z0.sF
      refine pk_bd (w_X5_ofVariant a2 (3 : Int32) μ12) (fun r14 μ13 ez2 => ?_)
      have z2 : Rz μ μ13 := z1.tr ez2
      refine pk_bw (w_X6_enter r14 μ13) (fun μ15 ez3 => ?_)
      have z3 : Rz μ μ15 := z2.tr ez3
      exact pk_some z3
    · refine pk_bd (w_X6_operand a1 ((2 : Int32) + a6) μ) (fun r18 μ17 ez4 => ?_)
      have z4 : Rz μ μ17 := z0.tr ez4
      refine pk_bw (w_X6_setRegister a4 a6 r18 μ17) (fun μ19 ez5 => ?_)
      have z5 : Rz μ μ19 := z4.tr ez5
      refine pk_bvy (fun v21 _ => ?_)
      exact pk_mono (ih a1 a2 a4 a5 v21 μ19) (fun _ hq => z5.tr hq)
theorem w_X6_call (a1 : Int32) (a2 : Int32) (μ : Mem) : pk (p_X6_call a1 a2 μ) (fun q => Rz μ q) := by
  have z0 : Rz μ μ := Rz.rf
  rw [p_X6_call_eq]
  refine pk_bd (w_X5_cell a1 (6 : Int32) μ) (fun r2 μ1 ez1 => ?_)
  have z1 : Rz μ μ1 := z0.tr ez1
  refine pk_bd (w_X1_beginCall (sel 0 (μ1.2.2 151 8)) μ1) (fun r4 μ3 ez2 => ?_)
  have z2 : Rz μ μ3 := z1.tr ez2
  refine pk_ite (fun _ => ?_) (fun _ => ?_)
  · exact pk_some z2
  · refine pk_bd (w_X5_ofVariant r2 (2 : Int32) μ3) (fun r7 μ6 ez3 => ?_)
    have z3 : Rz μ μ6 := z2.tr ez3
    refine pk_bvy (fun v8 _ => ?_)
    refine pk_bd (w_X5_cell a1 (7 : Int32) μ6) (fun r10 μ9 ez4 => ?_)
    have z4 : Rz μ μ9 := z3.tr ez4
    exact pk_mono (w_X6_call_b53 FUEL a1 a2 v8 r10 (0 : Int32) μ9) (fun _ hq => z4.tr hq)
theorem w_X6_step (a1 : Int32) (μ : Mem) : pk (p_X6_step a1 μ) (fun q => Rz μ q) := by
  have z0 : Rz μ μ := Rz.rf
  rw [p_X6_step_eq]
  refine pk_bd (w_X5_cell a1 (2 : Int32) μ) (fun r2 μ1 ez1 => ?_)
  have z1 : Rz μ μ1 := z0.tr ez1
  refine pk_bd (w_X5_cell a1 (0 : Int32) μ1) (fun r4 μ3 ez2 => ?_)
  have z2 : Rz μ μ3 := z1.tr ez2
  refine pk_ite (fun _ => ?_) (fun _ => ?_)
  · refine pk_bd (w_X6_num a1 (0 : Int32) μ3) (fun r8 μ7 ez3 => ?_)
    have z3 : Rz μ μ7 := z2.tr ez3
    refine pk_bd (w_X6_num a1 (1 : Int32) μ7) (fun r10 μ9 ez4 => ?_)
    have z4 : Rz μ μ9 := z3.tr ez4
    refine pk_bw (w_X6_goOn a1 (s_X0_apply r2 r8 r10) μ9) (fun μ11 ez5 => ?_)
    have z5 : Rz μ μ11 := z4.tr ez5
    exact pk_some z5
  · refine pk_ite (fun _ => ?_) (fun _ => ?_)
    · refine pk_bd (w_X6_num a1 (0 : Int32) μ3) (fun r15 μ14 ez6 => ?_)
      have z6 : Rz μ μ14 := z2.tr ez6
      refine pk_bw (w_X6_goOn a1 (s_X0_turn (36 : Int32) r15) μ14) (fun μ16 ez7 => ?_)
      have z7 : Rz μ μ16 := z6.tr ez7
      exact pk_some z7
    · refine pk_ite (fun _ => ?_) (fun _ => ?_)
      · refine pk_bd (w_X6_num a1 (0 : Int32) μ3) (fun r20 μ19 ez8 => ?_)
        have z8 : Rz μ μ19 := z2.tr ez8
        refine pk_bw (w_X6_goOn a1 (s_X0_turn (94 : Int32) r20) μ19) (fun μ21 ez9 => ?_)
        have z9 : Rz μ μ21 := z8.tr ez9
        exact pk_some z9
      · refine pk_ite (fun _ => ?_) (fun _ => ?_)
        · refine pk_bd (w_X6_num a1 (0 : Int32) μ3) (fun r25 μ24 ez10 => ?_)
          have z10 : Rz μ μ24 := z2.tr ez10
          refine pk_bw (w_X6_goOn a1 (s_X0_turn (35 : Int32) r25) μ24) (fun μ26 ez11 => ?_)
          have z11 : Rz μ μ26 := z10.tr ez11
          exact pk_some z11
        · refine pk_ite (fun _ => ?_) (fun _ => ?_)
          · refine pk_bd (w_X6_operand a1 (0 : Int32) μ3) (fun r30 μ29 ez12 => ?_)
            have z12 : Rz μ μ29 := z2.tr ez12
            refine pk_bd (w_X8_firstOf r30 μ29) (fun r32 μ31 ez13 => ?_)
            have z13 : Rz μ μ31 := z12.tr ez13
            refine pk_bw (w_X6_goOn a1 r32 μ31) (fun μ33 ez14 => ?_)
            have z14 : Rz μ μ33 := z13.tr ez14
            exact pk_some z14
          · refine pk_ite (fun _ => ?_) (fun _ => ?_)
            · refine pk_bd (w_X6_operand a1 (0 : Int32) μ3) (fun r37 μ36 ez15 => ?_)
              have z15 : Rz μ μ36 := z2.tr ez15
              refine pk_bd (w_X8_secondOf r37 μ36) (fun r39 μ38 ez16 => ?_)
              have z16 : Rz μ μ38 := z15.tr ez16
              refine pk_bw (w_X6_goOn a1 r39 μ38) (fun μ40 ez17 => ?_)
              have z17 : Rz μ μ40 := z16.tr ez17
              exact pk_some z17
            · refine pk_ite (fun _ => ?_) (fun _ => ?_)
              · refine pk_bd (w_X6_num a1 (0 : Int32) μ3) (fun r44 μ43 ez18 => ?_)
                have z18 : Rz μ μ43 := z2.tr ez18
                refine pk_ite (fun _ => ?_) (fun _ => ?_)
                · refine pk_bd (w_X5_cell a1 (4 : Int32) μ43) (fun r47 μ46 ez19 => ?_)
                  have z19 : Rz μ μ46 := z18.tr ez19
                  refine pk_bw (w_X6_enter r47 μ46) (fun μ48 ez20 => ?_)
                  have z20 : Rz μ μ48 := z19.tr ez20
                  exact pk_some z20
                · refine pk_bd (w_X5_cell a1 (3 : Int32) μ43) (fun r51 μ50 ez21 => ?_)
                  have z21 : Rz μ μ50 := z18.tr ez21
                  refine pk_bw (w_X6_enter r51 μ50) (fun μ52 ez22 => ?_)
                  have z22 : Rz μ μ52 := z21.tr ez22
                  exact pk_some z22
              · refine pk_ite (fun _ => ?_) (fun _ => ?_)
                · refine pk_bd (w_X6_num a1 (0 : Int32) μ3) (fun r56 μ55 ez23 => ?_)
                  have z23 : Rz μ μ55 := z2.tr ez23
                  refine pk_bw (w_X1_writeOut (sel 0 (μ3.2.2 151 8)) r56 μ55) (fun μ57 ez24 => ?_)
                  have z24 : Rz μ μ57 := z23.tr ez24
                  refine pk_bw (w_X6_goOn a1 (0 : Int64) μ57) (fun μ59 ez25 => ?_)
                  have z25 : Rz μ μ59 := z24.tr ez25
                  exact pk_some z25
                · refine pk_ite (fun _ => ?_) (fun _ => ?_)
                  · refine pk_bd (w_X6_num a1 (0 : Int32) μ3) (fun r63 μ62 ez26 => ?_)
                    have z26 : Rz μ μ62 := z2.tr ez26
                    refine pk_bd (w_X1_put (sel 0 (μ3.2.2 151 8)) r2 (s_X0_stored r2 r63) μ62) (fun r65 μ64 ez27 => ?_)
                    have z27 : Rz μ μ64 := z26.tr ez27
                    refine pk_bw (w_X6_goOn a1 r65 μ64) (fun μ66 ez28 => ?_)
                    have z28 : Rz μ μ66 := z27.tr ez28
                    exact pk_some z28
                  · refine pk_ite (fun _ => ?_) (fun _ => ?_)
                    · refine pk_bd (w_X1_get (sel 0 (μ3.2.2 151 8)) r2 μ3) (fun r70 μ69 ez29 => ?_)
                      have z29 : Rz μ μ69 := z2.tr ez29
                      refine pk_bw (w_X6_goOn a1 r70 μ69) (fun μ71 ez30 => ?_)
                      have z30 : Rz μ μ71 := z29.tr ez30
                      exact pk_some z30
                    · refine pk_ite (fun _ => ?_) (fun _ => ?_)
                      · refine pk_bw (w_X6_makePair a1 μ3) (fun μ74 ez31 => ?_)
                        have z31 : Rz μ μ74 := z2.tr ez31
                        exact pk_some z31
                      · refine pk_ite (fun _ => ?_) (fun _ => ?_)
                        · refine pk_bw (w_X6_call a1 r2 μ3) (fun μ77 ez32 => ?_)
                          have z32 : Rz μ μ77 := z2.tr ez32
                          exact pk_some z32
                        · refine pk_bvy (fun μ79 ez33 => ?_)
                          have z33 : Rz μ μ79 := by rw [ez33]; exact z2.sF
                          exact pk_some z33
theorem w_X6_runResidue_b166 (K109 : Int32 → Mem → Option Mem) (hK109 : ∀ (y0 : Int32) (y1 : Mem), pk (K109 y0 y1) (fun q => Rz y1 q)) (a5 : Int32) (μ : Mem) : pk (p_X6_runResidue_b166 K109 a5 μ) (fun q => Rz μ q) := by
  have z0 : Rz μ μ := Rz.rf
  rw [p_X6_runResidue_b166_eq]
  refine pk_bvy (fun v27 _ => ?_)
  exact pk_mono (hK109 v27 μ) (fun _ hq => z0.tr hq)
theorem w_X6_runResidue_b109 : ∀ (n : Nat) (a5 : Int32) (μ : Mem), pk (p_X6_runResidue_b109  n a5 μ) (fun q => Rz μ q) := by
  intro n
  induction n with
  | zero => intro a5 μ r e; rw [p_X6_runResidue_b109_z] at e; cases e
  | succ n ih =>
    intro a5 μ
    have z0 : Rz μ μ := Rz.rf
    rw [p_X6_runResidue_b109_s]
    refine pk_ite (fun _ => ?_) (fun _ => ?_)
    · exact pk_some z0
    · refine pk_ite (fun _ => ?_) (fun _ => ?_)
      · exact pk_some z0
      · refine pk_bd (w_X1_isRunning (sel 0 (μ.2.2 151 8)) μ) (fun r21 μ20 ez1 => ?_)
        have z1 : Rz μ μ20 := z0.tr ez1
        refine pk_ite (fun _ => ?_) (fun _ => ?_)
        · exact pk_some z1
        · refine pk_gd (fun _ => ?_)
          refine pk_bvy (fun v23 _ => ?_)
          refine pk_ite (fun _ => ?_) (fun _ => ?_)
          · refine pk_bw (w_X6_endBlock μ20) (fun μ28 ez2 => ?_)
            have z2 : Rz μ μ28 := z1.tr ez2
            exact pk_mono (w_X6_runResidue_b166 (p_X6_runResidue_b109  n) ih a5 μ28) (fun _ hq => z2.tr hq)
          · refine pk_bw (w_X6_step v23 μ20) (fun μ25 ez3 => ?_)
            have z3 : Rz μ μ25 := z1.tr ez3
            exact pk_mono (w_X6_runResidue_b166 (p_X6_runResidue_b109  n) ih a5 μ25) (fun _ hq => z3.tr hq)
theorem w_X6_runResidue_b63 : ∀ (n : Nat) (a4 : Int32) (a5 : Int32) (μ : Mem), pk (p_X6_runResidue_b63  n a4 a5 μ) (fun q => Rz μ q) := by
  intro n
  induction n with
  | zero => intro a4 a5 μ r e; rw [p_X6_runResidue_b63_z] at e; cases e
  | succ n ih =>
    intro a4 a5 μ
    have z0 : Rz μ μ := Rz.rf
    rw [p_X6_runResidue_b63_s]
    refine pk_ite (fun _ => ?_) (fun _ => ?_)
    · refine pk_bd (w_X5_ofVariant (0 : Int32) (3 : Int32) μ) (fun r15 μ14 ez1 => ?_)
      have z1 : Rz μ μ14 := z0.tr ez1
      refine pk_bw (w_X6_enter r15 μ14) (fun μ16 ez2 => ?_)
      have z2 : Rz μ μ16 := z1.tr ez2
      exact pk_mono (w_X6_runResidue_b109 FUEL (0 : Int32) μ16) (fun _ hq => z2.tr hq)
    · refine pk_gd (fun _ => ?_)
      refine pk_bw (w_X6_setRegister (μ.1 151 6) a5 (μ.2.1 153 a5.toNatClampNeg) μ) (fun μ30 ez3 => ?_)
      have z3 : Rz μ μ30 := z0.tr ez3
      refine pk_bvy (fun v32 _ => ?_)
      exact pk_mono (ih a4 v32 μ30) (fun _ hq => z3.tr hq)
theorem w_X6_runResidue (a2 : Nat) (a3 : Nat) (μ : Mem) : pk (p_X6_runResidue a2 a3 μ) (fun q => Rz μ q) := by
  have z0 : Rz μ μ := Rz.rf
  rw [p_X6_runResidue_eq]
  refine pk_bvy (fun μ2 ez1 => ?_)
  have z1 : Rz μ μ2 := by rw [ez1]; exact z0.sR (by decide)
  refine pk_bw (w_X1_clear (sel 0 (μ2.2.2 151 8)) μ2) (fun μ3 ez2 => ?_)
  have z2 : Rz μ μ3 := z1.tr ez2
  refine pk_bw (w_X8_clear μ3) (fun μ5 ez3 => ?_)
  have z3 : Rz μ μ5 := z2.tr ez3
  refine pk_bvy (fun μ7 ez4 => ?_)
  have z4 : Rz μ μ7 := by rw [ez4]; exact z3.sF
  refine pk_bvy (fun μ8 ez5 => ?_)
  have z5 : Rz μ μ8 := by rw [ez5]; exact z4.sF
  refine pk_bd (w_X8_build a2 153 153 μ8) (fun r10 μ9 ez6 => ?_)
  have z6 : Rz μ μ9 := z5.tr ez6
  refine pk_bd (w_X1_beginCall (sel 0 (μ9.2.2 151 8)) μ9) (fun r12 μ11 ez7 => ?_)
  have z7 : Rz μ μ11 := z6.tr ez7
  exact pk_mono (w_X6_runResidue_b63 FUEL r10 (0 : Int32) μ11) (fun _ hq => z7.tr hq)
theorem w_X1_about (a0 : Nat) (a1 : Int32) (μ : Mem) : pk (p_X1_about a0 a1 μ) (fun q => Rz μ q.2) := by
  have z0 : Rz μ μ := Rz.rf
  rw [p_X1_about_eq]
  refine pk_ite (fun _ => ?_) (fun _ => ?_)
  · exact pk_some z0
  · refine pk_ite (fun _ => ?_) (fun _ => ?_)
    · exact pk_some z0
    · refine pk_ite (fun _ => ?_) (fun _ => ?_)
      · exact pk_some z0
      · refine pk_ite (fun _ => ?_) (fun _ => ?_)
        · exact pk_some z0
        · refine pk_ite (fun _ => ?_) (fun _ => ?_)
          · exact pk_some z0
          · refine pk_ite (fun _ => ?_) (fun _ => ?_)
            · exact pk_some z0
            · exact pk_some z0
theorem w_X11_run_b69 (a2 : Int32) (μ : Mem) : pk (p_X11_run_b69 a2 μ) (fun q => Rz μ q.2) := by
  have z0 : Rz μ μ := Rz.rf
  rw [p_X11_run_b69_eq]
  refine pk_ite (fun _ => ?_) (fun _ => ?_)
  · refine pk_bw (w_X2_copyFrom 156 122 μ) (fun μ12 ez1 => ?_)
    have z1 : Rz μ μ12 := z0.tr ez1
    refine pk_bd (w_X1_about 119 a2 μ12) (fun r15 μ14 ez2 => ?_)
    have z2 : Rz μ μ14 := z1.tr ez2
    exact pk_some z2
  · refine pk_bd (w_X1_about 119 a2 μ) (fun r11 μ10 ez3 => ?_)
    have z3 : Rz μ μ10 := z0.tr ez3
    exact pk_some z3
theorem w_X11_run (a1 : Int32) (a2 : Int32) (μ : Mem) : pk (p_X11_run a1 a2 μ) (fun q => Rz μ q.2) := by
  have z0 : Rz μ μ := Rz.rf
  rw [p_X11_run_eq]
  refine pk_ite (fun _ => ?_) (fun _ => ?_)
  · exact pk_some z0
  · refine pk_ite (fun _ => ?_) (fun _ => ?_)
    · exact pk_some z0
    · refine pk_bd (w_X11_canRun a1 μ) (fun r4 μ3 ez1 => ?_)
      have z1 : Rz μ μ3 := z0.tr ez1
      refine pk_ite (fun _ => ?_) (fun _ => ?_)
      · exact pk_some z1
      · refine pk_ite (fun _ => ?_) (fun _ => ?_)
        · refine pk_bw (w_X7_runTask (sel 2 (μ3.2.2 0 4)) (sel 1 (μ3.2.2 0 6)) (sel 1 (μ3.2.2 0 8)) 119 μ3) (fun μ16 ez2 => ?_)
          have z2 : Rz μ μ16 := z1.tr ez2
          exact pk_mono (w_X11_run_b69 a2 μ16) (fun _ hq => z2.tr hq)
        · refine pk_bw (w_X6_runResidue (sel 1 (μ3.2.2 0 8)) 119 μ3) (fun μ7 ez3 => ?_)
          have z3 : Rz μ μ7 := z1.tr ez3
          exact pk_mono (w_X11_run_b69 a2 μ7) (fun _ hq => z3.tr hq)
theorem w_X1_keptCount (a0 : Nat) (μ : Mem) : pk (p_X1_keptCount a0 μ) (fun q => Rz μ q.2) := by
  have z0 : Rz μ μ := Rz.rf
  rw [p_X1_keptCount_eq]
  exact pk_some z0
theorem w_X1_aboutOutput (a0 : Nat) (a1 : Int32) (a2 : Int32) (μ : Mem) : pk (p_X1_aboutOutput a0 a1 a2 μ) (fun q => Rz μ q.2) := by
  have z0 : Rz μ μ := Rz.rf
  rw [p_X1_aboutOutput_eq]
  refine pk_ite (fun _ => ?_) (fun _ => ?_)
  · exact pk_some z0
  · refine pk_bd (w_X1_keptCount a0 μ) (fun r3 μ2 ez1 => ?_)
    have z1 : Rz μ μ2 := z0.tr ez1
    refine pk_ite (fun _ => ?_) (fun _ => ?_)
    · exact pk_some z1
    · refine pk_ite (fun _ => ?_) (fun _ => ?_)
      · exact pk_some z1
      · refine pk_ite (fun _ => ?_) (fun _ => ?_)
        · refine pk_ite (fun _ => ?_) (fun _ => ?_)
          · refine pk_gd (fun _ => ?_)
            exact pk_some z1
          · refine pk_gd (fun _ => ?_)
            exact pk_some z1
        · exact pk_some z1
theorem w_X11_output (a1 : Int32) (a2 : Int32) (μ : Mem) : pk (p_X11_output a1 a2 μ) (fun q => Rz μ q.2) := by
  have z0 : Rz μ μ := Rz.rf
  rw [p_X11_output_eq]
  refine pk_bd (w_X1_aboutOutput 119 a1 a2 μ) (fun r2 μ1 ez1 => ?_)
  have z1 : Rz μ μ1 := z0.tr ez1
  exact pk_some z1
theorem w_X11_place (a1 : Int32) (μ : Mem) : pk (p_X11_place a1 μ) (fun q => Rz μ q.2) := by
  have z0 : Rz μ μ := Rz.rf
  rw [p_X11_place_eq]
  refine pk_bd (w_X1_placeBits 119 a1 μ) (fun r2 μ1 ez1 => ?_)
  have z1 : Rz μ μ1 := z0.tr ez1
  exact pk_some z1
theorem w_X9_add (a1 : Int32) (μ : Mem) : pk (p_X9_add a1 μ) (fun q => Rz μ q) := by
  have z0 : Rz μ μ := Rz.rf
  rw [p_X9_add_eq]
  refine pk_ite (fun _ => ?_) (fun _ => ?_)
  · exact pk_some z0
  · refine pk_gd (fun _ => ?_)
    refine pk_bvy (fun μ2 ez1 => ?_)
    have z1 : Rz μ μ2 := by rw [ez1]; exact z0.sF
    refine pk_bvy (fun μ3 ez2 => ?_)
    have z2 : Rz μ μ3 := by rw [ez2]; exact z1.sF
    exact pk_some z2
theorem w_X9_addInt_b59 : ∀ (n : Nat) (a2 : Int64) (a4 : Int64) (a6 : Int32) (μ : Mem), pk (p_X9_addInt_b59  n a2 a4 a6 μ) (fun q => Rz μ q) := by
  intro n
  induction n with
  | zero => intro a2 a4 a6 μ r e; rw [p_X9_addInt_b59_z] at e; cases e
  | succ n ih =>
    intro a2 a4 a6 μ
    have z0 : Rz μ μ := Rz.rf
    rw [p_X9_addInt_b59_s]
    refine pk_ite (fun _ => ?_) (fun _ => ?_)
    · exact pk_some z0
    · refine pk_ite (fun _ => ?_) (fun _ => ?_)
      · exact pk_some z0
      · refine pk_gd (fun _ => ?_)
        refine pk_bw (w_X9_add ((48 : Int32) + (((a2 / a4) - (a2 / a4) / (10 : Int64) * (10 : Int64)).toInt32)) μ) (fun μ7 ez1 => ?_)
        have z1 : Rz μ μ7 := z0.tr ez1
        refine pk_bvy (fun v9 _ => ?_)
        refine pk_bvy (fun v10 _ => ?_)
        exact pk_mono (ih a2 v9 v10 μ7) (fun _ hq => z1.tr hq)
theorem w_X9_addInt_b56 (a2 : Int64) (a4 : Int64) (μ : Mem) : pk (p_X9_addInt_b56 a2 a4 μ) (fun q => Rz μ q) := by
  have z0 : Rz μ μ := Rz.rf
  rw [p_X9_addInt_b56_eq]
  exact pk_mono (w_X9_addInt_b59 FUEL a2 a4 (0 : Int32) μ) (fun _ hq => z0.tr hq)
theorem w_X9_addInt_b24 : ∀ (n : Nat) (a2 : Int64) (a4 : Int64) (a6 : Int32) (μ : Mem), pk (p_X9_addInt_b24  n a2 a4 a6 μ) (fun q => Rz μ q) := by
  intro n
  induction n with
  | zero => intro a2 a4 a6 μ r e; rw [p_X9_addInt_b24_z] at e; cases e
  | succ n ih =>
    intro a2 a4 a6 μ
    have z0 : Rz μ μ := Rz.rf
    rw [p_X9_addInt_b24_s]
    refine pk_ite (fun _ => ?_) (fun _ => ?_)
    · exact pk_mono (w_X9_addInt_b56 a2 a4 μ) (fun _ hq => z0.tr hq)
    · refine pk_ite (fun _ => ?_) (fun _ => ?_)
      · exact pk_mono (w_X9_addInt_b56 a2 a4 μ) (fun _ hq => z0.tr hq)
      · refine pk_bvy (fun v12 _ => ?_)
        refine pk_bvy (fun v13 _ => ?_)
        exact pk_mono (ih a2 v12 v13 μ) (fun _ hq => z0.tr hq)
theorem w_X9_addInt_b18 (a2 : Int64) (μ : Mem) : pk (p_X9_addInt_b18 a2 μ) (fun q => Rz μ q) := by
  have z0 : Rz μ μ := Rz.rf
  rw [p_X9_addInt_b18_eq]
  exact pk_mono (w_X9_addInt_b24 FUEL a2 (1 : Int64) (0 : Int32) μ) (fun _ hq => z0.tr hq)
theorem w_X9_addInt (a1 : Int32) (μ : Mem) : pk (p_X9_addInt a1 μ) (fun q => Rz μ q) := by
  have z0 : Rz μ μ := Rz.rf
  rw [p_X9_addInt_eq]
  refine pk_bvy (fun v1 _ => ?_)
  refine pk_ite (fun _ => ?_) (fun _ => ?_)
  · exact pk_mono (w_X9_addInt_b18 v1 μ) (fun _ hq => z0.tr hq)
  · refine pk_bw (w_X9_add (45 : Int32) μ) (fun μ14 ez1 => ?_)
    have z1 : Rz μ μ14 := z0.tr ez1
    refine pk_bvy (fun v16 _ => ?_)
    exact pk_mono (w_X9_addInt_b18 v16 μ14) (fun _ hq => z1.tr hq)
theorem w_X9_addSymbol (a1 : Int64) (μ : Mem) : pk (p_X9_addSymbol a1 μ) (fun q => Rz μ q) := by
  have z0 : Rz μ μ := Rz.rf
  rw [p_X9_addSymbol_eq]
  refine pk_bvy (fun v1 _ => ?_)
  refine pk_ite (fun _ => ?_) (fun _ => ?_)
  · refine pk_bw (w_X9_add (42 : Int32) μ) (fun μ15 ez1 => ?_)
    have z1 : Rz μ μ15 := z0.tr ez1
    exact pk_some z1
  · refine pk_ite (fun _ => ?_) (fun _ => ?_)
    · refine pk_bw (w_X9_add (102 : Int32) μ) (fun μ11 ez2 => ?_)
      have z2 : Rz μ μ11 := z0.tr ez2
      refine pk_bw (w_X9_addInt (s_X0_bits a1) μ11) (fun μ13 ez3 => ?_)
      have z3 : Rz μ μ13 := z2.tr ez3
      exact pk_some z3
    · refine pk_ite (fun _ => ?_) (fun _ => ?_)
      · refine pk_bw (w_X9_add (114 : Int32) μ) (fun μ7 ez4 => ?_)
        have z4 : Rz μ μ7 := z0.tr ez4
        refine pk_bw (w_X9_addInt (s_X0_bits a1) μ7) (fun μ9 ez5 => ?_)
        have z5 : Rz μ μ9 := z4.tr ez5
        exact pk_some z5
      · refine pk_bw (w_X9_addInt (s_X0_bits a1) μ) (fun μ5 ez6 => ?_)
        have z6 : Rz μ μ5 := z0.tr ez6
        exact pk_some z6
theorem w_X9_addPart (RE : Nat → Int32 → Int32 → Mem → Option (Int32 × Mem)) (hRE : ∀ (y0 : Nat) (y1 : Int32) (y2 : Int32) (y3 : Mem), pk (RE y0 y1 y2 y3) (fun q => Rz y3 q.2)) (a1 : Nat) (a2 : Int32) (a3 : Int32) (μ : Mem) : pk (p_X9_addPart RE a1 a2 a3 μ) (fun q => Rz μ q.2) := by
  have z0 : Rz μ μ := Rz.rf
  rw [p_X9_addPart_eq]
  refine pk_ite (fun _ => ?_) (fun _ => ?_)
  · exact pk_some z0
  · refine pk_ite (fun _ => ?_) (fun _ => ?_)
    · exact pk_some z0
    · refine pk_ite (fun _ => ?_) (fun _ => ?_)
      · refine pk_gd (fun _ => ?_)
        refine pk_ite (fun _ => ?_) (fun _ => ?_)
        · refine pk_bw (w_X9_add (91 : Int32) μ) (fun μ5 ez1 => ?_)
          have z1 : Rz μ μ5 := z0.tr ez1
          refine pk_bd (hRE a1 (a2 + (1 : Int32)) (a3 + (1 : Int32)) μ5) (fun r8 μ7 ez2 => ?_)
          have z2 : Rz μ μ7 := z1.tr ez2
          refine pk_bw (w_X9_add (44 : Int32) μ7) (fun μ9 ez3 => ?_)
          have z3 : Rz μ μ9 := z2.tr ez3
          refine pk_bd (hRE a1 r8 (a3 + (1 : Int32)) μ9) (fun r12 μ11 ez4 => ?_)
          have z4 : Rz μ μ11 := z3.tr ez4
          refine pk_bw (w_X9_add (93 : Int32) μ11) (fun μ13 ez5 => ?_)
          have z5 : Rz μ μ13 := z4.tr ez5
          exact pk_some z5
        · refine pk_gd (fun _ => ?_)
          refine pk_bw (w_X9_addSymbol (μ.2.1 (a1 + 1) a2.toNatClampNeg) μ) (fun μ15 ez6 => ?_)
          have z6 : Rz μ μ15 := z0.tr ez6
          exact pk_some z6
      · exact pk_some z0
theorem wr_X9_addPart : ∀ (n : Nat) (a1 : Nat) (a2 : Int32) (a3 : Int32) (μ : Mem), pk (pr_X9_addPart n a1 a2 a3 μ) (fun q => Rz μ q.2) := by
  intro n
  induction n with
  | zero => intro a1 a2 a3 μ r e; rw [pr_X9_addPart_z] at e; cases e
  | succ n ih =>
    intro a1 a2 a3 μ
    rw [pr_X9_addPart_s]
    exact w_X9_addPart _ ih a1 a2 a3 μ
theorem w_X9_writeValue (a1 : Nat) (μ : Mem) : pk (p_X9_writeValue a1 μ) (fun q => Rz μ q.2) := by
  have z0 : Rz μ μ := Rz.rf
  rw [p_X9_writeValue_eq]
  refine pk_bvy (fun μ1 ez1 => ?_)
  have z1 : Rz μ μ1 := by rw [ez1]; exact z0.sF
  refine pk_bd (wr_X9_addPart 50 a1 (0 : Int32) (0 : Int32) μ1) (fun r3 μ2 ez2 => ?_)
  have z2 : Rz μ μ2 := z1.tr ez2
  exact pk_some z2
theorem w_X11_value (μ : Mem) : pk (p_X11_value μ) (fun q => Rz μ q.2) := by
  have z0 : Rz μ μ := Rz.rf
  rw [p_X11_value_eq]
  refine pk_ite (fun _ => ?_) (fun _ => ?_)
  · exact pk_some z0
  · refine pk_bd (w_X9_writeValue 156 μ) (fun r3 μ2 ez1 => ?_)
    have z1 : Rz μ μ2 := z0.tr ez1
    exact pk_some z1
theorem w_X9_addPatterns_b40 (K22 : Nat → Int32 → Mem → Option Mem) (hK22 : ∀ (y0 : Nat) (y1 : Int32) (y2 : Mem), pk (K22 y0 y1 y2) (fun q => Rz y2 q)) (a1 : Nat) (a2 : Int32) (μ : Mem) : pk (p_X9_addPatterns_b40 K22 a1 a2 μ) (fun q => Rz μ q) := by
  have z0 : Rz μ μ := Rz.rf
  rw [p_X9_addPatterns_b40_eq]
  refine pk_bd (wr_X9_addPart 50 a1 a2 (0 : Int32) μ) (fun r10 μ9 ez1 => ?_)
  have z1 : Rz μ μ9 := z0.tr ez1
  refine pk_bvy (fun v11 _ => ?_)
  exact pk_mono (hK22 a1 v11 μ9) (fun _ hq => z1.tr hq)
theorem w_X9_addPatterns_b22 : ∀ (n : Nat) (a1 : Nat) (a2 : Int32) (μ : Mem), pk (p_X9_addPatterns_b22  n a1 a2 μ) (fun q => Rz μ q) := by
  intro n
  induction n with
  | zero => intro a1 a2 μ r e; rw [p_X9_addPatterns_b22_z] at e; cases e
  | succ n ih =>
    intro a1 a2 μ
    have z0 : Rz μ μ := Rz.rf
    rw [p_X9_addPatterns_b22_s]
    refine pk_ite (fun _ => ?_) (fun _ => ?_)
    · refine pk_bw (w_X9_add (41 : Int32) μ) (fun μ6 ez1 => ?_)
      have z1 : Rz μ μ6 := z0.tr ez1
      exact pk_some z1
    · refine pk_ite (fun _ => ?_) (fun _ => ?_)
      · exact pk_mono (w_X9_addPatterns_b40 (p_X9_addPatterns_b22  n) ih a1 a2 μ) (fun _ hq => z0.tr hq)
      · refine pk_bw (w_X9_add (44 : Int32) μ) (fun μ12 ez2 => ?_)
        have z2 : Rz μ μ12 := z0.tr ez2
        exact pk_mono (w_X9_addPatterns_b40 (p_X9_addPatterns_b22  n) ih a1 a2 μ12) (fun _ hq => z2.tr hq)
theorem w_X9_addPatterns (a1 : Nat) (μ : Mem) : pk (p_X9_addPatterns a1 μ) (fun q => Rz μ q) := by
  have z0 : Rz μ μ := Rz.rf
  rw [p_X9_addPatterns_eq]
  refine pk_bw (w_X9_add ((97 : Int32) + ((μ.1 a1 3) / (6 : Int32))) μ) (fun μ1 ez1 => ?_)
  have z1 : Rz μ μ1 := z0.tr ez1
  refine pk_bw (w_X9_add (40 : Int32) μ1) (fun μ3 ez2 => ?_)
  have z2 : Rz μ μ3 := z1.tr ez2
  exact pk_mono (w_X9_addPatterns_b22 FUEL a1 (0 : Int32) μ3) (fun _ hq => z2.tr hq)
theorem w_X9_addTwo (a2 : Int32) (a3 : Int32) (a4 : Int32) (a5 : Int32) (μ : Mem) : pk (p_X9_addTwo a2 a3 a4 a5 μ) (fun q => Rz μ q) := by
  have z0 : Rz μ μ := Rz.rf
  rw [p_X9_addTwo_eq]
  refine pk_bw (w_X9_add a3 μ) (fun μ1 ez1 => ?_)
  have z1 : Rz μ μ1 := z0.tr ez1
  refine pk_bd (w_X5_operand a2 (0 : Int32) μ1) (fun r4 μ3 ez2 => ?_)
  have z2 : Rz μ μ3 := z1.tr ez2
  refine pk_bw (w_X9_addSymbol r4 μ3) (fun μ5 ez3 => ?_)
  have z3 : Rz μ μ5 := z2.tr ez3
  refine pk_bw (w_X9_add a4 μ5) (fun μ7 ez4 => ?_)
  have z4 : Rz μ μ7 := z3.tr ez4
  refine pk_bd (w_X5_operand a2 (1 : Int32) μ7) (fun r10 μ9 ez5 => ?_)
  have z5 : Rz μ μ9 := z4.tr ez5
  refine pk_bw (w_X9_addSymbol r10 μ9) (fun μ11 ez6 => ?_)
  have z6 : Rz μ μ11 := z5.tr ez6
  refine pk_bw (w_X9_add a5 μ11) (fun μ13 ez7 => ?_)
  have z7 : Rz μ μ13 := z6.tr ez7
  exact pk_some z7
theorem w_X9_addChoice (RE : Int32 → Int32 → Mem → Option Mem) (hRE : ∀ (y0 : Int32) (y1 : Int32) (y2 : Mem), pk (RE y0 y1 y2) (fun q => Rz y2 q)) (a2 : Int32) (a3 : Int32) (μ : Mem) : pk (p_X9_addChoice RE a2 a3 μ) (fun q => Rz μ q) := by
  have z0 : Rz μ μ := Rz.rf
  rw [p_X9_addChoice_eq]
  refine pk_bw (w_X9_add (63 : Int32) μ) (fun μ1 ez1 => ?_)
  have z1 : Rz μ μ1 := z0.tr ez1
  refine pk_bd (w_X5_operand a2 (0 : Int32) μ1) (fun r4 μ3 ez2 => ?_)
  have z2 : Rz μ μ3 := z1.tr ez2
  refine pk_bw (w_X9_addSymbol r4 μ3) (fun μ5 ez3 => ?_)
  have z3 : Rz μ μ5 := z2.tr ez3
  refine pk_bw (w_X9_add (123 : Int32) μ5) (fun μ7 ez4 => ?_)
  have z4 : Rz μ μ7 := z3.tr ez4
  refine pk_bd (w_X5_cell a2 (3 : Int32) μ7) (fun r10 μ9 ez5 => ?_)
  have z5 : Rz μ μ9 := z4.tr ez5
  refine pk_bw (hRE r10 (a3 + (1 : Int32)) μ9) (fun μ11 ez6 => ?_)
  have z6 : Rz μ μ11 := z5.tr ez6
  refine pk_bw (w_X9_add (125 : Int32) μ11) (fun μ13 ez7 => ?_)
  have z7 : Rz μ μ13 := z6.tr ez7
  refine pk_bw (w_X9_add (123 : Int32) μ13) (fun μ15 ez8 => ?_)
  have z8 : Rz μ μ15 := z7.tr ez8
  refine pk_bd (w_X5_cell a2 (4 : Int32) μ15) (fun r18 μ17 ez9 => ?_)
  have z9 : Rz μ μ17 := z8.tr ez9
  refine pk_bw (hRE r18 (a3 + (1 : Int32)) μ17) (fun μ19 ez10 => ?_)
  have z10 : Rz μ μ19 := z9.tr ez10
  refine pk_bw (w_X9_add (125 : Int32) μ19) (fun μ21 ez11 => ?_)
  have z11 : Rz μ μ21 := z10.tr ez11
  exact pk_some z11
theorem w_X9_addCall_b50 (K33 : Int32 → Int32 → Int32 → Mem → Option Mem) (hK33 : ∀ (y0 : Int32) (y1 : Int32) (y2 : Int32) (y3 : Mem), pk (K33 y0 y1 y2 y3) (fun q => Rz y3 q)) (a2 : Int32) (a3 : Int32) (a4 : Int32) (μ : Mem) : pk (p_X9_addCall_b50 K33 a2 a3 a4 μ) (fun q => Rz μ q) := by
  have z0 : Rz μ μ := Rz.rf
  rw [p_X9_addCall_b50_eq]
  refine pk_bd (w_X5_operand a2 ((2 : Int32) + a4) μ) (fun r16 μ15 ez1 => ?_)
  have z1 : Rz μ μ15 := z0.tr ez1
  refine pk_bw (w_X9_addSymbol r16 μ15) (fun μ17 ez2 => ?_)
  have z2 : Rz μ μ17 := z1.tr ez2
  refine pk_bvy (fun v19 _ => ?_)
  exact pk_mono (hK33 a2 a3 v19 μ17) (fun _ hq => z2.tr hq)
theorem w_X9_addCall_b33 : ∀ (n : Nat) (a2 : Int32) (a3 : Int32) (a4 : Int32) (μ : Mem), pk (p_X9_addCall_b33  n a2 a3 a4 μ) (fun q => Rz μ q) := by
  intro n
  induction n with
  | zero => intro a2 a3 a4 μ r e; rw [p_X9_addCall_b33_z] at e; cases e
  | succ n ih =>
    intro a2 a3 a4 μ
    have z0 : Rz μ μ := Rz.rf
    rw [p_X9_addCall_b33_s]
    refine pk_ite (fun _ => ?_) (fun _ => ?_)
    · refine pk_bw (w_X9_add (41 : Int32) μ) (fun μ12 ez1 => ?_)
      have z1 : Rz μ μ12 := z0.tr ez1
      exact pk_some z1
    · refine pk_ite (fun _ => ?_) (fun _ => ?_)
      · exact pk_mono (w_X9_addCall_b50 (p_X9_addCall_b33  n) ih a2 a3 a4 μ) (fun _ hq => z0.tr hq)
      · refine pk_bw (w_X9_add (44 : Int32) μ) (fun μ20 ez2 => ?_)
        have z2 : Rz μ μ20 := z0.tr ez2
        exact pk_mono (w_X9_addCall_b50 (p_X9_addCall_b33  n) ih a2 a3 a4 μ20) (fun _ hq => z2.tr hq)
theorem w_X9_addCall (a2 : Int32) (μ : Mem) : pk (p_X9_addCall a2 μ) (fun q => Rz μ q) := by
  have z0 : Rz μ μ := Rz.rf
  rw [p_X9_addCall_eq]
  refine pk_bw (w_X9_add (99 : Int32) μ) (fun μ1 ez1 => ?_)
  have z1 : Rz μ μ1 := z0.tr ez1
  refine pk_bd (w_X5_cell a2 (2 : Int32) μ1) (fun r4 μ3 ez2 => ?_)
  have z2 : Rz μ μ3 := z1.tr ez2
  refine pk_bw (w_X9_addInt r4 μ3) (fun μ5 ez3 => ?_)
  have z3 : Rz μ μ5 := z2.tr ez3
  refine pk_bw (w_X9_add (40 : Int32) μ5) (fun μ7 ez4 => ?_)
  have z4 : Rz μ μ7 := z3.tr ez4
  refine pk_bd (w_X5_cell a2 (7 : Int32) μ7) (fun r10 μ9 ez5 => ?_)
  have z5 : Rz μ μ9 := z4.tr ez5
  exact pk_mono (w_X9_addCall_b33 FUEL a2 r10 (0 : Int32) μ9) (fun _ hq => z5.tr hq)
theorem w_X9_addInstruction_b242 (RE : Int32 → Int32 → Mem → Option Mem) (hRE : ∀ (y0 : Int32) (y1 : Int32) (y2 : Mem), pk (RE y0 y1 y2) (fun q => Rz y2 q)) (a2 : Int32) (k0 : Int32) (μ : Mem) : pk (p_X9_addInstruction_b242 RE a2 k0 μ) (fun q => Rz μ q) := by
  have z0 : Rz μ μ := Rz.rf
  rw [p_X9_addInstruction_b242_eq]
  refine pk_bw (w_X9_add k0 μ) (fun μ12 ez1 => ?_)
  have z1 : Rz μ μ12 := z0.tr ez1
  refine pk_bd (w_X5_operand a2 (0 : Int32) μ12) (fun r15 μ14 ez2 => ?_)
  have z2 : Rz μ μ14 := z1.tr ez2
  refine pk_bw (w_X9_addSymbol r15 μ14) (fun μ16 ez3 => ?_)
  have z3 : Rz μ μ16 := z2.tr ez3
  exact pk_some z3
theorem w_X9_addInstruction_b240 (RE : Int32 → Int32 → Mem → Option Mem) (hRE : ∀ (y0 : Int32) (y1 : Int32) (y2 : Mem), pk (RE y0 y1 y2) (fun q => Rz y2 q)) (a2 : Int32) (μ : Mem) : pk (p_X9_addInstruction_b240 RE a2 μ) (fun q => Rz μ q) := by
  have z0 : Rz μ μ := Rz.rf
  rw [p_X9_addInstruction_b240_eq]
  exact pk_mono (w_X9_addInstruction_b242 RE hRE a2 (32 : Int32) μ) (fun _ hq => z0.tr hq)
theorem w_X9_addInstruction_b35 (RE : Int32 → Int32 → Mem → Option Mem) (hRE : ∀ (y0 : Int32) (y1 : Int32) (y2 : Mem), pk (RE y0 y1 y2) (fun q => Rz y2 q)) (a2 : Int32) (a3 : Int32) (a4 : Int32) (μ : Mem) : pk (p_X9_addInstruction_b35 RE a2 a3 a4 μ) (fun q => Rz μ q) := by
  have z0 : Rz μ μ := Rz.rf
  rw [p_X9_addInstruction_b35_eq]
  refine pk_ite (fun _ => ?_) (fun _ => ?_)
  · refine pk_bd (w_X5_cell a2 (2 : Int32) μ) (fun r7 μ6 ez1 => ?_)
    have z1 : Rz μ μ6 := z0.tr ez1
    refine pk_bw (w_X9_addTwo a2 (40 : Int32) r7 (41 : Int32) μ6) (fun μ8 ez2 => ?_)
    have z2 : Rz μ μ8 := z1.tr ez2
    exact pk_some z2
  · refine pk_ite (fun _ => ?_) (fun _ => ?_)
    · refine pk_ite (fun _ => ?_) (fun _ => ?_)
      · exact pk_mono (w_X9_addInstruction_b240 RE hRE a2 μ) (fun _ hq => z0.tr hq)
      · refine pk_ite (fun _ => ?_) (fun _ => ?_)
        · exact pk_mono (w_X9_addInstruction_b240 RE hRE a2 μ) (fun _ hq => z0.tr hq)
        · refine pk_gd (fun _ => ?_)
          exact pk_mono (w_X9_addInstruction_b242 RE hRE a2 (sgc a4) μ) (fun _ hq => z0.tr hq)
    · refine pk_ite (fun _ => ?_) (fun _ => ?_)
      · refine pk_ite (fun _ => ?_) (fun _ => ?_)
        · exact pk_mono (w_X9_addInstruction_b240 RE hRE a2 μ) (fun _ hq => z0.tr hq)
        · refine pk_ite (fun _ => ?_) (fun _ => ?_)
          · exact pk_mono (w_X9_addInstruction_b240 RE hRE a2 μ) (fun _ hq => z0.tr hq)
          · refine pk_gd (fun _ => ?_)
            exact pk_mono (w_X9_addInstruction_b242 RE hRE a2 (sgc a4) μ) (fun _ hq => z0.tr hq)
      · refine pk_ite (fun _ => ?_) (fun _ => ?_)
        · refine pk_ite (fun _ => ?_) (fun _ => ?_)
          · exact pk_mono (w_X9_addInstruction_b240 RE hRE a2 μ) (fun _ hq => z0.tr hq)
          · refine pk_ite (fun _ => ?_) (fun _ => ?_)
            · exact pk_mono (w_X9_addInstruction_b240 RE hRE a2 μ) (fun _ hq => z0.tr hq)
            · refine pk_gd (fun _ => ?_)
              exact pk_mono (w_X9_addInstruction_b242 RE hRE a2 (sgc a4) μ) (fun _ hq => z0.tr hq)
        · refine pk_ite (fun _ => ?_) (fun _ => ?_)
          · refine pk_ite (fun _ => ?_) (fun _ => ?_)
            · exact pk_mono (w_X9_addInstruction_b240 RE hRE a2 μ) (fun _ hq => z0.tr hq)
            · refine pk_ite (fun _ => ?_) (fun _ => ?_)
              · exact pk_mono (w_X9_addInstruction_b240 RE hRE a2 μ) (fun _ hq => z0.tr hq)
              · refine pk_gd (fun _ => ?_)
                exact pk_mono (w_X9_addInstruction_b242 RE hRE a2 (sgc a4) μ) (fun _ hq => z0.tr hq)
          · refine pk_ite (fun _ => ?_) (fun _ => ?_)
            · refine pk_ite (fun _ => ?_) (fun _ => ?_)
              · exact pk_mono (w_X9_addInstruction_b240 RE hRE a2 μ) (fun _ hq => z0.tr hq)
              · refine pk_ite (fun _ => ?_) (fun _ => ?_)
                · exact pk_mono (w_X9_addInstruction_b240 RE hRE a2 μ) (fun _ hq => z0.tr hq)
                · refine pk_gd (fun _ => ?_)
                  exact pk_mono (w_X9_addInstruction_b242 RE hRE a2 (sgc a4) μ) (fun _ hq => z0.tr hq)
            · refine pk_ite (fun _ => ?_) (fun _ => ?_)
              · refine pk_bw (w_X9_addChoice RE hRE a2 a3 μ) (fun μ37 ez3 => ?_)
                have z3 : Rz μ μ37 := z0.tr ez3
                exact pk_some z3
              · refine pk_ite (fun _ => ?_) (fun _ => ?_)
                · refine pk_ite (fun _ => ?_) (fun _ => ?_)
                  · exact pk_mono (w_X9_addInstruction_b240 RE hRE a2 μ) (fun _ hq => z0.tr hq)
                  · refine pk_ite (fun _ => ?_) (fun _ => ?_)
                    · exact pk_mono (w_X9_addInstruction_b240 RE hRE a2 μ) (fun _ hq => z0.tr hq)
                    · refine pk_gd (fun _ => ?_)
                      exact pk_mono (w_X9_addInstruction_b242 RE hRE a2 (sgc a4) μ) (fun _ hq => z0.tr hq)
                · refine pk_ite (fun _ => ?_) (fun _ => ?_)
                  · refine pk_bw (w_X9_add (38 : Int32) μ) (fun μ44 ez4 => ?_)
                    have z4 : Rz μ μ44 := z0.tr ez4
                    refine pk_bd (w_X5_cell a2 (2 : Int32) μ44) (fun r47 μ46 ez5 => ?_)
                    have z5 : Rz μ μ46 := z4.tr ez5
                    refine pk_bw (w_X9_addInt r47 μ46) (fun μ48 ez6 => ?_)
                    have z6 : Rz μ μ48 := z5.tr ez6
                    refine pk_bd (w_X5_operand a2 (0 : Int32) μ48) (fun r51 μ50 ez7 => ?_)
                    have z7 : Rz μ μ50 := z6.tr ez7
                    refine pk_bw (w_X9_addSymbol r51 μ50) (fun μ52 ez8 => ?_)
                    have z8 : Rz μ μ52 := z7.tr ez8
                    exact pk_some z8
                  · refine pk_ite (fun _ => ?_) (fun _ => ?_)
                    · refine pk_bw (w_X9_add (95 : Int32) μ) (fun μ55 ez9 => ?_)
                      have z9 : Rz μ μ55 := z0.tr ez9
                      refine pk_bd (w_X5_cell a2 (2 : Int32) μ55) (fun r58 μ57 ez10 => ?_)
                      have z10 : Rz μ μ57 := z9.tr ez10
                      refine pk_bw (w_X9_addInt r58 μ57) (fun μ59 ez11 => ?_)
                      have z11 : Rz μ μ59 := z10.tr ez11
                      exact pk_some z11
                    · refine pk_ite (fun _ => ?_) (fun _ => ?_)
                      · refine pk_bw (w_X9_addTwo a2 (91 : Int32) (44 : Int32) (93 : Int32) μ) (fun μ62 ez12 => ?_)
                        have z12 : Rz μ μ62 := z0.tr ez12
                        exact pk_some z12
                      · refine pk_ite (fun _ => ?_) (fun _ => ?_)
                        · refine pk_bw (w_X9_addCall a2 μ) (fun μ65 ez13 => ?_)
                          have z13 : Rz μ μ65 := z0.tr ez13
                          exact pk_some z13
                        · refine pk_ite (fun _ => ?_) (fun _ => ?_)
                          · refine pk_bw (w_X9_add (45 : Int32) μ) (fun μ68 ez14 => ?_)
                            have z14 : Rz μ μ68 := z0.tr ez14
                            exact pk_some z14
                          · refine pk_ite (fun _ => ?_) (fun _ => ?_)
                            · exact pk_mono (w_X9_addInstruction_b240 RE hRE a2 μ) (fun _ hq => z0.tr hq)
                            · refine pk_ite (fun _ => ?_) (fun _ => ?_)
                              · exact pk_mono (w_X9_addInstruction_b240 RE hRE a2 μ) (fun _ hq => z0.tr hq)
                              · refine pk_gd (fun _ => ?_)
                                exact pk_mono (w_X9_addInstruction_b242 RE hRE a2 (sgc a4) μ) (fun _ hq => z0.tr hq)
theorem w_X9_addInstruction (RE : Int32 → Int32 → Mem → Option Mem) (hRE : ∀ (y0 : Int32) (y1 : Int32) (y2 : Mem), pk (RE y0 y1 y2) (fun q => Rz y2 q)) (a2 : Int32) (a3 : Int32) (μ : Mem) : pk (p_X9_addInstruction RE a2 a3 μ) (fun q => Rz μ q) := by
  have z0 : Rz μ μ := Rz.rf
  rw [p_X9_addInstruction_eq]
  refine pk_bd (w_X5_cell a2 (0 : Int32) μ) (fun r2 μ1 ez1 => ?_)
  have z1 : Rz μ μ1 := z0.tr ez1
  refine pk_ite (fun _ => ?_) (fun _ => ?_)
  · exact pk_mono (w_X9_addInstruction_b35 RE hRE a2 a3 r2 μ1) (fun _ hq => z1.tr hq)
  · refine pk_bd (w_X5_cell a2 (1 : Int32) μ1) (fun r74 μ73 ez2 => ?_)
    have z2 : Rz μ μ73 := z1.tr ez2
    refine pk_bw (w_X9_addSymbol (s_X0_make (3 : Int32) r74) μ73) (fun μ75 ez3 => ?_)
    have z3 : Rz μ μ75 := z2.tr ez3
    refine pk_bw (w_X9_add (61 : Int32) μ75) (fun μ77 ez4 => ?_)
    have z4 : Rz μ μ77 := z3.tr ez4
    exact pk_mono (w_X9_addInstruction_b35 RE hRE a2 a3 r2 μ77) (fun _ hq => z4.tr hq)
theorem w_X9_addBlock_b10 (RE : Int32 → Int32 → Mem → Option Mem) (hRE : ∀ (y0 : Int32) (y1 : Int32) (y2 : Mem), pk (RE y0 y1 y2) (fun q => Rz y2 q)) : ∀ (n : Nat) (a2 : Int32) (a3 : Int32) (a4 : Int32) (a5 : Int32) (μ : Mem), pk (p_X9_addBlock_b10 RE n a2 a3 a4 a5 μ) (fun q => Rz μ q) := by
  intro n
  induction n with
  | zero => intro a2 a3 a4 a5 μ r e; rw [p_X9_addBlock_b10_z] at e; cases e
  | succ n ih =>
    intro a2 a3 a4 a5 μ
    have z0 : Rz μ μ := Rz.rf
    rw [p_X9_addBlock_b10_s]
    refine pk_ite (fun _ => ?_) (fun _ => ?_)
    · refine pk_bd (w_X5_endOf a2 μ) (fun r5 μ4 ez1 => ?_)
      have z1 : Rz μ μ4 := z0.tr ez1
      refine pk_bw (w_X9_addSymbol r5 μ4) (fun μ6 ez2 => ?_)
      have z2 : Rz μ μ6 := z1.tr ez2
      exact pk_some z2
    · refine pk_ite (fun _ => ?_) (fun _ => ?_)
      · refine pk_bd (w_X5_endOf a2 μ) (fun r10 μ9 ez3 => ?_)
        have z3 : Rz μ μ9 := z0.tr ez3
        refine pk_bw (w_X9_addSymbol r10 μ9) (fun μ11 ez4 => ?_)
        have z4 : Rz μ μ11 := z3.tr ez4
        exact pk_some z4
      · refine pk_ite (fun _ => ?_) (fun _ => ?_)
        · refine pk_bd (w_X5_endOf a2 μ) (fun r15 μ14 ez5 => ?_)
          have z5 : Rz μ μ14 := z0.tr ez5
          refine pk_bw (w_X9_addSymbol r15 μ14) (fun μ16 ez6 => ?_)
          have z6 : Rz μ μ16 := z5.tr ez6
          exact pk_some z6
        · refine pk_bw (w_X9_addInstruction RE hRE a4 a3 μ) (fun μ18 ez7 => ?_)
          have z7 : Rz μ μ18 := z0.tr ez7
          refine pk_bw (w_X9_add (59 : Int32) μ18) (fun μ20 ez8 => ?_)
          have z8 : Rz μ μ20 := z7.tr ez8
          refine pk_bd (w_X5_cell a4 (5 : Int32) μ20) (fun r23 μ22 ez9 => ?_)
          have z9 : Rz μ μ22 := z8.tr ez9
          refine pk_bvy (fun v24 _ => ?_)
          exact pk_mono (ih a2 a3 r23 v24 μ22) (fun _ hq => z9.tr hq)
theorem w_X9_addBlock (RE : Int32 → Int32 → Mem → Option Mem) (hRE : ∀ (y0 : Int32) (y1 : Int32) (y2 : Mem), pk (RE y0 y1 y2) (fun q => Rz y2 q)) (a2 : Int32) (a3 : Int32) (μ : Mem) : pk (p_X9_addBlock RE a2 a3 μ) (fun q => Rz μ q) := by
  have z0 : Rz μ μ := Rz.rf
  rw [p_X9_addBlock_eq]
  refine pk_bd (w_X5_firstOf a2 μ) (fun r2 μ1 ez1 => ?_)
  have z1 : Rz μ μ1 := z0.tr ez1
  exact pk_mono (w_X9_addBlock_b10 RE hRE FUEL a2 a3 r2 (0 : Int32) μ1) (fun _ hq => z1.tr hq)
theorem wr_X9_addBlock : ∀ (n : Nat) (a2 : Int32) (a3 : Int32) (μ : Mem), pk (pr_X9_addBlock n a2 a3 μ) (fun q => Rz μ q) := by
  intro n
  induction n with
  | zero => intro a2 a3 μ r e; rw [pr_X9_addBlock_z] at e; cases e
  | succ n ih =>
    intro a2 a3 μ
    rw [pr_X9_addBlock_s]
    exact w_X9_addBlock _ ih a2 a3 μ
theorem w_X9_writeVariant (a2 : Int32) (μ : Mem) : pk (p_X9_writeVariant a2 μ) (fun q => Rz μ q.2) := by
  have z0 : Rz μ μ := Rz.rf
  rw [p_X9_writeVariant_eq]
  refine pk_bvy (fun μ1 ez1 => ?_)
  have z1 : Rz μ μ1 := by rw [ez1]; exact z0.sF
  refine pk_bd (w_X5_patternOf a2 μ1) (fun r3 μ2 ez2 => ?_)
  have z2 : Rz μ μ2 := z1.tr ez2
  refine pk_bw (w_X9_addPatterns r3 μ2) (fun μ4 ez3 => ?_)
  have z3 : Rz μ μ4 := z2.tr ez3
  refine pk_bw (w_X9_add (61 : Int32) μ4) (fun μ6 ez4 => ?_)
  have z4 : Rz μ μ6 := z3.tr ez4
  refine pk_bd (w_X5_ofVariant a2 (3 : Int32) μ6) (fun r9 μ8 ez5 => ?_)
  have z5 : Rz μ μ8 := z4.tr ez5
  refine pk_bw (wr_X9_addBlock 50 r9 (0 : Int32) μ8) (fun μ10 ez6 => ?_)
  have z6 : Rz μ μ10 := z5.tr ez6
  refine pk_bw (w_X9_add (59 : Int32) μ10) (fun μ12 ez7 => ?_)
  have z7 : Rz μ μ12 := z6.tr ez7
  exact pk_some z7
theorem w_X11_write (a1 : Int32) (μ : Mem) : pk (p_X11_write a1 μ) (fun q => Rz μ q.2) := by
  have z0 : Rz μ μ := Rz.rf
  rw [p_X11_write_eq]
  refine pk_bd (w_X5_hasVariant a1 μ) (fun r2 μ1 ez1 => ?_)
  have z1 : Rz μ μ1 := z0.tr ez1
  refine pk_ite (fun _ => ?_) (fun _ => ?_)
  · exact pk_some z1
  · refine pk_bd (w_X9_writeVariant a1 μ1) (fun r5 μ4 ez2 => ?_)
    have z2 : Rz μ μ4 := z1.tr ez2
    exact pk_some z2
theorem w_X9_byteAt (a1 : Int32) (μ : Mem) : pk (p_X9_byteAt a1 μ) (fun q => Rz μ q.2) := by
  have z0 : Rz μ μ := Rz.rf
  rw [p_X9_byteAt_eq]
  refine pk_ite (fun _ => ?_) (fun _ => ?_)
  · exact pk_some z0
  · refine pk_ite (fun _ => ?_) (fun _ => ?_)
    · exact pk_some z0
    · refine pk_gd (fun _ => ?_)
      exact pk_some z0
theorem w_X11_octet (a1 : Int32) (μ : Mem) : pk (p_X11_octet a1 μ) (fun q => Rz μ q.2) := by
  have z0 : Rz μ μ := Rz.rf
  rw [p_X11_octet_eq]
  refine pk_bd (w_X9_byteAt a1 μ) (fun r2 μ1 ez1 => ?_)
  have z1 : Rz μ μ1 := z0.tr ez1
  exact pk_some z1
theorem w_X11_runBoth (μ : Mem) : pk (p_X11_runBoth μ) (fun q => Rz μ q.2) := by
  have z0 : Rz μ μ := Rz.rf
  rw [p_X11_runBoth_eq]
  refine pk_bd (w_X11_canRun (0 : Int32) μ) (fun r2 μ1 ez1 => ?_)
  have z1 : Rz μ μ1 := z0.tr ez1
  refine pk_ite (fun _ => ?_) (fun _ => ?_)
  · exact pk_some z1
  · refine pk_bd (w_X11_canRun (1 : Int32) μ1) (fun r5 μ4 ez2 => ?_)
    have z2 : Rz μ μ4 := z1.tr ez2
    refine pk_ite (fun _ => ?_) (fun _ => ?_)
    · exact pk_some z2
    · refine pk_bw (w_X7_runTask (sel 2 (μ4.2.2 0 4)) (sel 1 (μ4.2.2 0 6)) (sel 1 (μ4.2.2 0 8)) 125 μ4) (fun μ7 ez3 => ?_)
      have z3 : Rz μ μ7 := z2.tr ez3
      refine pk_bw (w_X6_runResidue (sel 1 (μ7.2.2 0 8)) 131 μ7) (fun μ9 ez4 => ?_)
      have z4 : Rz μ μ9 := z3.tr ez4
      exact pk_some z4
theorem w_X1_isLike_b74 : ∀ (n : Nat) (a0 : Nat) (a1 : Nat) (a2 : Int32) (μ : Mem), pk (p_X1_isLike_b74  n a0 a1 a2 μ) (fun q => Rz μ q.2) := by
  intro n
  induction n with
  | zero => intro a0 a1 a2 μ r e; rw [p_X1_isLike_b74_z] at e; cases e
  | succ n ih =>
    intro a0 a1 a2 μ
    have z0 : Rz μ μ := Rz.rf
    rw [p_X1_isLike_b74_s]
    refine pk_ite (fun _ => ?_) (fun _ => ?_)
    · exact pk_some z0
    · refine pk_gd (fun _ => ?_)
      refine pk_gd (fun _ => ?_)
      refine pk_ite (fun _ => ?_) (fun _ => ?_)
      · refine pk_bvy (fun v15 _ => ?_)
        exact pk_mono (ih a0 a1 v15 μ) (fun _ hq => z0.tr hq)
      · exact pk_some z0
theorem w_X1_isLike_b40 : ∀ (n : Nat) (a0 : Nat) (a1 : Nat) (a2 : Int32) (μ : Mem), pk (p_X1_isLike_b40  n a0 a1 a2 μ) (fun q => Rz μ q.2) := by
  intro n
  induction n with
  | zero => intro a0 a1 a2 μ r e; rw [p_X1_isLike_b40_z] at e; cases e
  | succ n ih =>
    intro a0 a1 a2 μ
    have z0 : Rz μ μ := Rz.rf
    rw [p_X1_isLike_b40_s]
    refine pk_bd (w_X1_keptCount a0 μ) (fun r11 μ10 ez1 => ?_)
    have z1 : Rz μ μ10 := z0.tr ez1
    refine pk_ite (fun _ => ?_) (fun _ => ?_)
    · exact pk_mono (w_X1_isLike_b74 FUEL a0 a1 (0 : Int32) μ10) (fun _ hq => z1.tr hq)
    · refine pk_gd (fun _ => ?_)
      refine pk_gd (fun _ => ?_)
      refine pk_ite (fun _ => ?_) (fun _ => ?_)
      · refine pk_bvy (fun v17 _ => ?_)
        exact pk_mono (ih a0 a1 v17 μ10) (fun _ hq => z1.tr hq)
      · exact pk_some z1
theorem w_X1_isLike (a0 : Nat) (a1 : Nat) (μ : Mem) : pk (p_X1_isLike a0 a1 μ) (fun q => Rz μ q.2) := by
  have z0 : Rz μ μ := Rz.rf
  rw [p_X1_isLike_eq]
  refine pk_ite (fun _ => ?_) (fun _ => ?_)
  · refine pk_bd (w_X2_isSame (a0 + 3) (a1 + 3) μ) (fun r3 μ2 ez1 => ?_)
    have z1 : Rz μ μ2 := z0.tr ez1
    refine pk_ite (fun _ => ?_) (fun _ => ?_)
    · exact pk_some z1
    · refine pk_bd (w_X1_keptCount a0 μ2) (fun r6 μ5 ez2 => ?_)
      have z2 : Rz μ μ5 := z1.tr ez2
      refine pk_bd (w_X1_keptCount a1 μ5) (fun r8 μ7 ez3 => ?_)
      have z3 : Rz μ μ7 := z2.tr ez3
      refine pk_ite (fun _ => ?_) (fun _ => ?_)
      · exact pk_mono (w_X1_isLike_b40 FUEL a0 a1 (0 : Int32) μ7) (fun _ hq => z3.tr hq)
      · exact pk_some z3
  · exact pk_some z0
theorem w_X11_agree (μ : Mem) : pk (p_X11_agree μ) (fun q => Rz μ q.2) := by
  have z0 : Rz μ μ := Rz.rf
  rw [p_X11_agree_eq]
  refine pk_bd (w_X11_runBoth μ) (fun r2 μ1 ez1 => ?_)
  have z1 : Rz μ μ1 := z0.tr ez1
  refine pk_ite (fun _ => ?_) (fun _ => ?_)
  · exact pk_some z1
  · refine pk_bd (w_X1_isLike 125 131 μ1) (fun r5 μ4 ez2 => ?_)
    have z2 : Rz μ μ4 := z1.tr ez2
    refine pk_ite (fun _ => ?_) (fun _ => ?_)
    · exact pk_some z2
    · exact pk_some z2
theorem w_X11_saved (μ : Mem) : pk (p_X11_saved μ) (fun q => Rz μ q.2) := by
  have z0 : Rz μ μ := Rz.rf
  rw [p_X11_saved_eq]
  refine pk_bd (w_X11_runBoth μ) (fun r2 μ1 ez1 => ?_)
  have z1 : Rz μ μ1 := z0.tr ez1
  refine pk_ite (fun _ => ?_) (fun _ => ?_)
  · exact pk_some z1
  · refine pk_ite (fun _ => ?_) (fun _ => ?_)
    · refine pk_ite (fun _ => ?_) (fun _ => ?_)
      · exact pk_some z1
      · exact pk_some z1
    · exact pk_some z1
theorem w_X11_op (a1 : Int32) (a2 : Int32) (a3 : Int32) (μ : Mem) : pk (p_X11_op a1 a2 a3 μ) (fun q => Rz μ q.2) := by
  have z0 : Rz μ μ := Rz.rf
  rw [p_X11_op_eq]
  refine pk_ite (fun _ => ?_) (fun _ => ?_)
  · exact pk_some z0
  · refine pk_bvy (fun v2 _ => ?_)
    exact pk_some z0
