/-! ANSWERS ALIKE: end, set -/
theorem rbq_end (a1 : Int32) (μx μm : Mem) (h : Rb μx μm) : ok (p_X11_end a1 μx) (fun q => ok (p_X12_end a1 μm) (fun z => Rb q.2 z.2 ∧ q.1 = z.1)) := by
  obtain ⟨h1, h2, h3⟩ := h
  refine ok_imp ?_ (k_X11_end a1 μx h1)
  rintro ⟨r, q⟩ ⟨q1, q2, q3⟩
  refine ok_imp ?_ (k_X12_end a1 μm h2.1)
  rintro ⟨s, z⟩ ⟨z1, z2, z3⟩
  have z1 : IM z := z1
  have z2 : Fr [(0, 0, 3)] true μm z := z2
  have q3 : ((a1.toInt < 0 ∨ (μx.1 0 1).toInt < a1.toInt) ∧ r.toInt = -1 ∧ (q.1 0 1).toInt = (μx.1 0 1).toInt) ∨ (0 ≤ a1.toInt ∧ a1.toInt ≤ (μx.1 0 1).toInt ∧ r.toInt = a1.toInt ∧ (q.1 0 1).toInt = a1.toInt) := q3
  have z3 : ((a1.toInt < 0 ∨ (μm.1 0 3).toInt < a1.toInt) ∧ s.toInt = -1 ∧ (z.1 0 3).toInt = (μm.1 0 3).toInt) ∨ (0 ≤ a1.toInt ∧ a1.toInt ≤ (μm.1 0 3).toInt ∧ s.toInt = a1.toInt ∧ (z.1 0 3).toInt = a1.toInt) := z3
  have hW : IW z := h2.fr z2 z1 (by rw [z2.v (by decide +kernel)]; exact h2.2.2.2.2.2.1) (by decide +kernel)
  exact ⟨⟨q1, hW, by show (q.1 0 1).toInt = (z.1 0 3).toInt; omega⟩, ti_eq.mpr (by show r.toInt = s.toInt; omega)⟩
theorem rb_fst {f g : Option (Int32 × Mem)} (h : ok f (fun q => ok g (fun z => Rb q.2 z.2 ∧ q.1 = z.1))) : ok f (fun q => ok g (fun z => Rb q.2 z.2)) := ok_imp (fun q h => ok_imp (fun z h => h.1) h) h
theorem rb_eq {f g : Option (Int32 × Mem)} {C : Prop} (h : ok f (fun q => ok g (fun z => Rb q.2 z.2))) (hf : pk f (fun q => (q.1 = 1 ∧ C) ∨ (q.1 = 0 ∧ ¬ C))) (hg : pk g (fun q => (q.1 = 1 ∧ C) ∨ (q.1 = 0 ∧ ¬ C))) : ok f (fun q => ok g (fun z => Rb q.2 z.2 ∧ q.1 = z.1)) := by
  refine ok_imp ?_ (ok_pk h hf)
  rintro q ⟨q1, q2⟩
  refine ok_imp ?_ (ok_pk q1 hg)
  rintro z ⟨z1, z2⟩
  refine ⟨z1, ?_⟩
  rcases q2 with ⟨a, c⟩ | ⟨a, c⟩ <;> rcases z2 with ⟨b, d⟩ | ⟨b, d⟩
  · rw [a, b]
  · exact absurd c d
  · exact absurd d c
  · rw [a, b]
def Cs (a1 a2 : Int32) : Prop := (a1 = 0 ∧ ¬ a2 < 0 ∧ ¬ 12 < a2) ∨ (a1 = 1 ∧ ¬ a2 < 1 ∧ ¬ 6 < a2) ∨ (a1 = 2 ∧ ¬ a2 < 10 ∧ ¬ 300 < a2)
theorem q_X10_setLimit (a1 a2 : Int32) (μ : Mem) : pk (p_X10_setLimit a1 a2 μ) (fun q => (q.1 = 1 ∧ Cs a1 a2) ∨ (q.1 = 0 ∧ ¬ Cs a1 a2)) := by
  have n01 : (0 : Int32) ≠ 1 := by decide
  have n02 : (0 : Int32) ≠ 2 := by decide
  have n12 : (1 : Int32) ≠ 2 := by decide
  have b46 : ¬ (a1 = 0 ∧ ¬ a2 < 0 ∧ ¬ 12 < a2) → ¬ (a1 = 1 ∧ ¬ a2 < 1 ∧ ¬ 6 < a2) → pk (p_X10_setLimit_b46 a1 a2 μ) (fun q => (q.1 = 1 ∧ Cs a1 a2) ∨ (q.1 = 0 ∧ ¬ Cs a1 a2)) := by
    intro h0 h1
    rw [p_X10_setLimit_b46_eq]
    refine pk_ite (fun e => pk_ite (fun c => pk_some (Or.inr ⟨rfl, ?_⟩)) (fun c => pk_ite (fun d => pk_some (Or.inr ⟨rfl, ?_⟩)) (fun d => pk_bv (pk_some (Or.inl ⟨rfl, Or.inr (Or.inr ⟨e, c, d⟩)⟩))))) (fun e => pk_some (Or.inr ⟨rfl, ?_⟩))
    · rintro (h | h | h)
      · exact h0 h
      · exact h1 h
      · exact h.2.1 c
    · rintro (h | h | h)
      · exact h0 h
      · exact h1 h
      · exact h.2.2 d
    · rintro (h | h | h)
      · exact h0 h
      · exact h1 h
      · exact e h.1
  have b22 : ¬ (a1 = 0 ∧ ¬ a2 < 0 ∧ ¬ 12 < a2) → pk (p_X10_setLimit_b22 a1 a2 μ) (fun q => (q.1 = 1 ∧ Cs a1 a2) ∨ (q.1 = 0 ∧ ¬ Cs a1 a2)) := by
    intro h0
    rw [p_X10_setLimit_b22_eq]
    exact pk_ite (fun e => pk_ite (fun c => b46 h0 (fun h => h.2.1 c)) (fun c => pk_ite (fun d => b46 h0 (fun h => h.2.2 d)) (fun d => pk_bv (pk_some (Or.inl ⟨rfl, Or.inr (Or.inl ⟨e, c, d⟩)⟩))))) (fun e => b46 h0 (fun h => e h.1))
  rw [p_X10_setLimit_eq]
  exact pk_ite (fun e => pk_ite (fun c => b22 (fun h => h.2.1 c)) (fun c => pk_ite (fun d => b22 (fun h => h.2.2 d)) (fun d => pk_bv (pk_some (Or.inl ⟨rfl, Or.inl ⟨e, c, d⟩⟩))))) (fun e => b22 (fun h => e h.1))
theorem q_X11_set (a1 a2 : Int32) (μ : Mem) : pk (p_X11_set a1 a2 μ) (fun q => (q.1 = 1 ∧ Cs a1 a2) ∨ (q.1 = 0 ∧ ¬ Cs a1 a2)) := by
  rw [p_X11_set_eq]
  refine pk_bd (q_X10_setLimit a1 a2 μ) (fun r2 μ1 h => ?_)
  have h : (r2 = 1 ∧ Cs a1 a2) ∨ (r2 = 0 ∧ ¬ Cs a1 a2) := h
  refine pk_ite (fun e => pk_some (Or.inr ⟨rfl, ?_⟩)) (fun e => pk_bw (P := fun _ => True) (fun _ _ => trivial) (fun μ4 _ => pk_some (Or.inl ⟨rfl, ?_⟩)))
  · rcases h with ⟨a, _⟩ | ⟨_, c⟩
    · rw [a] at e; exact absurd e (by decide)
    · exact c
  · rcases h with ⟨_, c⟩ | ⟨a, _⟩
    · exact c
    · exact absurd a e
theorem isIn_nz {a b c : Int32} : s_X12_isIn a b c ≠ 0 ↔ (¬ a < b ∧ ¬ c < a) := by
  rw [s_X12_isIn_eq]
  by_cases h1 : a < b
  · rw [if_pos h1]; exact ⟨fun h => absurd rfl h, fun h => absurd h1 h.1⟩
  · rw [if_neg h1]
    by_cases h2 : c < a
    · rw [if_pos h2]; exact ⟨fun h => absurd rfl h, fun h => absurd h2 h.2⟩
    · rw [if_neg h2]; exact ⟨fun _ => ⟨h1, h2⟩, fun _ => by decide⟩
theorem q_X12_setq (a1 a2 : Int32) (μ : Mem) : pk (p_X12_set a1 a2 μ) (fun q => (q.1 = 1 ∧ Cs a1 a2) ∨ (q.1 = 0 ∧ ¬ Cs a1 a2)) := by
  have n01 : (0 : Int32) ≠ 1 := by decide
  have n02 : (0 : Int32) ≠ 2 := by decide
  have n12 : (1 : Int32) ≠ 2 := by decide
  have b51 : ∀ k0 : Int32, (k0 ≠ 0 ↔ Cs a1 a2) → pk (p_X12_set_b51 a1 a2 k0 μ) (fun q => (q.1 = 1 ∧ Cs a1 a2) ∨ (q.1 = 0 ∧ ¬ Cs a1 a2)) := by
    intro k0 hk
    rw [p_X12_set_b51_eq]
    exact pk_ite (fun e => pk_some (Or.inr ⟨rfl, fun h => hk.mpr h e⟩)) (fun e => pk_gd (fun _ => pk_bv (pk_bv (pk_some (Or.inl ⟨rfl, hk.mp e⟩)))))
  have b50 : ¬ Cs a1 a2 → pk (p_X12_set_b50 a1 a2 μ) (fun q => (q.1 = 1 ∧ Cs a1 a2) ∨ (q.1 = 0 ∧ ¬ Cs a1 a2)) := by
    intro h
    rw [p_X12_set_b50_eq]
    exact b51 0 ⟨fun h2 => absurd rfl h2, fun h2 => absurd h2 h⟩
  rw [p_X12_set_eq]
  refine pk_ite (fun e => b51 _ ?_) (fun e => pk_ite (fun e1 => b51 _ ?_) (fun e1 => pk_ite (fun e2 => pk_ite (fun c => b50 ?_) (fun c => b51 1 ?_)) (fun e2 => b50 ?_)))
  · rw [isIn_nz]
    refine ⟨fun h => Or.inl ⟨e, h.1, h.2⟩, ?_⟩
    rintro (h | h | h)
    · exact h.2
    · exact absurd (e.symm.trans h.1) n01
    · exact absurd (e.symm.trans h.1) n02
  · rw [isIn_nz]
    refine ⟨fun h => Or.inr (Or.inl ⟨e1, h.1, h.2⟩), ?_⟩
    rintro (h | h | h)
    · exact absurd h.1 e
    · exact h.2
    · exact absurd (e1.symm.trans h.1) n12
  · rintro (h | h | h)
    · exact e h.1
    · exact e1 h.1
    · exact isIn_nz.mpr h.2 c
  · exact ⟨fun _ => Or.inr (Or.inr ⟨e2, isIn_nz.mp c⟩), fun _ => by decide⟩
  · rintro (h | h | h)
    · exact e h.1
    · exact e1 h.1
    · exact e2 h.1
theorem rbq_set (a1 a2 : Int32) (μx μm : Mem) (h : Rb μx μm) : ok (p_X11_set a1 a2 μx) (fun q => ok (p_X12_set a1 a2 μm) (fun z => Rb q.2 z.2 ∧ q.1 = z.1)) := rb_eq (rb_set a1 a2 μx μm h) (q_X11_set a1 a2 μx) (q_X12_setq a1 a2 μm)
