/-! THE OTHER CALLS, AND BOTH SIDES -/
theorem k_specialiseW {μ : Mem} (h : IW μ) : ok (p_X12_specialise μ) (fun q => KpW μ q.2) := by
  obtain ⟨h1, h2, h3, h4, h5, h6, h7⟩ := h
  refine ok_imp ?_ (k_specialise h1 h3 h2 h5 h6)
  rintro ⟨r, q⟩ ⟨q1, q2, q3⟩
  have q1 : IM q := q1
  have q2 : Fr frSP true μ q := q2
  have q3 : q.1 0 95 ≠ 0 → RI q := q3
  show KpW μ q
  refine ⟨⟨q1, h2.fr q2 (by decide +kernel), ?_, ?_, ?_, by rw [q2.v (by decide +kernel)]; exact h6, q3⟩, q2.v (by decide +kernel)⟩
  · unfold TW
    rw [q2.fe (c := 25) (by decide +kernel), q2.n (k := 43) (by decide +kernel), q2.n (k := 44) (by decide +kernel), q2.n (k := 45) (by decide +kernel)]; exact h3
  · unfold VW
    rw [q2.fe (c := 27) (by decide +kernel), q2.n (k := 46) (by decide +kernel), q2.n (k := 47) (by decide +kernel)]; exact h4
  · rw [q2.a (by decide +kernel)]; exact h5
theorem k_programW {μ : Mem} (h : IW μ) : ok (p_X12_program μ) (fun q => IW q.2 ∧ (q.2.1 0 3).toInt = 0) := by
  refine ok_imp ?_ (k_program μ h.1)
  rintro ⟨r, q⟩ ⟨q1, q2, q3⟩
  have q1 : IM q := q1
  have q2 : (q.1 0 3).toInt = 0 := q2
  have q3 : Fr frP3 true μ q ∨ (Fr frQ true μ q ∧ q.1 0 95 = 0 ∧ PW q) := q3
  show IW q ∧ (q.1 0 3).toInt = 0
  rcases q3 with f | ⟨f, f2, f3⟩
  · exact ⟨h.fr f q1 (by rw [f.v (by decide +kernel)]; exact h.2.2.2.2.2.1) (by decide +kernel), q2⟩
  · obtain ⟨h1, h2, h3, h4, h5, h6, h7⟩ := h
    refine ⟨⟨q1, f3, ?_, ?_, ?_, by rw [f.v (by decide +kernel)]; exact h6, fun h => absurd f2 h⟩, q2⟩
    · unfold TW
      rw [f.fe (c := 25) (by decide +kernel), f.n (k := 43) (by decide +kernel), f.n (k := 44) (by decide +kernel), f.n (k := 45) (by decide +kernel)]; exact h3
    · unfold VW
      rw [f.fe (c := 27) (by decide +kernel), f.n (k := 46) (by decide +kernel), f.n (k := 47) (by decide +kernel)]; exact h4
    · rw [f.a (by decide +kernel)]; exact h5
theorem k_taskW {μ : Mem} (h : IW μ) : ok (p_X12_task μ) (fun q => IW q.2 ∧ (q.2.1 0 3).toInt = 0) := by
  refine ok_imp ?_ (k_task μ h.1)
  rintro ⟨r, q⟩ ⟨q1, q2, q3⟩
  have q1 : IM q := q1
  have q2 : (q.1 0 3).toInt = 0 := q2
  have q3 : Fr frT0 true μ q ∨ (Fr frT true μ q ∧ q.1 0 95 = 0 ∧ TW q ∧ VW q) := q3
  show IW q ∧ (q.1 0 3).toInt = 0
  rcases q3 with f | ⟨f, f2, f3, f4⟩
  · exact ⟨h.fr f q1 (by rw [f.v (by decide +kernel)]; exact h.2.2.2.2.2.1) (by decide +kernel), q2⟩
  · obtain ⟨h1, h2, h3, h4, h5, h6, h7⟩ := h
    exact ⟨⟨q1, h2.fr f (by decide +kernel), f3, f4, by rw [f.a (by decide +kernel)]; exact h5, by rw [f.v (by decide +kernel)]; exact h6, fun h => absurd f2 h⟩, q2⟩
theorem k_valuesW {μ : Mem} (h : IW μ) : ok (p_X12_values μ) (fun q => IW q.2 ∧ (q.2.1 0 3).toInt = 0) := by
  refine ok_imp ?_ (k_values μ h.1)
  rintro ⟨r, q⟩ ⟨q1, q2, q3, q4⟩
  have q1 : IM q := q1
  have q2 : (q.1 0 3).toInt = 0 := q2
  have f : Fr frV true μ q := q3
  have q4 : Fr frT0 true μ q ∨ VW q := q4
  show IW q ∧ (q.1 0 3).toInt = 0
  rcases q4 with f | f4
  · exact ⟨h.fr f q1 (by rw [f.v (by decide +kernel)]; exact h.2.2.2.2.2.1) (by decide +kernel), q2⟩
  · obtain ⟨h1, h2, h3, h4, h5, h6, h7⟩ := h
    refine ⟨⟨q1, h2.fr f (by decide +kernel), ?_, f4, by rw [f.a (by decide +kernel)]; exact h5, by rw [f.v (by decide +kernel)]; exact h6, fun h => (h7 (by rw [f.v (by decide +kernel)] at h; exact h)).fr f (by decide +kernel)⟩, q2⟩
    unfold TW
    rw [f.fe (c := 25) (by decide +kernel), f.n (k := 43) (by decide +kernel), f.n (k := 44) (by decide +kernel), f.n (k := 45) (by decide +kernel)]; exact h3
/-- a new object -/
theorem IW_0 : IW μM0 := by
  refine ⟨IM_0, ⟨⟨by decide, fun k h => absurd h (by show ¬ k < 0; omega), fun i j _ h => absurd h (by show ¬ j < 0; omega), Sh.nil⟩, fun r _ h => absurd h (by show ¬ r < 0; omega)⟩, ⟨Sh.nil, fun i h => absurd h (by show ¬ i < 0; omega), rfl⟩, ⟨Sh.nil, fun i h => absurd h (by show ¬ i < 0; omega)⟩, by decide, by decide, fun h => absurd rfl h⟩
/-- both sides -/
def Rb (μx μm : Mem) : Prop := IX μx ∧ IW μm ∧ (μx.1 0 1).toInt = (μm.1 0 3).toInt
theorem rb_k {f g : Option (Int32 × Mem)} {μx μm : Mem} (h : Rb μx μm) (hf : ok f (fun q => IX q.2 ∧ q.2.1 0 1 = μx.1 0 1)) (hg : ok g (fun z => KpW μm z.2)) : ok f (fun q => ok g (fun z => Rb q.2 z.2)) := by
  refine ok_imp ?_ hf
  rintro q ⟨q1, q2⟩
  refine ok_imp ?_ hg
  rintro z ⟨z1, z2⟩
  exact ⟨q1, z1, by rw [q2, z2]; exact h.2.2⟩
theorem rb_s {f g : Option (Int32 × Mem)} {μx μm : Mem} (h : Rb μx μm) (hf : ok f (fun q => μx = q.2)) (hg : ok g (fun z => KpW μm z.2)) : ok f (fun q => ok g (fun z => Rb q.2 z.2)) := rb_k h (ok_imp (fun q e => by have e : μx = q.2 := e; rw [← e]; exact ⟨h.1, rfl⟩) hf) hg
theorem kp_s {g : Option (Int32 × Mem)} {μm : Mem} (h : IW μm) (hg : ok g (fun q => μm = q.2)) : ok g (fun z => KpW μm z.2) := ok_imp (fun q e => by have e : μm = q.2 := e; rw [← e]; exact ⟨h, rfl⟩) hg
theorem rb_z {f g : Option (Int32 × Mem)} (hf : ok f (fun q => IX q.2 ∧ (q.2.1 0 1).toInt = 0)) (hg : ok g (fun z => IW z.2 ∧ (z.2.1 0 3).toInt = 0)) : ok f (fun q => ok g (fun z => Rb q.2 z.2)) := by
  refine ok_imp ?_ hf
  rintro q ⟨q1, q2⟩
  refine ok_imp ?_ hg
  rintro z ⟨z1, z2⟩
  exact ⟨q1, z1, by rw [q2, z2]⟩
theorem rb_0 : Rb μX0 μM0 := ⟨IX_0, IW_0, by decide⟩
theorem rb_feed (a1 a2 a3 a4 a5 : Int32) (μx μm : Mem) (h : Rb μx μm) : ok (p_X11_feed a1 a2 a3 a4 a5 μx) (fun q => ok (p_X12_feed a1 a2 a3 a4 a5 μm) (fun z => Rb q.2 z.2 ∧ q.1 = z.1)) := by
  obtain ⟨h1, h2, h3⟩ := h
  refine ok_imp ?_ (k_X11_feed a1 a2 a3 a4 a5 μx h1)
  rintro ⟨r, q⟩ ⟨q1, q2, q3⟩
  refine ok_imp ?_ (k_X12_feed a1 a2 a3 a4 a5 μm h2.1)
  rintro ⟨s, z⟩ ⟨z1, z2, z3⟩
  have z1 : IM z := z1
  have z2 : Fr [(0, 0, 3), (1, 1, 0)] true μm z := z2
  have q3 : (r.toInt = -1 ∧ 800 < (μx.1 0 1).toInt + 20 ∧ (q.1 0 1).toInt = (μx.1 0 1).toInt) ∨ (r.toInt = (q.1 0 1).toInt ∧ (q.1 0 1).toInt = (μx.1 0 1).toInt + 20 ∧ (μx.1 0 1).toInt + 20 ≤ 800) := q3
  have z3 : (s.toInt = -1 ∧ 800 < (μm.1 0 3).toInt + 20 ∧ (z.1 0 3).toInt = (μm.1 0 3).toInt) ∨ (s.toInt = (z.1 0 3).toInt ∧ (z.1 0 3).toInt = (μm.1 0 3).toInt + 20 ∧ (μm.1 0 3).toInt + 20 ≤ 800) := z3
  have hW : IW z := h2.fr z2 z1 (by rw [z2.v (by decide +kernel)]; exact h2.2.2.2.2.2.1) (by decide +kernel)
  show (IX q ∧ IW z ∧ (q.1 0 1).toInt = (z.1 0 3).toInt) ∧ r = s
  exact ⟨⟨q1, hW, by omega⟩, ti_eq.mpr (by omega)⟩
theorem rb_end (a1 : Int32) (μx μm : Mem) (h : Rb μx μm) : ok (p_X11_end a1 μx) (fun q => ok (p_X12_end a1 μm) (fun z => Rb q.2 z.2)) := by
  obtain ⟨h1, h2, h3⟩ := h
  refine ok_imp ?_ (k_X11_end a1 μx h1)
  rintro ⟨r, q⟩ ⟨q1, q2, q3⟩
  refine ok_imp ?_ (k_X12_end a1 μm h2.1)
  rintro ⟨s, z⟩ ⟨z1, z2, z3⟩
  have z1 : IM z := z1
  have z2 : Fr [(0, 0, 3)] true μm z := z2
  have q3 : ((a1.toInt < 0 ∨ (μx.1 0 1).toInt < a1.toInt) ∧ r.toInt = -1 ∧ (q.1 0 1).toInt = (μx.1 0 1).toInt) ∨ (0 ≤ a1.toInt ∧ a1.toInt ≤ (μx.1 0 1).toInt ∧ r.toInt = a1.toInt ∧ (q.1 0 1).toInt = a1.toInt) := q3
  have z3 : ((a1.toInt < 0 ∨ (μm.1 0 3).toInt < a1.toInt) ∧ s.toInt = -1 ∧ (z.1 0 3).toInt = (μm.1 0 3).toInt) ∨ (0 ≤ a1.toInt ∧ a1.toInt ≤ (μm.1 0 3).toInt ∧ s.toInt = a1.toInt ∧ (z.1 0 3).toInt = a1.toInt) := z3
  have hW : IW z := h2.fr z2 z1 (by rw [z2.v (by decide +kernel)]; exact h2.2.2.2.2.2.1) (by decide +kernel)
  exact ⟨q1, hW, by show (q.1 0 1).toInt = (z.1 0 3).toInt; omega⟩
theorem rb_op (a1 a2 a3 : Int32) (μx μm : Mem) (h : Rb μx μm) : ok (p_X11_op a1 a2 a3 μx) (fun q => ok (p_X12_op a1 a2 a3 μm) (fun z => Rb q.2 z.2)) := by
  refine rb_s h (k_X11_op a1 a2 a3 μx h.1) (ok_imp ?_ (k_X12_op a1 a2 a3 μm h.2.1.1))
  rintro ⟨s, z⟩ ⟨z1, z2⟩
  have z1 : IM z := z1
  have z2 : Fr [(0, 0, 0), (0, 0, 1)] true μm z := z2
  exact ⟨h.2.1.fr z2 z1 (by rw [z2.v (by decide +kernel)]; exact h.2.1.2.2.2.2.2.1) (by decide +kernel), z2.v (by decide +kernel)⟩
