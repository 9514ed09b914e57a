theorem mx_shut {t : Nat → Int32} {n F b : Nat} {N0 : List Int32} {S : List Fw} {fr : Fw} {v : Nat × Nat} {μ : Mem} (h : Mx4 t n F b N0 (fr :: S) v μ) (hT : Tl μ (cur N0 S)) : Mx4 t n F b N0 S v (sF μ 0 32 (μ.1 0 32 - 1)) ∧ Mh μ (sF μ 0 32 (μ.1 0 32 - 1)) := by
  have e1 : (1 : Int32).toInt = 1 := by decide
  obtain ⟨hw, ⟨h1, h2, h3⟩, ⟨h4, h5⟩, h6, h7, h8, _⟩ := h
  have h6 : (μ.1 0 32).toInt = (S.length : Int) + 1 := by rw [h6]; simp
  have h7 : S.length + 1 ≤ 20 := h7
  have g0 : ∀ k, k ≠ 32 → (sF μ 0 32 (μ.1 0 32 - 1)).1 0 k = μ.1 0 k := fun k hk => by rw [sF_k hk]
  have g : ∀ i k, i ≠ 0 → (sF μ 0 32 (μ.1 0 32 - 1)).1 i k = μ.1 i k := fun i k hi => by rw [sF_i hi]
  refine ⟨⟨mw_of hw (g0 3 (by decide)) (g0 4 (by decide)) (g0 5 (by decide)) (fun j => g 1 j (by decide)), ⟨by rw [g0 27 (by decide)]; exact h1, by rw [g 14 F (by decide)]; exact h2, h3⟩, ⟨by rw [g0 28 (by decide)]; exact h4, h5⟩, by rw [sF_v, ti_sub (by omega) (by omega), h6, e1]; omega, by omega, ?_, fun a ha => by rw [g 21 _ (by decide)]; exact hT a ha⟩, fun i k a0 _ => g i k a0⟩
  have hs : Sk N0 μ (fwo fr) S := h8.2.2.2.2.2.2.2.2.2
  exact (hs.up (Nat.le_of_lt h8.1)).cong (fun i _ => ⟨g _ _ (by decide), g _ _ (by decide), g _ _ (by decide)⟩) (fun j _ => ⟨g _ _ (by decide), g _ _ (by decide)⟩)
theorem rth_call {t : Nat → Int32} {n F b : Nat} {N0 : List Int32} {S : List Fw} {p c : Nat} {a1 : Int32} {μ : Mem} (h : Mx4 t n F b N0 S (p, c) μ) (hp : p < n) (hc : c < 80) (hS : S.length < 20) (hn : ¬ (hr t n p = 45 ∨ isD (hr t n p) = true)) (hv : isVa (hr t n p) = false) (hl : isL (hr t n p) = true) : pk (p_X12_readCall a1 μ) (Rth t n F b N0 S (p, c) μ) := by
  have er : 20 - S.length = (19 - S.length) + 1 := by omega
  have hre : re t n (20 - S.length) (cur N0 S) (p, c) = ag t n (re t n (19 - S.length) (cur N0 S)) (tk t n 40 (.inr (p + 1, c + 1))) := by rw [er]; exact re_c hc hn hv hl
  rw [p_X12_readCall_eq]
  refine pk_bd (mx_open h hp hc hS (x := 0) (by unfold thk; decide) (fun e => absurd rfl e) (fun e => absurd e (by decide))) ?_
  rintro r2 μ1 ⟨e2, hM1, h1⟩
  have e2 : r2 = 1 := e2
  rw [if_neg (by rw [e2]; decide)]
  have hw1 : MwT t n (p + 1) μ1 := h1.1
  refine pk_bd (q_Mtakes (c := 40) (by decide) hw1) ?_
  rintro r14 μ13 ⟨hE, ho⟩
  have hM : Mh μ μ13 := hM1.tr hE.mh
  by_cases c1 : hr t n (p + 1) = 40
  · rw [if_pos c1] at ho
    obtain ⟨o1, o2⟩ : r14 = 1 ∧ MwT t n (p + 2) μ13 := ho
    have h13 := mx_me h1 hE o2
    have hre2 : re t n (20 - S.length) (cur N0 S) (p, c) = if hr t n (p + 2) = 41 then .inr (p + 3, c + 1) else tk t n 41 (mos t n (re t n (19 - S.length) (cur N0 S)) 4 (re t n (19 - S.length) (cur N0 S) (p + 2, c + 1))) := by
      rw [hre]
      have : tk t n 40 (.inr (p + 1, c + 1)) = .inr (p + 2, c + 1) := by
        show (if hr t n (p + 1) = 40 then _ else _) = _
        rw [if_pos c1]
      rw [this]; rfl
    rw [if_neg (by rw [o1]; decide), p_X12_readCall_b30_eq, if_neg (by decide)]
    refine pk_bd (q_Mhere o2) ?_
    rintro r7 μ6 ⟨e6, hh6⟩
    have hh6 : r7 = hr t n (p + 2) := hh6
    have e6 : μ6 = μ13 := e6
    subst e6
    refine pk_ite (fun c2 => ?_) (fun c2 => ?_)
    · rw [hh6] at c2
      rw [if_pos c2] at hre2
      refine pk_bvy (fun μ10 m10 => pk_bvy (fun μ11 m11 => pk_gd (fun _ => pk_some ?_)))
      have hE10 : Me μ6 μ10 := by rw [m10]; exact Me.put (by omega) _
      have h10 := mx_me h13 hE10 (by rw [m10]; exact mw_next o2 (hr_lt (by rw [c2]; decide)))
      have hT : Tl μ10 (cur N0 S) := by
        have := h10.2.2.2.2.2.2
        rw [cur_new] at this; exact this
      obtain ⟨h11, hM11⟩ := mx_shut h10 hT
      rw [← m11] at h11 hM11
      exact ⟨(hM.tr hE10.mh).tr hM11, Or.inr (Or.inl ⟨_, rfl, h11, hre2⟩)⟩
    · rw [hh6] at c2
      rw [if_neg c2] at hre2
      refine pk_gd (fun _ => pk_some ⟨hM, Or.inr (Or.inr ⟨_, _, rfl, h13, ?_⟩)⟩)
      rw [cur_new, hre2]; rfl
  · rw [if_neg c1] at ho
    obtain ⟨o1, o2⟩ : r14 = 0 ∧ Mf t n (p + 1) μ13 := ho
    rw [if_pos o1, p_X12_readCall_b29_eq, p_X12_readCall_b30_eq, if_pos rfl]
    refine pk_gd (fun _ => pk_some ⟨hM, Or.inl ⟨p + 1, rfl, o2, ?_⟩⟩)
    rw [hre]
    have : tk t n 40 (.inr (p + 1, c + 1)) = .inl (p + 1) := by
      show (if hr t n (p + 1) = 40 then _ else _) = _
      rw [if_neg c1]
    rw [this]; rfl
def bgs (x : Int32) : Prop := (x = 45 ∨ isD x = true) ∨ isVa x = true ∨ isL x = true ∨ ¬ s_X12_signOf x = -1 ∨ x = 40 ∨ x = 91 ∨ x = 63 ∨ x = 33 ∨ x = 38 ∨ x = 95 ∨ x = 58
theorem sgo {x : Int32} (h : ¬ s_X12_signOf x = -1) : x = 36 ∨ x = 94 ∨ x = 35 ∨ x = 64 ∨ x = 126 := by
  rw [s_X12_signOf_eq] at h
  by_cases c1 : x = 36
  · exact Or.inl c1
  rw [if_neg c1] at h
  by_cases c2 : x = 94
  · exact Or.inr (Or.inl c2)
  rw [if_neg c2] at h
  by_cases c3 : x = 35
  · exact Or.inr (Or.inr (Or.inl c3))
  rw [if_neg c3] at h
  by_cases c4 : x = 64
  · exact Or.inr (Or.inr (Or.inr (Or.inl c4)))
  rw [if_neg c4] at h
  by_cases c5 : x = 126
  · exact Or.inr (Or.inr (Or.inr (Or.inr c5)))
  rw [if_neg c5] at h; exact absurd rfl h
theorem nbg {t : Nat → Int32} {n r p c : Nat} {N : List Int32} (h : ¬ bgs (hr t n p)) : re t n r N (p, c) = .inl p := by
  cases r with
  | zero => rfl
  | succ r =>
    by_cases hc : 80 ≤ c
    · show (if 80 ≤ c then _ else _) = _
      rw [if_pos hc]
    unfold bgs at h
    have hv : isVa (hr t n p) = false := by
      cases e : isVa (hr t n p) with
      | false => rfl
      | true => exact absurd (Or.inr (Or.inl e)) h
    have hl : isL (hr t n p) = false := by
      cases e : isL (hr t n p) with
      | false => rfl
      | true => exact absurd (Or.inr (Or.inr (Or.inl e))) h
    rw [re_g (by omega) (fun e => h (Or.inl e)) hv hl]
    generalize hr t n p = x at h
    have hs : s_X12_signOf x = -1 := by
      by_cases e : s_X12_signOf x = -1
      · exact e
      · exact absurd (Or.inr (Or.inr (Or.inr (Or.inl e)))) h
    have n1 : x ≠ 36 := fun e => by rw [e, s_X12_signOf_eq] at hs; exact absurd hs (by decide)
    have n2 : x ≠ 94 := fun e => by rw [e, s_X12_signOf_eq] at hs; exact absurd hs (by decide)
    have n3 : x ≠ 35 := fun e => by rw [e, s_X12_signOf_eq] at hs; exact absurd hs (by decide)
    have n4 : x ≠ 64 := fun e => by rw [e, s_X12_signOf_eq] at hs; exact absurd hs (by decide)
    have n5 : x ≠ 126 := fun e => by rw [e, s_X12_signOf_eq] at hs; exact absurd hs (by decide)
    have m1 : x ≠ 40 := fun e => h (by simp [e])
    have m2 : x ≠ 91 := fun e => h (by simp [e])
    have m3 : x ≠ 63 := fun e => h (by simp [e])
    have m4 : x ≠ 33 := fun e => h (by simp [e])
    have m5 : x ≠ 38 := fun e => h (by simp [e])
    have m6 : x ≠ 95 := fun e => h (by simp [e])
    have m7 : x ≠ 58 := fun e => h (by simp [e])
    unfold rsg
    rw [if_neg (by unfold isT1; simp [m4, n3, n1, n4, n2, n5]), if_neg m5, if_neg m1, if_neg m7, if_neg m3, if_neg m2, if_neg m6]
