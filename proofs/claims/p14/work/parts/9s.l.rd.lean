def Mh (μ q : Mem) : Prop := ∀ i k, i ≠ 0 → i < 16 → q.1 i k = μ.1 i k
theorem Mh.rf {μ : Mem} : Mh μ μ := fun _ _ _ _ => rfl
theorem Mh.tr {μ q z : Mem} (h : Mh μ q) (h2 : Mh q z) : Mh μ z := fun i k a b => (h2 i k a b).trans (h i k a b)
theorem Me.mh {μ q : Mem} (h : Me μ q) : Mh μ q := fun i k a _ => h i k (fun e => a e.1)
theorem mx_me {t : Nat → Int32} {n F b : Nat} {N0 : List Int32} {S : List Fw} {v : Nat × Nat} {μ q : Mem} {p : Nat} (h : Mx4 t n F b N0 S v μ) (e : Me μ q) (hw : MwT t n p q) : Mx4 t n F b N0 S (p, v.2) q := by
  obtain ⟨_, ⟨h1, h2, h3⟩, ⟨h4, h5⟩, h6, h7, h8, h9⟩ := h
  exact ⟨hw, ⟨by rw [e 0 27 (by omega)]; exact h1, by rw [e 14 F (by omega)]; exact h2, h3⟩, ⟨by rw [e 0 28 (by omega)]; exact h4, h5⟩, by rw [e 0 32 (by omega)]; exact h6, h7, h8.cong (fun i _ => ⟨e _ _ (by omega), e _ _ (by omega), e _ _ (by omega)⟩) (fun j _ => ⟨e _ _ (by omega), e _ _ (by omega)⟩), fun a ha => by rw [e 21 _ (by omega)]; exact h9 a ha⟩
theorem ms_of {t : Nat → Int32} {n : Nat} {μ q : Mem} (hs : Ms t n μ) (h3 : q.1 0 3 = μ.1 0 3) (h1 : ∀ j, q.1 1 j = μ.1 1 j) : Ms t n q := ⟨by rw [h3]; exact hs.1, hs.2.1, fun j hj => by rw [h1]; exact hs.2.2 j hj⟩
theorem mw_of {t : Nat → Int32} {n p : Nat} {μ q : Mem} (h : MwT t n p μ) (h3 : q.1 0 3 = μ.1 0 3) (h4 : q.1 0 4 = μ.1 0 4) (h5 : q.1 0 5 = μ.1 0 5) (h1 : ∀ j, q.1 1 j = μ.1 1 j) : MwT t n p q := ⟨ms_of h.1 h3 h1, by rw [h5]; exact h.2.1, by rw [h4]; exact h.2.2.1, h.2.2.2⟩
theorem mx_ly {t : Nat → Int32} {n F b : Nat} {N0 : List Int32} {S : List Fw} {p c : Nat} {μ : Mem} (s w k : Int32) (h : Mx4 t n F b N0 S (p, c) μ) (hc : c < 80) : Mx4 t n F b N0 S (p, c + 1) (Ly μ s w k) ∧ Mh μ (Ly μ s w k) ∧ (Ly μ s w k).1 16 (b + c) = s ∧ (Ly μ s w k).1 17 (b + c) = w ∧ (Ly μ s w k).1 18 (b + c) = k := by
  have e1 : (1 : Int32).toInt = 1 := by decide
  obtain ⟨hw, ⟨h1, h2, h3⟩, ⟨h4, h5⟩, h6, h7, h8, h9⟩ := h
  have h4 : (μ.1 0 28).toInt = ((b + c : Nat) : Int) := h4
  have tn := tn_of h4
  have g0 : ∀ k', k' ≠ 28 → (Ly μ s w k).1 0 k' = μ.1 0 k' := by
    intro k' hk; unfold Ly; rw [sF_1, if_pos rfl, if_neg hk, sF_i (by decide), sF_i (by decide), sF_i (by decide)]
  have g : ∀ i k', i ≠ 0 → i ≠ 16 → i ≠ 17 → i ≠ 18 → (Ly μ s w k).1 i k' = μ.1 i k' := by
    intro i k' a0 a1 a2 a3; unfold Ly; rw [sF_i a0, sF_i a3, sF_i a2, sF_i a1]
  have g16 : ∀ j, (Ly μ s w k).1 16 j = if j = b + c then s else μ.1 16 j := by
    intro j; unfold Ly; rw [sF_i (by decide), sF_i (by decide), sF_i (by decide), sF_1, if_pos rfl, tn]
  have g17 : ∀ j, (Ly μ s w k).1 17 j = if j = b + c then w else μ.1 17 j := by
    intro j; unfold Ly; rw [sF_i (by decide), sF_i (by decide), sF_1, if_pos rfl, tn, sF_i (by decide)]
  have g18 : ∀ j, (Ly μ s w k).1 18 j = if j = b + c then k else μ.1 18 j := by
    intro j; unfold Ly; rw [sF_i (by decide), sF_1, if_pos rfl, tn, sF_i (by decide), sF_i (by decide)]
  have g28 : ((Ly μ s w k).1 0 28).toInt = ((b + (c + 1) : Nat) : Int) := by
    rw [ly_28, ti_add (by omega) (by omega), h4, e1]; omega
  refine ⟨⟨mw_of hw (g0 3 (by decide)) (g0 4 (by decide)) (g0 5 (by decide)) (fun j => g 1 j (by decide) (by decide) (by decide) (by decide)), ⟨by rw [g0 27 (by decide)]; exact h1, by rw [g 14 F (by decide) (by decide) (by decide) (by decide)]; exact h2, h3⟩, ⟨g28, by show c + 1 ≤ 80; omega⟩, by rw [g0 32 (by decide)]; exact h6, h7, ?_, fun a ha => by rw [g 21 _ (by decide) (by decide) (by decide) (by decide)]; exact h9 a ha⟩, fun i k' a0 a1 => g i k' a0 (by omega) (by omega) (by omega), by rw [g16, if_pos rfl], by rw [g17, if_pos rfl], by rw [g18, if_pos rfl]⟩
  have h8 : Sk N0 μ (b + c) S := h8
  refine (h8.cong (q := Ly μ s w k) (fun i hi => ⟨by rw [g16, if_neg (by omega)], by rw [g17, if_neg (by omega)], by rw [g18, if_neg (by omega)]⟩) (fun j _ => ⟨g 19 j (by decide) (by decide) (by decide) (by decide), g 20 j (by decide) (by decide) (by decide) (by decide)⟩)).up (by show b + c ≤ b + (c + 1); omega)
theorem mx_open {t : Nat → Int32} {n F b : Nat} {N0 : List Int32} {S : List Fw} {p c : Nat} {μ : Mem} {s w x k : Int32} (h : Mx4 t n F b N0 S (p, c) μ) (hp : p < n) (hc : c < 80) (hS : S.length < 20) (ht : thk s) (hk : s ≠ 12 → k = bel s) (hx : s = 11 → isVa x = true ∧ w = x - 109) : pk (p_X12_layOpen s w k μ) (fun r => r.1 = 1 ∧ Mh μ r.2 ∧ Mx4 t n F b N0 ((b + c, s, x, 0, cur N0 S) :: S) (p + 1, c + 1) r.2) := by
  have e1 : (1 : Int32).toInt = 1 := by decide
  refine pk_mono (q_layOpen s w k μ) (fun r hr => ?_)
  obtain ⟨e, _, _⟩ := hr
  subst e
  refine ⟨rfl, ?_⟩
  have hE : Me μ (sF μ 0 4 (μ.1 0 4 + 1)) := Me.put (by omega) _
  have h1 := mx_me h hE (mw_next h.1 hp)
  obtain ⟨h2, hM, y16, y17, y18⟩ := mx_ly s w k h1 hc
  generalize Ly (sF μ 0 4 (μ.1 0 4 + 1)) s w k = z at h2 hM y16 y17 y18 ⊢
  obtain ⟨hw, ⟨k1, k2, k3⟩, ⟨k4, k5⟩, k6, k7, k8, k9⟩ := h2
  have k4 : (z.1 0 28).toInt = ((b + (c + 1) : Nat) : Int) := k4
  have t32 := tn_of k6
  have g0 : ∀ k', k' ≠ 32 → (Opn z).1 0 k' = z.1 0 k' := by
    intro k' hk; unfold Opn; rw [sF_1, if_pos rfl, if_neg hk, sF_i (by decide), sF_i (by decide)]
  have g : ∀ i k', i ≠ 0 → i ≠ 19 → i ≠ 20 → (Opn z).1 i k' = z.1 i k' := by
    intro i k' a0 a1 a2; unfold Opn; rw [sF_i a0, sF_i a2, sF_i a1]
  have g19 : ∀ j, (Opn z).1 19 j = if j = S.length then z.1 0 28 - 1 else z.1 19 j := by
    intro j; unfold Opn; rw [sF_i (by decide), sF_i (by decide), sF_1, if_pos rfl, t32]
  have g20 : ∀ j, (Opn z).1 20 j = if j = S.length then 0 else z.1 20 j := by
    intro j; unfold Opn; rw [sF_i (by decide), sF_1, if_pos rfl, sF_i (by decide)]
    show (if j = (z.1 0 32).toNatClampNeg then _ else _) = _
    rw [t32]
  refine ⟨(hE.mh.tr hM).tr (fun i k' a0 a1 => g i k' a0 (by omega) (by omega)), mw_of hw (g0 3 (by decide)) (g0 4 (by decide)) (g0 5 (by decide)) (fun j => g 1 j (by decide) (by decide) (by decide)), ⟨by rw [g0 27 (by decide)]; exact k1, by rw [g 14 F (by decide) (by decide) (by decide)]; exact k2, k3⟩, ⟨by rw [g0 28 (by decide)]; exact k4, k5⟩, ?_, by simp; omega, ?_, ?_⟩
  · rw [opn_32, ti_add (by omega) (by omega), k6, e1]; simp
  · refine ⟨by show b + c < b + (c + 1); omega, ?_, ?_, ?_, ht, ?_, ?_, Nat.zero_le _, rfl, ?_⟩
    · rw [g19, if_pos rfl, ti_sub (by omega) (by omega), k4, e1]
      show _ = ((b + c : Nat) : Int); omega
    · rw [g20, if_pos rfl]; rfl
    · rw [g 16 _ (by decide) (by decide) (by decide)]; exact y16
    · intro e; exact ⟨(hx e).1, by rw [g 17 _ (by decide) (by decide) (by decide)]; show z.1 17 (b + c) = _; rw [y17]; exact (hx e).2⟩
    · intro e; rw [g 18 _ (by decide) (by decide) (by decide)]; show z.1 18 (b + c) = _; rw [y18]; exact hk e
    · have h8 : Sk N0 μ (b + c) S := h.2.2.2.2.2.1
      have h18 := h1.2.2.2.2.2.1
      have k8' : Sk N0 z (b + (c + 1)) S := k8
      cases S with
      | nil => trivial
      | cons f S =>
        have hf : fwo f < b + c := h8.1
        have kk : Sk N0 z (b + c) (f :: S) := ⟨hf, k8'.2⟩
        exact kk.cong (fun i _ => ⟨g 16 _ (by decide) (by decide) (by decide), g 17 _ (by decide) (by decide) (by decide), g 18 _ (by decide) (by decide) (by decide)⟩) (fun j hj => ⟨by rw [g19, if_neg (by omega)], by rw [g20, if_neg (by omega)]⟩)
  · have ec : cur N0 ((b + c, s, x, 0, cur N0 S) :: S) = cur N0 S := if_neg (fun e => absurd (show (0 : Nat) = 1 from e.2) (by decide))
    rw [ec]
    intro a ha
    rw [g 21 _ (by decide) (by decide) (by decide)]; exact k9 a ha
