theorem rp_st {t : Nat → Int32} {n sl : Nat} : ∀ (k k2 p m s : Nat), 31 ≤ k + m → 31 ≤ k2 + m → rp t n sl k p m s = rp t n sl k2 p m s := by
  intro k
  induction k with
  | zero =>
    intro k2 p m s h1 h2
    cases k2 with
    | zero => rfl
    | succ k2 => unfold rp; rw [if_pos (by omega)]
  | succ k ih =>
    intro k2 p m s h1 h2
    cases k2 with
    | zero => unfold rp; rw [if_pos (by omega)]
    | succ k2 =>
      unfold rp
      by_cases c : 30 ≤ m
      · rw [if_pos c, if_pos c]
      rw [if_neg c, if_neg c]
      by_cases c1 : hr t n p = 91
      · rw [if_pos c1, if_pos c1, ih k2 (p + 1) (m + 1) s (by omega) (by omega)]
        cases e : rp t n sl k2 (p + 1) (m + 1) s with
        | inl f => rfl
        | inr v =>
          obtain ⟨p1, m1, s1⟩ := v
          have hm := rp_mono e
          dsimp only
          rw [ih k2 (p1 + 1) m1 s1 (by omega) (by omega)]
      · rw [if_neg c1, if_neg c1]
def ct (t : Nat → Int32) (n sl : Nat) : List Nat → Rd (Nat × Nat × Nat) → Rd (Nat × Nat × Nat)
  | [], o => o
  | x :: K, o =>
    let two : Rd (Nat × Nat × Nat) → Rd (Nat × Nat × Nat) := fun o2 => match o2 with
      | .inl f => .inl f
      | .inr (p, m, s) => if hr t n p = 93 then ct t n sl K (.inr (p + 1, m, s)) else .inl p
    match o with
    | .inl f => .inl f
    | .inr (p, m, s) => if x = 0 then (if hr t n p = 44 then two (rp t n sl 50 (p + 1) m s) else .inl p) else two (.inr (p, m, s))
theorem ct_l {t : Nat → Int32} {n sl f : Nat} : ∀ K : List Nat, ct t n sl K (.inl f) = .inl f := by
  intro K
  cases K with
  | nil => rfl
  | cons x K => rfl
theorem ct_1 {t : Nat → Int32} {n sl p m s : Nat} {K : List Nat} : ct t n sl (1 :: K) (.inr (p, m, s)) = if hr t n p = 93 then ct t n sl K (.inr (p + 1, m, s)) else .inl p := rfl
theorem ct_0 {t : Nat → Int32} {n sl p m s : Nat} {K : List Nat} : ct t n sl (0 :: K) (.inr (p, m, s)) = if hr t n p = 44 then ct t n sl (1 :: K) (rp t n sl 50 (p + 1) m s) else .inl p := by
  show (if hr t n p = 44 then _ else _) = _
  by_cases c : hr t n p = 44
  · rw [if_pos c, if_pos c]
    cases rp t n sl 50 (p + 1) m s with
    | inl f => rfl
    | inr v => rfl
  · rw [if_neg c, if_neg c]
theorem ct_open {t : Nat → Int32} {n sl p m s : Nat} {K : List Nat} (hm : ¬ 30 ≤ m) (h : hr t n p = 91) : ct t n sl K (rp t n sl 50 p m s) = ct t n sl (0 :: K) (rp t n sl 50 (p + 1) (m + 1) s) := by
  have e : rp t n sl 50 p m s = (match rp t n sl 49 (p + 1) (m + 1) s with
      | .inl f => .inl f
      | .inr (p1, m1, s1) => if hr t n p1 = 44 then
          match rp t n sl 49 (p1 + 1) m1 s1 with
          | .inl f => .inl f
          | .inr (p2, m2, s2) => if hr t n p2 = 93 then .inr (p2 + 1, m2, s2) else .inl p2
        else .inl p1) := by
    show (if 30 ≤ m then _ else if hr t n p = 91 then _ else _) = _
    rw [if_neg hm, if_pos h]
    rfl
  rw [e, rp_st 49 50 (p + 1) (m + 1) s (by omega) (by omega)]
  cases e1 : rp t n sl 50 (p + 1) (m + 1) s with
  | inl f => dsimp only; rw [ct_l, ct_l]
  | inr v =>
    obtain ⟨p1, m1, s1⟩ := v
    have hm1 := rp_mono e1
    dsimp only
    rw [ct_0]
    by_cases c : hr t n p1 = 44
    · rw [if_pos c, if_pos c, rp_st 49 50 (p1 + 1) m1 s1 (by omega) (by omega)]
      cases e2 : rp t n sl 50 (p1 + 1) m1 s1 with
      | inl f => dsimp only; rw [ct_l, ct_l]
      | inr v =>
        obtain ⟨p2, m2, s2⟩ := v
        dsimp only
        rw [ct_1]
        by_cases c2 : hr t n p2 = 93
        · rw [if_pos c2, if_pos c2]
        · rw [if_neg c2, if_neg c2]; exact ct_l K
    · rw [if_neg c, if_neg c]; exact ct_l K
def ClT (μ : Mem) : List Nat → Prop
  | [] => True
  | x :: K => (x = 0 ∨ x = 1) ∧ (μ.1 24 K.length).toInt = (x : Int) ∧ ClT μ K
theorem ClT.cong {μ q : Mem} : ∀ {K : List Nat}, ClT μ K → (∀ j, j < K.length → q.1 24 j = μ.1 24 j) → ClT q K := by
  intro K
  induction K with
  | nil => intro _ _; trivial
  | cons x K ih => intro h g; exact ⟨h.1, by rw [g K.length (by simp)]; exact h.2.1, ih h.2.2 (fun j hj => g j (by simp only [List.length_cons]; omega))⟩
def Mp (μ : Mem) (m s : Nat) : Prop := (μ.1 0 36).toInt = (m : Int) ∧ m ≤ 30 ∧ (μ.1 0 37).toInt = (s : Int) ∧ s ≤ m
def Mg (μ q : Mem) : Prop := ∀ i k, ¬ (i = 0 ∧ (k = 4 ∨ k = 5 ∨ k = 6 ∨ k = 7 ∨ k = 36 ∨ k = 37)) → i ≠ 22 → i ≠ 23 → i ≠ 24 → q.1 i k = μ.1 i k
theorem Mg.rf {μ : Mem} : Mg μ μ := fun _ _ _ _ _ _ => rfl
theorem Mg.tr {μ q z : Mem} (h : Mg μ q) (h2 : Mg q z) : Mg μ z := fun i k a b c d => (h2 i k a b c d).trans (h i k a b c d)
theorem Me.mg {μ q : Mem} (h : Me μ q) : Mg μ q := fun i k a _ _ _ => h i k (fun e => a ⟨e.1, by omega⟩)
theorem Mp.me {μ q : Mem} {m s : Nat} (h : Mp μ m s) (e : Me μ q) : Mp q m s := ⟨by rw [e 0 36 (by omega)]; exact h.1, h.2.1, by rw [e 0 37 (by omega)]; exact h.2.2.1, h.2.2.2⟩
theorem ClT.me {μ q : Mem} {K : List Nat} (h : ClT μ K) (e : Me μ q) : ClT q K := h.cong (fun j _ => e 24 j (by omega))
def Mco (t : Nat → Int32) (n sl m s : Nat) (μ : Mem) (o : Rd (Nat × Nat × Nat)) (r : Int32 × Mem) : Prop :=
  Mg μ r.2 ∧ ((∃ f, Mf t n f r.2 ∧ o = .inl f) ∨ (∃ p, r.1.toInt = 0 ∧ MwT t n p r.2 ∧ Mp r.2 m s ∧ o = .inr (p, m, s)) ∨ (∃ p K, r.1.toInt = ((K.length + 1 : Nat) : Int) ∧ K.length + 1 ≤ m ∧ MwT t n p r.2 ∧ Mp r.2 m s ∧ ClT r.2 (1 :: K) ∧ o = ct t n sl (1 :: K) (rp t n sl 50 p m s)))
theorem q_Mclose {t : Nat → Int32} {n sl m s : Nat} : ∀ (fu : Nat) (K : List Nat) (p : Nat) (a2 : Int32) (μ : Mem), a2.toInt = (K.length : Int) → K.length ≤ m → MwT t n p μ → Mp μ m s → ClT μ K → pk (p_X12_closeAll_b2 fu a2 μ) (Mco t n sl m s μ (ct t n sl K (.inr (p, m, s)))) := by
  have e0 : (0 : Int32).toInt = 0 := by decide
  have e1 : (1 : Int32).toInt = 1 := by decide
  have em1 : (-1 : Int32).toInt = -1 := by decide
  intro fu
  induction fu with
  | zero => intro K p a2 μ _ _ _ _ _ r e; rw [p_X12_closeAll_b2_z] at e; cases e
  | succ fu ih =>
    intro K p a2 μ h2 hK hw hP hC
    have hm30 := hP.2.1
    rw [p_X12_closeAll_b2_s]
    cases K with
    | nil =>
      rw [if_pos (by rw [ti_le, e0, h2]; simp)]
      exact pk_some ⟨Mg.rf, Or.inr (Or.inl ⟨p, e0, hw, hP, rfl⟩)⟩
    | cons x K =>
      simp only [List.length_cons] at h2 hK
      rw [if_neg (by rw [ti_le, e0, h2]; omega)]
      have t1 : (a2 - 1).toInt = (K.length : Int) := by rw [ti_sub (by omega) (by omega), e1, h2]; omega
      refine pk_bvy (fun v2 e2 => pk_gd (fun _ => pk_gd (fun _ => pk_bvy (fun μ3 e3 => pk_gd (fun _ => ?_)))))
      rw [← e2] at t1
      rw [tn_of t1] at e3
      rw [← e2, tn_of t1]
      obtain ⟨hx, hcx, hC'⟩ := hC
      have g3 : ∀ i k, i ≠ 24 → μ3.1 i k = μ.1 i k := fun i k hi => by rw [e3, sF_i hi]
      have hw3 : MwT t n p μ3 := ⟨⟨by rw [g3 _ _ (by decide)]; exact hw.1.1, hw.1.2.1, fun j hj => by rw [g3 _ _ (by decide)]; exact hw.1.2.2 j hj⟩, by rw [g3 _ _ (by decide)]; exact hw.2.1, by rw [g3 _ _ (by decide)]; exact hw.2.2.1, hw.2.2.2⟩
      have hP3 : Mp μ3 m s := ⟨by rw [g3 _ _ (by decide)]; exact hP.1, hP.2.1, by rw [g3 _ _ (by decide)]; exact hP.2.2.1, hP.2.2.2⟩
      have hG3 : Mg μ μ3 := fun i k _ _ _ h24 => g3 i k h24
      have hx3 : (μ3.1 24 K.length).toInt = (x : Int) + 1 := by rw [e3, sF_v, ti_add (by omega) (by omega), e1, hcx]
      have hC3 : ClT μ3 K := hC'.cong (fun j hj => by rw [e3, sF_k (by omega)])
      rcases hx with rfl | rfl
      · rw [if_pos (ti_eq.mpr (by rw [hx3, e1]; rfl)), ct_0]
        refine pk_bd (q_Mtakes (c := 44) (by decide) hw3) ?_
        rintro r10 μ9 ⟨hE9, hO9⟩
        have hE9 : Me μ3 μ9 := hE9
        refine pk_some ⟨hG3.tr hE9.mg, ?_⟩
        by_cases c : hr t n p = 44
        · rw [if_pos c] at hO9 ⊢
          refine Or.inr (Or.inr ⟨p + 1, K, by rw [h2], by omega, hO9.2, hP3.me hE9, ⟨Or.inr rfl, ?_, hC3.me hE9⟩, rfl⟩)
          show (μ9.1 24 K.length).toInt = _
          rw [hE9 24 _ (by omega), hx3]; rfl
        · rw [if_neg c] at hO9 ⊢
          exact Or.inl ⟨p, hO9.2, rfl⟩
      · rw [if_neg (fun e => by rw [ti_eq, hx3, e1] at e; omega), ct_1]
        refine pk_bd (q_Mtakes (c := 93) (by decide) hw3) ?_
        rintro r6 μ5 ⟨hE5, hO5⟩
        have hE5 : Me μ3 μ5 := hE5
        by_cases c : hr t n p = 93
        · rw [if_pos c] at hO5 ⊢
          have hO5 : r6 = 1 ∧ MwT t n (p + 1) μ5 := hO5
          rw [if_neg (by rw [hO5.1]; decide)]
          refine pk_bvy (fun v8 e8 => ?_)
          refine pk_mono (ih K (p + 1) v8 μ5 (by rw [e8, ti_add (by omega) (by omega), em1, h2]; omega) (by omega) hO5.2 (hP3.me hE5) (hC3.me hE5)) ?_
          rintro r ⟨hg, hr2⟩
          exact ⟨(hG3.tr hE5.mg).tr hg, hr2⟩
        · rw [if_neg c] at hO5 ⊢
          have hO5 : r6 = 0 ∧ Mf t n p μ5 := hO5
          rw [if_pos hO5.1]
          exact pk_some ⟨hG3.tr hE5.mg, Or.inl ⟨p, hO5.2, rfl⟩⟩
theorem q_Mlay {t : Nat → Int32} {n p m s : Nat} {μ : Mem} {K : List Nat} (a1 a2 : Int32) (hw : MwT t n p μ) (hP : Mp μ m s) (hm : m < 30) (hC : ClT μ K) : pk (p_X12_layRead a1 a2 μ) (fun q => Mg μ q ∧ MwT t n p q ∧ Mp q (m + 1) s ∧ ClT q K) := by
  have e1 : (1 : Int32).toInt = 1 := by decide
  rw [p_X12_layRead_eq]
  refine pk_gd (fun _ => pk_bvy (fun μ1 m1 => pk_gd (fun _ => pk_bvy (fun μ2 m2 => pk_bvy (fun μ3 m3 => pk_some ?_)))))
  have g : ∀ i k, i ≠ 22 → i ≠ 23 → ¬ (i = 0 ∧ k = 36) → μ3.1 i k = μ.1 i k := by
    intro i k h1 h2 h3
    by_cases e : i = 0
    · subst e
      rw [m3, sF_k (fun e => h3 ⟨rfl, e⟩), m2, sF_i h2, m1, sF_i h1]
    · rw [m3, sF_i e, m2, sF_i h2, m1, sF_i h1]
  have t36 : (μ3.1 0 36).toInt = (m : Int) + 1 := by
    rw [m3, sF_v, m2, sF_i (by decide), m1, sF_i (by decide), ti_add (by have := hP.1; omega) (by have := hP.1; omega), e1, hP.1]
  refine ⟨fun i k h1 h2 h3 _ => g i k h2 h3 (fun e => h1 ⟨e.1, by omega⟩), ⟨⟨by rw [g 0 3 (by decide) (by decide) (by decide)]; exact hw.1.1, hw.1.2.1, fun j hj => by rw [g 1 j (by decide) (by decide) (by omega)]; exact hw.1.2.2 j hj⟩, by rw [g 0 5 (by decide) (by decide) (by decide)]; exact hw.2.1, by rw [g 0 4 (by decide) (by decide) (by decide)]; exact hw.2.2.1, hw.2.2.2⟩, ⟨by rw [t36]; omega, by omega, by rw [g 0 37 (by decide) (by decide) (by decide)]; exact hP.2.2.1, by have := hP.2.2.2; omega⟩, hC.cong (fun j _ => g 24 j (by decide) (by decide) (by omega))⟩
