theorem ci_ne {P : Nat} {μ : Mem} {a : Int32} (ha : a = 3 ∨ a = 4 ∨ a = 5) (h1 : inb (ci μ P) 432 = true) (h2 : inb ((((μ.1 P 0) - 1) * 6) + a) 432 = true) : (ci μ P).toNatClampNeg ≠ ((((μ.1 P 0) - 1) * 6) + a).toNatClampNeg := by
  intro e
  have i1 := (inb_iff.mp h1).1
  have i2 := (inb_iff.mp h2).1
  have n1 := ti_nat i1
  have n2 := ti_nat i2
  have : ci μ P = (((μ.1 P 0) - 1) * 6) + a := ti_eq.mpr (by omega)
  unfold ci at this
  have h := (Int32.add_right_inj _).mp this
  rcases ha with a1 | a1 | a1 <;> rw [a1] at h <;> exact absurd h (by decide)
theorem es_of {t : Nat → Int32} {n : Nat} {N : List Int32} {P : Nat} (hP : P29 P) {μ0 μ q : Mem} {p c c2 : Nat} (h : Es t n N P μ0 (.inr (p, c)) μ) (h1 : q.2.2 = μ.2.2) (h2 : ∀ i k, i ≠ P + 1 → ¬ (i = P ∧ k = 1) → q.1 i k = μ.1 i k) (h3 : (q.1 (P + 1) (ci μ P).toNatClampNeg).toInt = (c2 : Int)) : Xk P μ0 q ∧ Xw t n p q ∧ (c2 ≤ 80 → Es t n N P μ0 (.inr (p, c2)) q) := by
  unfold P29 at hP
  have e0 : q.1 P 0 = μ.1 P 0 := h2 _ _ (by omega) (by omega)
  have hk : Xk P μ0 q := h.1.tr ⟨h1, e0, fun k => h2 _ _ (by omega) (by omega), fun k => h2 _ _ (by omega) (by omega)⟩
  obtain ⟨⟨a1, a2, a3, a4⟩, b, c, d1, d2, d3, d4, d5, d6⟩ : Xq t n N P (p, c) μ := h.2
  have ec : ci q P = ci μ P := by unfold ci; rw [e0]
  have hw : Xw t n p q := ⟨⟨by rw [h2 16 1 (by omega) (by omega)]; exact a1.1, a1.2.1, fun j hj => by rw [h2 1 j (by omega) (by omega)]; exact a1.2.2 j hj⟩, by rw [h2 16 3 (by omega) (by omega)]; exact a2, by rw [h2 16 2 (by omega) (by omega)]; exact a3, a4⟩
  exact ⟨hk, hw, fun h8 => ⟨hk, hw, by rw [h2 16 6 (by omega) (by omega)]; exact b, c.cong (fun j _ => h2 17 j (by omega) (by omega)), by rw [e0]; exact d1, by rw [ec]; exact d2, by rw [ec]; exact h3, h8, by rw [h2 P 2 (by omega) (by omega)]; exact ⟨d5, d6⟩⟩⟩
theorem es_count {t : Nat → Int32} {n : Nat} {N : List Int32} {P : Nat} (hP : P29 P) {μ0 μ : Mem} {v : Nat × Nat} (hs : sel 2 (μ0.2.2 16 4) = P) {a : Int32} (ha : a = 3 ∨ a = 4 ∨ a = 5) (h : Es t n N P μ0 (.inr v) μ) : pk (p_X3_count (sel 2 (μ.2.2 16 4)) a μ) (fun r => Es t n N P μ0 (.inr v) r.2) := by
  rw [es_P hs h, p_X3_count_eq]
  have a2 : ¬ a = 2 := by rcases ha with e | e | e <;> rw [e] <;> decide
  refine pk_ite (fun _ => pk_some h) (fun _ => pk_ite (fun _ => pk_some h) (fun _ => pk_ite (fun _ => pk_ite (fun c => absurd c a2) (fun _ => ?_)) (fun _ => pk_some h)))
  rw [p_X3_count_b35_eq]
  refine pk_bvy (fun v5 e5 => pk_gd (fun g => pk_gd (fun _ => pk_bvy (fun μ6 e6 => pk_gd (fun _ => pk_some ?_)))))
  rw [e5] at g
  obtain ⟨p, c⟩ := v
  have hC : Cc μ P c := h.2.2.2.2
  refine (es_of hP h (by show μ6.2.2 = _; rw [e6]; rfl) (fun i k h1 _ => by show μ6.1 i k = _; rw [e6, sF_i h1]) (c2 := c) ?_).2.2 hC.2.2.2.1
  show (μ6.1 (P + 1) (ci μ P).toNatClampNeg).toInt = _
  rw [e6, sF_k (by rw [e5]; exact ci_ne ha hC.2.1 g)]; exact hC.2.2.1
theorem es_things {t : Nat → Int32} {n : Nat} {N : List Int32} {P : Nat} (hP : P29 P) {μ0 μ : Mem} {p c : Nat} (hs : sel 2 (μ0.2.2 16 4) = P) (h : Es t n N P μ0 (.inr (p, c)) μ) : pk (p_X3_count (sel 2 (μ.2.2 16 4)) 2 μ) (fun r => r.1.toInt = (c : Int) + 1 ∧ Xk P μ0 r.2 ∧ Xw t n p r.2 ∧ (c + 1 ≤ 80 → Es t n N P μ0 (.inr (p, c + 1)) r.2)) := by
  have e1 : (1 : Int32).toInt = 1 := by decide
  have hC : Cc μ P c := h.2.2.2.2
  rw [es_P hs h, p_X3_count_eq]
  refine pk_ite (fun c1 => ?_) (fun _ => pk_ite (fun c => absurd c (by decide)) (fun _ => pk_ite (fun _ => pk_ite (fun _ => pk_bvy (fun μ7 e7 => ?_)) (fun c => absurd rfl c)) (fun c => absurd (by decide) c)))
  · rw [ti_lt, e1] at c1; have := hC.1; omega
  rw [p_X3_count_b35_eq]
  have z0 : μ7.1 P 0 = μ.1 P 0 := by rw [e7, sF_k (by decide)]
  refine pk_bvy (fun v5 e5 => pk_gd (fun g => pk_gd (fun _ => pk_bvy (fun μ6 e6 => pk_gd (fun _ => pk_some ?_)))))
  have e5 : v5 = ci μ P := by rw [e5, z0]; rfl
  have z6 : μ6.1 P 0 = μ.1 P 0 := by rw [e6, sF_i (by omega), z0]
  have hv : (μ6.1 (P + 1) (ci μ P).toNatClampNeg).toInt = (c : Int) + 1 := by
    rw [e6, e5, sF_v, e7, sF_i (by omega), ti_add (by rw [hC.2.2.1, e1]; omega) (by rw [hC.2.2.1, e1]; have := hC.2.2.2.1; omega), hC.2.2.1, e1]
  refine ⟨?_, es_of hP h (q := μ6) (c2 := c + 1) (by rw [e6, e7]; rfl) (fun i k h1 h2 => ?_) (by rw [hv]; rfl)⟩
  · show (μ6.1 (P + 1) ((((μ6.1 P 0) - 1) * 6) + 2).toNatClampNeg).toInt = _
    rw [z6]; exact hv
  · rw [e6, sF_i h1, e7, sF_1]
    by_cases hi : i = P
    · subst hi; rw [if_pos rfl, if_neg (fun e => h2 ⟨rfl, e⟩)]
    · rw [if_neg hi]
theorem q_slot {a : Int32} {μ : Mem} : ∀ {N : List Int32}, (μ.1 16 6).toInt = (N.length : Int) → Nms μ N → N.length ≤ 31 → pk (p_X4_slotOf a μ) (fun r => r.2 = μ ∧ (r.1 = -1 ↔ ¬ a ∈ N)) := by
  intro N h6 hm hN
  have e1 : (1 : Int32).toInt = 1 := by decide
  have e0 : (0 : Int32).toInt = 0 := by decide
  have e32 : (32 : Int32).toInt = 32 := by decide
  have em : (-1 : Int32).toInt = -1 := by decide
  have loop : ∀ (fu : Nat) (N : List Int32) (a2 : Int32), a2.toInt = (N.length : Int) - 1 → Nms μ N → N.length ≤ 31 → pk (p_X4_slotOf_b7 fu a a2 μ) (fun r => r.2 = μ ∧ (r.1 = -1 ↔ ¬ a ∈ N)) := by
    intro fu
    induction fu with
    | zero => intro N a2 _ _ _ r e; rw [p_X4_slotOf_b7_z] at e; cases e
    | succ fu ih =>
      intro N a2 h2 hm hN
      rw [p_X4_slotOf_b7_s]
      cases N with
      | nil =>
        have h2 : a2.toInt = -1 := by rw [h2]; rfl
        rw [if_pos (by rw [ti_lt, e0]; omega)]
        exact pk_some ⟨rfl, by simp⟩
      | cons b N =>
        have h2 : a2.toInt = (N.length : Int) := by rw [h2]; simp
        have hN : N.length + 1 ≤ 31 := hN
        rw [if_neg (by rw [ti_lt, e0]; omega), if_neg (by rw [ti_le, e32]; omega)]
        refine pk_gd (fun _ => ?_)
        rw [tn_of h2, hm.1]
        refine pk_ite (fun c => pk_some ⟨rfl, ?_⟩) (fun c => ?_)
        · refine ⟨fun e => ?_, fun e => absurd (by rw [c]; simp) e⟩
          have e : a2 = -1 := e
          rw [e, em] at h2; omega
        · rw [p_X4_slotOf_b32_eq]
          refine pk_bv (pk_mono (ih N _ (by rw [ti_add (by omega) (by omega), em, h2]; omega) hm.2 (by omega)) (fun r hr => ⟨hr.1, hr.2.trans ?_⟩))
          rw [List.mem_cons]
          constructor
          · intro h e; rcases e with e | e
            · exact c e.symm
            · exact h e
          · intro h e; exact h (Or.inr e)
  rw [p_X4_slotOf_eq]
  exact pk_bv (loop FUEL N _ (by rw [ti_sub (by omega) (by omega), e1, h6]) hm hN)
theorem es_name {t : Nat → Int32} {n : Nat} {N : List Int32} {P : Nat} (hP : P29 P) {μ0 μ : Mem} {o : Rd (Nat × Nat)} (a : Int32) (hN : N.length ≤ 30) (h : Es t n N P μ0 o μ) : pk (p_X4_nameOne a μ) (Es t n (a :: N) P μ0 o) := by
  have e1 : (1 : Int32).toInt = 1 := by decide
  have e32 : (32 : Int32).toInt = 32 := by decide
  unfold P29 at hP
  rw [p_X4_nameOne_eq]
  cases o with
  | inl f =>
    refine pk_ite (fun _ => pk_some ⟨h.1, h.2⟩) (fun _ => pk_gd (fun _ => pk_bv (pk_bv (pk_some ?_))))
    have hf : Xf t n f μ := h.2
    refine ⟨h.1.tr ⟨rfl, ?_, fun k => ?_, fun k => ?_⟩, ⟨⟨?_, hf.1.2.1, fun j hj => ?_⟩, ?_⟩⟩
    · rw [sF_i (by omega), sF_i (by omega)]
    · rw [sF_i (by omega), sF_i (by omega)]
    · rw [sF_i (by omega), sF_i (by omega)]
    · rw [sF_k (by omega), sF_i (by omega)]; exact hf.1.1
    · rw [sF_i (by omega), sF_i (by omega)]; exact hf.1.2.2 j hj
    · rw [sF_k (by omega), sF_i (by omega)]; exact hf.2
  | inr v =>
    obtain ⟨hw, h6, hm, hC⟩ : Xq t n N P v μ := h.2
    refine pk_ite (fun c => ?_) (fun _ => pk_gd (fun _ => pk_bvy (fun μ2 e2 => pk_bvy (fun μ3 e3 => pk_some ?_))))
    · rw [ti_le, e32, h6] at c; omega
    have g : ∀ i k, i ≠ 17 → ¬ (i = 16 ∧ k = 6) → μ3.1 i k = μ.1 i k := by
      intro i k h1 h2
      rw [e3, sF_1]
      by_cases hi : i = 16
      · subst hi; rw [if_pos rfl, if_neg (fun e => h2 ⟨rfl, e⟩), e2, sF_i h1]
      · rw [if_neg hi, e2, sF_i h1]
    have e0 : μ3.1 P 0 = μ.1 P 0 := g _ _ (by omega) (by omega)
    have ec : ci μ3 P = ci μ P := by unfold ci; rw [e0]
    have t6 : μ2.1 16 6 = μ.1 16 6 := by rw [e2, sF_i (by decide)]
    have tn := tn_of h6
    refine ⟨h.1.tr ⟨by rw [e3, e2]; rfl, e0, fun k => g _ _ (by omega) (by omega), fun k => g _ _ (by omega) (by omega)⟩, ?_, ?_, ?_, ?_⟩
    · exact ⟨⟨by rw [g 16 1 (by omega) (by omega)]; exact hw.1.1, hw.1.2.1, fun j hj => by rw [g 1 j (by omega) (by omega)]; exact hw.1.2.2 j hj⟩, by rw [g 16 3 (by omega) (by omega)]; exact hw.2.1, by rw [g 16 2 (by omega) (by omega)]; exact hw.2.2.1, hw.2.2.2⟩
    · rw [e3, sF_v, t6, ti_add (by omega) (by omega), e1, h6]; simp
    · have q17 : ∀ j, μ3.1 17 j = if j = N.length then a else μ.1 17 j := by
        intro j
        rw [e3, sF_i (by decide), e2, sF_1, if_pos rfl, tn]
      exact ⟨by rw [q17, if_pos rfl], hm.cong (fun j hj => by rw [q17, if_neg (by omega)])⟩
    · exact ⟨by rw [e0]; exact hC.1, by rw [ec]; exact hC.2.1, by rw [ec, g (P + 1) _ (by omega) (by omega)]; exact hC.2.2.1, hC.2.2.2.1, by rw [g P 2 (by omega) (by omega)]; exact hC.2.2.2.2⟩
theorem es_back {t : Nat → Int32} {n : Nat} {N : List Int32} {P : Nat} (hP : P29 P) {μ0 μ : Mem} {o : Rd (Nat × Nat)} {a x : Int32} (hx : (∃ v, o = .inr v) → x.toInt = (N.length : Int)) (h : Es t n (a :: N) P μ0 o μ) : Es t n N P μ0 o (sF μ 16 6 x) := by
  unfold P29 at hP
  have g : ∀ i k, ¬ (i = 16 ∧ k = 6) → (sF μ 16 6 x).1 i k = μ.1 i k := by
    intro i k h2
    rw [sF_1]
    by_cases hi : i = 16
    · subst hi; rw [if_pos rfl, if_neg (fun e => h2 ⟨rfl, e⟩)]
    · rw [if_neg hi]
  have e0 : (sF μ 16 6 x).1 P 0 = μ.1 P 0 := g _ _ (by omega)
  have ec : ci (sF μ 16 6 x) P = ci μ P := by unfold ci; rw [e0]
  refine ⟨h.1.tr ⟨rfl, e0, fun k => g _ _ (by omega), fun k => g _ _ (by omega)⟩, ?_⟩
  cases o with
  | inl f =>
    have hf : Xf t n f μ := h.2
    exact ⟨⟨by rw [g 16 1 (by omega)]; exact hf.1.1, hf.1.2.1, fun j hj => by rw [g 1 j (by omega)]; exact hf.1.2.2 j hj⟩, by rw [g 16 3 (by omega)]; exact hf.2⟩
  | inr v =>
    obtain ⟨hw, h6, hm, hC⟩ : Xq t n (a :: N) P v μ := h.2
    exact ⟨⟨⟨by rw [g 16 1 (by omega)]; exact hw.1.1, hw.1.2.1, fun j hj => by rw [g 1 j (by omega)]; exact hw.1.2.2 j hj⟩, by rw [g 16 3 (by omega)]; exact hw.2.1, by rw [g 16 2 (by omega)]; exact hw.2.2.1, hw.2.2.2⟩, by rw [sF_v]; exact hx ⟨v, rfl⟩, hm.2.cong (fun j _ => g _ _ (by omega)), ⟨by rw [e0]; exact hC.1, by rw [ec]; exact hC.2.1, by rw [ec, g (P + 1) _ (by omega)]; exact hC.2.2.1, hC.2.2.2.1, by rw [g P 2 (by omega)]; exact hC.2.2.2.2⟩⟩
theorem es_well {t : Nat → Int32} {n : Nat} {N : List Int32} {P : Nat} {μ0 μ : Mem} {o : Rd (Nat × Nat)} (h : Es t n N P μ0 o μ) : pk (p_X4_isWell μ) (fun r => r.2 = μ ∧ ((r.1 = 0 ∧ ∃ f, o = .inl f) ∨ (¬ r.1 = 0 ∧ ∃ v, o = .inr v))) := by
  refine pk_mono q_Xwell (fun r hr => ⟨hr.1, ?_⟩)
  cases o with
  | inl f => exact Or.inl ⟨wl0 h.2 hr.2, f, rfl⟩
  | inr v => exact Or.inr ⟨wl1 h.2.1 hr.2, v, rfl⟩
