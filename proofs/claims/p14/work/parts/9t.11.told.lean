def cadd (s : Int32) (c : C4) : C4 := (c.1 + 1, c.2.1 + (if s = 12 then 1 else 0), c.2.2.1 + (if s = 8 then 1 else 0), c.2.2.2 + ((if s = 9 then 1 else 0) + (if s = 10 then 1 else 0)))
theorem nk_app (s : Int32) (A C : List Th3) : nk s (A ++ C) = nk s A + nk s C := by unfold nk; rw [List.filter_append, List.length_append]
theorem nk_one (s : Int32) (x : Th3) : nk s [x] = if x.1 = s then 1 else 0 := by
  unfold nk
  by_cases c : x.1 = s
  · rw [if_pos c, List.filter_cons_of_pos (by simp [c])]; rfl
  · rw [if_neg c, List.filter_cons_of_neg (by simp [c])]; rfl
theorem nk_le (s : Int32) (T : List Th3) : nk s T ≤ T.length := List.length_filter_le _ _
theorem cnt_app (T : List Th3) (x : Th3) : cnt (T ++ [x]) = cadd x.1 (cnt T) := by
  unfold cnt cadd
  rw [nk_app, nk_app, nk_app, nk_app, nk_one, nk_one, nk_one, nk_one, List.length_append]
  refine Prod.ext rfl (Prod.ext rfl (Prod.ext rfl ?_))
  show nk 9 T + _ + (nk 10 T + _) = nk 9 T + nk 10 T + (_ + _)
  omega
theorem nk_set {s : Int32} : ∀ {T : List Th3} {i : Nat} {x y : Th3}, T[i]? = some y → y.1 = x.1 → nk s (T.set i x) = nk s T := by
  intro T
  induction T with
  | nil => intro i x y h _; cases h
  | cons a T ih =>
    intro i x y h e
    cases i with
    | zero =>
      have h : a = y := Option.some.inj h
      show nk s (x :: T) = nk s (a :: T)
      rw [show x :: T = [x] ++ T from rfl, show a :: T = [a] ++ T from rfl, nk_app, nk_app, nk_one, nk_one, h, e]
    | succ i =>
      show nk s (a :: T.set i x) = nk s (a :: T)
      have h : T[i]? = some y := h
      rw [show a :: T.set i x = [a] ++ T.set i x from rfl, show a :: T = [a] ++ T from rfl, nk_app, nk_app, ih h e]
theorem cnt_set {T : List Th3} {i : Nat} {x y : Th3} (h : T[i]? = some y) (e : y.1 = x.1) : cnt (T.set i x) = cnt T := by
  unfold cnt
  rw [nk_set h e, nk_set h e, nk_set h e, nk_set h e, List.length_set]
theorem nk_two {a b : Int32} (hab : a ≠ b) : ∀ T : List Th3, nk a T + nk b T ≤ T.length := by
  intro T
  induction T with
  | nil => simp [nk]
  | cons x T ih =>
    rw [show x :: T = [x] ++ T from rfl, nk_app, nk_app, nk_one, nk_one, List.length_append]
    show _ ≤ 1 + T.length
    by_cases c : x.1 = a
    · rw [if_pos c, if_neg (fun e => hab (c.symm.trans e))]; omega
    · rw [if_neg c]; split <;> omega
theorem cnt_le (T : List Th3) : (cnt T).2.1 ≤ T.length ∧ (cnt T).2.2.1 ≤ T.length ∧ (cnt T).2.2.2 ≤ T.length := ⟨nk_le _ _, nk_le _ _, nk_two (by decide) T⟩
theorem ix6 {P f j : Nat} {μ : Mem} {a : Int32} (h0 : (μ.1 P 0).toInt = (f : Int) + 1) (hf : f ≤ 71) (ha : a.toInt = (j : Int)) (hj : j ≤ 5) : ((((μ.1 P 0) - 1) * 6) + a).toInt = ((6 * f + j : Nat) : Int) := by
  have e1 : (1 : Int32).toInt = 1 := by decide
  have e6 : (6 : Int32).toInt = 6 := by decide
  have s1 : ((μ.1 P 0) - 1).toInt = (f : Int) := by rw [ti_sub (by omega) (by omega), h0, e1]; omega
  have s2 : (((μ.1 P 0) - 1) * 6).toInt = 6 * (f : Int) := by rw [ti_mulc e6 (by omega) (by omega), s1]; omega
  rw [ti_add (by omega) (by omega), s2, ha]; omega
theorem q_cnt {P f j B : Nat} {c : C4} {a : Int32} {μ : Mem} (h : Ab P f B c μ) (ha : a.toInt = (j : Int)) (hj : 2 ≤ j ∧ j ≤ 5) : pk (p_X3_count P a μ) (fun r => r.2.2 = μ.2 ∧ (∀ i k, ¬ (i = P + 1 ∧ k = 6 * f + j) → ¬ (i = P ∧ k = 1 ∧ j = 2) → r.2.1 i k = μ.1 i k) ∧ r.2.1 (P + 1) (6 * f + j) = μ.1 (P + 1) (6 * f + j) + 1 ∧ (j = 2 → r.2.1 P 1 = μ.1 P 1 + 1) ∧ r.1 = μ.1 (P + 1) (6 * f + j) + 1) := by
  have e0 : (0 : Int32).toInt = 0 := by decide
  have e1 : (1 : Int32).toInt = 1 := by decide
  have e2 : (2 : Int32).toInt = 2 := by decide
  have e6 : (6 : Int32).toInt = 6 := by decide
  obtain ⟨⟨h0, hf⟩, _⟩ := h
  have b35 : ∀ z : Mem, z.1 P 0 = μ.1 P 0 → z.1 (P + 1) (6 * f + j) = μ.1 (P + 1) (6 * f + j) → pk (p_X3_count_b35 P a z) (fun r => r.2.2 = z.2 ∧ (∀ i k, ¬ (i = P + 1 ∧ k = 6 * f + j) → r.2.1 i k = z.1 i k) ∧ r.2.1 (P + 1) (6 * f + j) = μ.1 (P + 1) (6 * f + j) + 1 ∧ r.1 = μ.1 (P + 1) (6 * f + j) + 1) := by
    intro z z0 zj
    have hi := ix6 (P := P) (μ := z) (by rw [z0]; exact h0) hf ha hj.2
    rw [p_X3_count_b35_eq]
    refine pk_bvy (fun v5 e5 => pk_gd (fun _ => pk_gd (fun _ => pk_bvy (fun μ6 e6' => pk_gd (fun _ => pk_some ?_)))))
    rw [← e5] at hi
    rw [tn_of hi] at e6'
    have z60 : μ6.1 P 0 = z.1 P 0 := by rw [e6', sF_i (by omega)]
    have hv : μ6.1 (P + 1) (6 * f + j) = μ.1 (P + 1) (6 * f + j) + 1 := by rw [e6', sF_v, zj]
    refine ⟨by show μ6.2 = _; rw [e6']; rfl, fun i k hik => ?_, hv, ?_⟩
    · show μ6.1 i k = _
      rw [e6', sF_1]
      by_cases ci : i = P + 1
      · rw [if_pos ci, if_neg (fun e => hik ⟨ci, e⟩), ← ci]
      · rw [if_neg ci]
    · show μ6.1 (P + 1) ((((μ6.1 P 0) - 1) * 6) + a).toNatClampNeg = _
      rw [tn_of (ix6 (P := P) (μ := μ6) (by rw [z60, z0]; exact h0) hf ha hj.2)]
      exact hv
  rw [p_X3_count_eq]
  refine pk_ite (fun c => ?_) (fun _ => pk_ite (fun c => ?_) (fun _ => pk_ite (fun _ => pk_ite (fun c => pk_bvy (fun μ7 e7 => ?_)) (fun c => ?_)) (fun c => ?_)))
  · rw [ti_lt, h0, e1] at c; omega
  · rw [ti_lt, ha, e0] at c; omega
  · rw [ti_eq, ha, e2] at c
    have hj2 : j = 2 := by omega
    have g7 : ∀ i k, ¬ (i = P ∧ k = 1) → μ7.1 i k = μ.1 i k := by
      intro i k hik
      rw [e7, sF_1]
      by_cases ci : i = P
      · rw [if_pos ci, if_neg (fun e => hik ⟨ci, e⟩), ← ci]
      · rw [if_neg ci]
    refine pk_mono (b35 μ7 (g7 _ _ (by omega)) (g7 _ _ (by omega))) (fun r hr => ⟨by rw [hr.1, e7]; rfl, fun i k x y => by rw [hr.2.1 i k x, g7 i k (fun e => y ⟨e.1, e.2, hj2⟩)], hr.2.2.1, fun _ => by rw [hr.2.1 P 1 (by omega), e7, sF_v], hr.2.2.2⟩)
  · rw [ti_eq, ha, e2] at c
    exact pk_mono (b35 μ rfl rfl) (fun r hr => ⟨hr.1, fun i k x _ => hr.2.1 i k x, hr.2.2.1, fun e => by omega, hr.2.2.2⟩)
  · rw [ti_lt, ha, e6] at c; omega
def cb (j : Nat) (c : C4) : C4 := if j = 2 then (c.1 + 1, c.2) else if j = 3 then (c.1, c.2.1 + 1, c.2.2) else if j = 4 then (c.1, c.2.1, c.2.2.1 + 1, c.2.2.2) else (c.1, c.2.1, c.2.2.1, c.2.2.2 + 1)
theorem xq5_of {t : Nat → Int32} {n : Nat} {N : List Int32} {P f B p : Nat} {c c2 : C4} {C : List Th3} {d : Nat} (hP : P29 P) {μ q : Mem} (h : Xq5 t n N P f B p c C d μ) (g : ∀ i k, i ≠ P + 1 → ¬ (i = P ∧ k = 1) → q.1 i k = μ.1 i k) (hA : Ab P f B c2 q) : Xq5 t n N P f B p c2 C d q := by
  have h' := hP
  unfold P29 at h'
  obtain ⟨⟨⟨a1, a2, a3⟩, a4, a5, a6⟩, b, e, _, hL, hd⟩ := h
  exact ⟨⟨⟨by rw [g 16 1 (by omega) (by omega)]; exact a1, a2, fun k hk => by rw [g 1 k (by omega) (by omega)]; exact a3 k hk⟩, by rw [g 16 3 (by omega) (by omega)]; exact a4, by rw [g 16 2 (by omega) (by omega)]; exact a5, a6⟩, by rw [g 16 6 (by omega) (by omega)]; exact b, e.cong (fun k _ => g 17 k (by omega) (by omega)), hA, hL.cong (g _ _ (by omega) (by omega)) (fun k => g _ _ (by omega) (by omega)) (fun k => g _ _ (by omega) (by omega)) (fun k => g _ _ (by omega) (by omega)), hd⟩
theorem xw_of5 {t : Nat → Int32} {n p P : Nat} (hP : P29 P) {μ q : Mem} (h : Xw t n p μ) (g : ∀ i k, i ≠ P + 1 → ¬ (i = P ∧ k = 1) → q.1 i k = μ.1 i k) : Xw t n p q := by
  unfold P29 at hP
  obtain ⟨⟨a1, a2, a3⟩, a4, a5, a6⟩ := h
  exact ⟨⟨by rw [g 16 1 (by omega) (by omega)]; exact a1, a2, fun k hk => by rw [g 1 k (by omega) (by omega)]; exact a3 k hk⟩, by rw [g 16 3 (by omega) (by omega)]; exact a4, by rw [g 16 2 (by omega) (by omega)]; exact a5, a6⟩
theorem xk5_cnt {P f j : Nat} (hP : P29 P) (hj : 2 ≤ j) {μ q : Mem} (h1 : q.2 = μ.2) (g : ∀ i k, ¬ (i = P + 1 ∧ k = 6 * f + j) → ¬ (i = P ∧ k = 1 ∧ j = 2) → q.1 i k = μ.1 i k) : Xk5 P f μ q := by
  unfold P29 at hP
  exact ⟨h1, fun i k _ _ a b _ _ _ => g i k (fun e => b e.1) (fun e => a e.1), g _ _ (by omega) (by omega), fun k hk => g _ _ (by omega) (by omega)⟩
theorem ab_cb {P f j B : Nat} {c : C4} {μ q : Mem} (h : Ab P f B c μ) (hj : 2 ≤ j ∧ j ≤ 5) (g : ∀ i k, ¬ (i = P + 1 ∧ k = 6 * f + j) → ¬ (i = P ∧ k = 1 ∧ j = 2) → q.1 i k = μ.1 i k) (hv : q.1 (P + 1) (6 * f + j) = μ.1 (P + 1) (6 * f + j) + 1) (ht : j = 2 → q.1 P 1 = μ.1 P 1 + 1) (hb : (cb j c).1 ≤ 80 ∧ (cb j c).2.1 ≤ 80 ∧ (cb j c).2.2.1 ≤ 80 ∧ (cb j c).2.2.2 ≤ 80) : Ab P f B (cb j c) q := by
  have e1 : (1 : Int32).toInt = 1 := by decide
  obtain ⟨⟨h0, hf⟩, ⟨b2, b3, b4, b5⟩, h1, ⟨l1, l2, l3, l4, l5⟩⟩ := h
  have inc : ∀ (k m : Nat), k = 6 * f + j → (μ.1 (P + 1) k).toInt = (m : Int) → m ≤ 80 → (q.1 (P + 1) k).toInt = ((m + 1 : Nat) : Int) := by
    intro k m hk hm h8
    rw [hk] at hm ⊢
    rw [hv, ti_add (by omega) (by omega), hm, e1]; omega
  have p0 : q.1 P 0 = μ.1 P 0 := g _ _ (by omega) (by omega)
  refine ⟨⟨by rw [p0]; exact h0, hf⟩, ?_, ?_, ⟨hb.1, hb.2.1, hb.2.2.1, hb.2.2.2, l5⟩⟩
  · rcases (show j = 2 ∨ j = 3 ∨ j = 4 ∨ j = 5 by omega) with r | r | r | r
    · subst r; exact ⟨inc _ _ rfl b2 l1, by rw [g _ _ (by omega) (by omega)]; exact b3, by rw [g _ _ (by omega) (by omega)]; exact b4, by rw [g _ _ (by omega) (by omega)]; exact b5⟩
    · subst r; exact ⟨by rw [g _ _ (by omega) (by omega)]; exact b2, inc _ _ rfl b3 l2, by rw [g _ _ (by omega) (by omega)]; exact b4, by rw [g _ _ (by omega) (by omega)]; exact b5⟩
    · subst r; exact ⟨by rw [g _ _ (by omega) (by omega)]; exact b2, by rw [g _ _ (by omega) (by omega)]; exact b3, inc _ _ rfl b4 l3, by rw [g _ _ (by omega) (by omega)]; exact b5⟩
    · subst r; exact ⟨by rw [g _ _ (by omega) (by omega)]; exact b2, by rw [g _ _ (by omega) (by omega)]; exact b3, by rw [g _ _ (by omega) (by omega)]; exact b4, inc _ _ rfl b5 l4⟩
  · by_cases c2 : j = 2
    · subst c2
      rw [ht rfl, ti_add (by omega) (by omega), h1, e1]; show _ = ((B + (c.1 + 1) : Nat) : Int); omega
    · rw [g _ _ (by omega) (by omega), h1]
      have : (cb j c).1 = c.1 := by unfold cb; rw [if_neg c2]; split; rfl; split <;> rfl
      rw [this]
theorem xq5_cnt {t : Nat → Int32} {n : Nat} {N : List Int32} {P f B p j : Nat} {c : C4} {C : List Th3} {d : Nat} {a : Int32} (hP : P29 P) {μ : Mem} (h : Xq5 t n N P f B p c C d μ) (ha : a.toInt = (j : Int)) (hj : 2 ≤ j ∧ j ≤ 5) (hb : (cb j c).1 ≤ 80 ∧ (cb j c).2.1 ≤ 80 ∧ (cb j c).2.2.1 ≤ 80 ∧ (cb j c).2.2.2 ≤ 80) : pk (p_X3_count P a μ) (fun r => Xk5 P f μ r.2 ∧ Xq5 t n N P f B p (cb j c) C d r.2) :=
  pk_mono (q_cnt h.2.2.2.1 ha hj) (fun r hr => ⟨xk5_cnt hP hj.1 hr.1 hr.2.1, xq5_of hP h (fun i k x y => hr.2.1 i k (fun e => x e.1) (fun e => y ⟨e.1, e.2.1⟩)) (ab_cb h.2.2.2.1 hj hr.2.1 hr.2.2.1 hr.2.2.2.1 hb)⟩)
theorem xq5_things {t : Nat → Int32} {n : Nat} {N : List Int32} {P f B p : Nat} {c : C4} {C : List Th3} {d : Nat} (hP : P29 P) {μ : Mem} (h : Xq5 t n N P f B p c C d μ) : pk (p_X3_count P 2 μ) (fun r => r.1.toInt = (c.1 : Int) + 1 ∧ Xk5 P f μ r.2 ∧ Xw t n p r.2 ∧ (c.1 + 1 ≤ 80 → Xq5 t n N P f B p (c.1 + 1, c.2) C d r.2)) := by
  have e1 : (1 : Int32).toInt = 1 := by decide
  have hA := h.2.2.2.1
  obtain ⟨_, ⟨b2, _⟩, _, ⟨l1, l2, l3, l4, _⟩⟩ := hA
  refine pk_mono (q_cnt (j := 2) h.2.2.2.1 (by decide) (by omega)) (fun r hr => ⟨?_, xk5_cnt hP (by omega) hr.1 hr.2.1, xw_of5 hP h.1 (fun i k x y => hr.2.1 i k (fun e => x e.1) (fun e => y ⟨e.1, e.2.1⟩)), fun h8 => ?_⟩)
  · rw [hr.2.2.2.2, ti_add (by omega) (by omega), b2, e1]
  · exact xq5_of hP h (fun i k x y => hr.2.1 i k (fun e => x e.1) (fun e => y ⟨e.1, e.2.1⟩)) (ab_cb (j := 2) h.2.2.2.1 (by omega) hr.2.1 hr.2.2.1 hr.2.2.2.1 ⟨h8, l2, l3, l4⟩)
theorem q_slotV {a : Int32} {μ : Mem} : ∀ {N : List Int32}, (μ.1 16 6).toInt = (N.length : Int) → Nms μ N → N.length ≤ 31 → a ∈ N → pk (p_X4_slotOf a μ) (fun r => r.1.toInt = (slt N a : Int)) := by
  intro N h6 hm hN ha
  have e1 : (1 : Int32).toInt = 1 := by decide
  have e0 : (0 : Int32).toInt = 0 := by decide
  have e32 : (32 : Int32).toInt = 32 := by decide
  have em : (-1 : Int32).toInt = -1 := by decide
  have loop : ∀ (fu : Nat) (N : List Int32) (a2 : Int32), a2.toInt = (N.length : Int) - 1 → Nms μ N → N.length ≤ 31 → a ∈ N → pk (p_X4_slotOf_b7 fu a a2 μ) (fun r => r.1.toInt = (slt N a : Int)) := by
    intro fu
    induction fu with
    | zero => intro N a2 _ _ _ _ r e; rw [p_X4_slotOf_b7_z] at e; cases e
    | succ fu ih =>
      intro N a2 h2 hm hN ha
      rw [p_X4_slotOf_b7_s]
      cases N with
      | nil => cases ha
      | cons b N =>
        have h2 : a2.toInt = (N.length : Int) := by rw [h2]; simp
        have hN : N.length + 1 ≤ 31 := hN
        rw [if_neg (by rw [ti_lt, e0]; omega), if_neg (by rw [ti_le, e32]; omega)]
        refine pk_gd (fun _ => ?_)
        rw [tn_of h2, hm.1]
        refine pk_ite (fun c => pk_some ?_) (fun c => ?_)
        · show a2.toInt = ((if b = a then N.length else slt N a : Nat) : Int)
          rw [if_pos c]; exact h2
        · rw [p_X4_slotOf_b32_eq]
          refine pk_bv (pk_mono (ih N _ (by rw [ti_add (by omega) (by omega), em, h2]; omega) hm.2 (by omega) ?_) (fun r hr => ?_))
          · rcases List.mem_cons.mp ha with e | e
            · exact absurd e.symm c
            · exact e
          · show r.1.toInt = ((if b = a then N.length else slt N a : Nat) : Int)
            rw [if_neg c]; exact hr
  rw [p_X4_slotOf_eq]
  exact pk_bv (loop FUEL N _ (by rw [ti_sub (by omega) (by omega), e1, h6]) hm hN ha)
theorem Xk5.nm {P f : Nat} (hP : P29 P) {μ q : Mem} (h1 : q.2 = μ.2) (g : ∀ i k, i ≠ 17 → ¬ (i = 16 ∧ k = 6) → q.1 i k = μ.1 i k) : Xk5 P f μ q := by
  unfold P29 at hP
  exact ⟨h1, fun i k a b _ _ _ _ _ => g i k b (fun e => a e.1), g _ _ (by omega) (by omega), fun k _ => g _ _ (by omega) (by omega)⟩
theorem es5_name {t : Nat → Int32} {n : Nat} {N : List Int32} {P f B d : Nat} (hP : P29 P) {μ0 μ : Mem} {o : Rd (Nat × Py)} (a : Int32) (hN : N.length ≤ 30) (h : Es5 t n N P f B d μ0 o μ) : pk (p_X4_nameOne a μ) (Es5 t n (a :: N) P f B d μ0 o) := by
  have e1 : (1 : Int32).toInt = 1 := by decide
  have e32 : (32 : Int32).toInt = 32 := by decide
  have h' := hP
  unfold P29 at h'
  rw [p_X4_nameOne_eq]
  have gg : ∀ (μ2 μ3 : Mem), μ2 = sF μ 17 (μ.1 16 6).toNatClampNeg a → μ3 = sF μ2 16 6 ((μ2.1 16 6) + 1) → ∀ i k, i ≠ 17 → ¬ (i = 16 ∧ k = 6) → μ3.1 i k = μ.1 i k := by
    intro μ2 μ3 e2 e3 i k h1 h2
    rw [e3, sF_1]
    by_cases hi : i = 16
    · subst hi; rw [if_pos rfl, if_neg (fun e => h2 ⟨rfl, e⟩), e2, sF_i h1]
    · rw [if_neg hi, e2, sF_i h1]
  cases o with
  | inl x =>
    refine pk_ite (fun _ => pk_some ⟨h.1, h.2⟩) (fun _ => pk_gd (fun _ => pk_bvy (fun μ2 e2 => pk_bvy (fun μ3 e3 => pk_some ?_))))
    have g := gg μ2 μ3 e2 e3
    have hf : Xf t n x μ := h.2
    exact ⟨h.1.tr (Xk5.nm hP (by rw [e3, e2]; rfl) g), ⟨⟨by rw [g 16 1 (by omega) (by omega)]; exact hf.1.1, hf.1.2.1, fun j hj => by rw [g 1 j (by omega) (by omega)]; exact hf.1.2.2 j hj⟩, by rw [g 16 3 (by omega) (by omega)]; exact hf.2⟩⟩
  | inr v =>
    obtain ⟨hw, h6, hm, hA, hL, hd⟩ : Xq5 t n N P f B v.1 (cnt v.2.1) v.2.2 d μ := h.2
    refine pk_ite (fun c => ?_) (fun _ => pk_gd (fun _ => pk_bvy (fun μ2 e2 => pk_bvy (fun μ3 e3 => pk_some ?_))))
    · rw [ti_le, e32, h6] at c; omega
    have g := gg μ2 μ3 e2 e3
    have t6 : μ2.1 16 6 = μ.1 16 6 := by rw [e2, sF_i (by decide)]
    have tn := tn_of h6
    refine ⟨h.1.tr (Xk5.nm hP (by rw [e3, e2]; rfl) g), ?_, ?_, ?_, ?_, ?_, hd⟩
    · exact ⟨⟨by rw [g 16 1 (by omega) (by omega)]; exact hw.1.1, hw.1.2.1, fun j hj => by rw [g 1 j (by omega) (by omega)]; exact hw.1.2.2 j hj⟩, by rw [g 16 3 (by omega) (by omega)]; exact hw.2.1, by rw [g 16 2 (by omega) (by omega)]; exact hw.2.2.1, hw.2.2.2⟩
    · rw [e3, sF_v, t6, ti_add (by omega) (by omega), e1, h6]; simp
    · have q17 : ∀ j, μ3.1 17 j = if j = N.length then a else μ.1 17 j := by
        intro j
        rw [e3, sF_i (by decide), e2, sF_1, if_pos rfl, tn]
      exact ⟨by rw [q17, if_pos rfl], hm.cong (fun j hj => by rw [q17, if_neg (by omega)])⟩
    · exact hA.cong (g _ _ (by omega) (by omega)) (g _ _ (by omega) (by omega)) (fun k => g _ _ (by omega) (by omega))
    · exact hL.cong (g _ _ (by omega) (by omega)) (fun k => g _ _ (by omega) (by omega)) (fun k => g _ _ (by omega) (by omega)) (fun k => g _ _ (by omega) (by omega))
theorem es5_back {t : Nat → Int32} {n : Nat} {N : List Int32} {P f B d : Nat} (hP : P29 P) {μ0 μ : Mem} {o : Rd (Nat × Py)} {a x : Int32} (hx : (∃ v, o = .inr v) → x.toInt = (N.length : Int)) (h : Es5 t n (a :: N) P f B d μ0 o μ) : Es5 t n N P f B d μ0 o (sF μ 16 6 x) := by
  have h' := hP
  unfold P29 at h'
  have g : ∀ i k, ¬ (i = 16 ∧ k = 6) → (sF μ 16 6 x).1 i k = μ.1 i k := by
    intro i k h2
    rw [sF_1]
    by_cases hi : i = 16
    · subst hi; rw [if_pos rfl, if_neg (fun e => h2 ⟨rfl, e⟩)]
    · rw [if_neg hi]
  refine ⟨h.1.tr (Xk5.nm hP rfl (fun i k _ h2 => g i k h2)), ?_⟩
  cases o with
  | inl y =>
    have hf : Xf t n y μ := h.2
    exact ⟨⟨by rw [g 16 1 (by omega)]; exact hf.1.1, hf.1.2.1, fun j hj => by rw [g 1 j (by omega)]; exact hf.1.2.2 j hj⟩, by rw [g 16 3 (by omega)]; exact hf.2⟩
  | inr v =>
    obtain ⟨hw, h6, hm, hA, hL, hd⟩ : Xq5 t n (a :: N) P f B v.1 (cnt v.2.1) v.2.2 d μ := h.2
    exact ⟨⟨⟨by rw [g 16 1 (by omega)]; exact hw.1.1, hw.1.2.1, fun j hj => by rw [g 1 j (by omega)]; exact hw.1.2.2 j hj⟩, by rw [g 16 3 (by omega)]; exact hw.2.1, by rw [g 16 2 (by omega)]; exact hw.2.2.1, hw.2.2.2⟩, by rw [sF_v]; exact hx ⟨v, rfl⟩, hm.2.cong (fun j _ => g _ _ (by omega)), hA.cong (g _ _ (by omega)) (g _ _ (by omega)) (fun k => g _ _ (by omega)), hL.cong (g _ _ (by omega)) (fun k => g _ _ (by omega)) (fun k => g _ _ (by omega)) (fun k => g _ _ (by omega)), hd⟩
