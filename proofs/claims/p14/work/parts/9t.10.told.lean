abbrev C4 := Nat × Nat × Nat × Nat
def nk (s : Int32) (T : List Th3) : Nat := (T.filter (fun x => decide (x.1 = s))).length
def cnt (T : List Th3) : C4 := (T.length, nk 12 T, nk 8 T, nk 9 T + nk 10 T)
def Lc (P : Nat) (C : List Th3) (μ : Mem) : Prop := (μ.1 P 2).toInt = (C.length : Int) ∧ ∀ i x, C[i]? = some x → μ.1 (P + 4) i = x.1 ∧ μ.1 (P + 5) i = x.2.1 ∧ μ.1 (P + 6) i = x.2.2
def Ab (P f B : Nat) (c : C4) (μ : Mem) : Prop := ((μ.1 P 0).toInt = (f : Int) + 1 ∧ f ≤ 71) ∧ ((μ.1 (P + 1) (6 * f + 2)).toInt = (c.1 : Int) ∧ (μ.1 (P + 1) (6 * f + 3)).toInt = (c.2.1 : Int) ∧ (μ.1 (P + 1) (6 * f + 4)).toInt = (c.2.2.1 : Int) ∧ (μ.1 (P + 1) (6 * f + 5)).toInt = (c.2.2.2 : Int)) ∧ (μ.1 P 1).toInt = ((B + c.1 : Nat) : Int) ∧ (c.1 ≤ 80 ∧ c.2.1 ≤ 80 ∧ c.2.2.1 ≤ 80 ∧ c.2.2.2 ≤ 80 ∧ B ≤ 100000)
def Xq5 (t : Nat → Int32) (n : Nat) (N : List Int32) (P f B p : Nat) (c : C4) (C : List Th3) (d : Nat) (μ : Mem) : Prop := Xw t n p μ ∧ (μ.1 16 6).toInt = (N.length : Int) ∧ Nms μ N ∧ Ab P f B c μ ∧ Lc P C μ ∧ C.length + d ≤ 3 * p + f
def Xk5 (P f : Nat) (μ q : Mem) : Prop := q.2 = μ.2 ∧ (∀ i k, i ≠ 16 → i ≠ 17 → i ≠ P → i ≠ P + 1 → i ≠ P + 4 → i ≠ P + 5 → i ≠ P + 6 → q.1 i k = μ.1 i k) ∧ q.1 P 0 = μ.1 P 0 ∧ (∀ k, k < 6 * f + 2 → q.1 (P + 1) k = μ.1 (P + 1) k)
def Es5 (t : Nat → Int32) (n : Nat) (N : List Int32) (P f B d : Nat) (μ0 : Mem) (o : Rd (Nat × Py)) (q : Mem) : Prop := Xk5 P f μ0 q ∧ (match o with | .inl x => Xf t n x q | .inr v => Xq5 t n N P f B v.1 (cnt v.2.1) v.2.2 d q)
theorem Xk5.rf {P f : Nat} {μ : Mem} : Xk5 P f μ μ := ⟨rfl, fun _ _ _ _ _ _ _ _ _ => rfl, rfl, fun _ _ => rfl⟩
theorem Xk5.tr {P f : Nat} {μ q z : Mem} (h : Xk5 P f μ q) (h2 : Xk5 P f q z) : Xk5 P f μ z := ⟨h2.1.trans h.1, fun i k a b c d e g l => (h2.2.1 i k a b c d e g l).trans (h.2.1 i k a b c d e g l), h2.2.2.1.trans h.2.2.1, fun k hk => (h2.2.2.2 k hk).trans (h.2.2.2 k hk)⟩
theorem Xe.xk5 {P f : Nat} (hP : P29 P) {μ q : Mem} (h : Xe μ q) : Xk5 P f μ q := by
  unfold P29 at hP
  exact ⟨h.1, fun i k a _ _ _ _ _ _ => h.2.2 i k a, h.2.2 _ _ (by omega), fun k _ => h.2.2 _ _ (by omega)⟩
theorem Ab.cong {P f B : Nat} {c : C4} {μ q : Mem} (h : Ab P f B c μ) (h0 : q.1 P 0 = μ.1 P 0) (h1 : q.1 P 1 = μ.1 P 1) (h2 : ∀ k, q.1 (P + 1) k = μ.1 (P + 1) k) : Ab P f B c q := by
  obtain ⟨a, b, d, e⟩ := h
  exact ⟨by rw [h0]; exact a, by rw [h2, h2, h2, h2]; exact b, by rw [h1]; exact d, e⟩
theorem Lc.cong {P : Nat} {C : List Th3} {μ q : Mem} (h : Lc P C μ) (h0 : q.1 P 2 = μ.1 P 2) (h4 : ∀ k, q.1 (P + 4) k = μ.1 (P + 4) k) (h5 : ∀ k, q.1 (P + 5) k = μ.1 (P + 5) k) (h6 : ∀ k, q.1 (P + 6) k = μ.1 (P + 6) k) : Lc P C q :=
  ⟨by rw [h0]; exact h.1, fun i x hx => by rw [h4, h5, h6]; exact h.2 i x hx⟩
theorem Ab.xe {P f B : Nat} {c : C4} (hP : P29 P) {μ q : Mem} (h : Ab P f B c μ) (e : Xe μ q) : Ab P f B c q := by
  unfold P29 at hP
  exact h.cong (e.2.2 _ _ (by omega)) (e.2.2 _ _ (by omega)) (fun k => e.2.2 _ _ (by omega))
theorem Lc.xe {P : Nat} {C : List Th3} (hP : P29 P) {μ q : Mem} (h : Lc P C μ) (e : Xe μ q) : Lc P C q := by
  unfold P29 at hP
  exact h.cong (e.2.2 _ _ (by omega)) (fun k => e.2.2 _ _ (by omega)) (fun k => e.2.2 _ _ (by omega)) (fun k => e.2.2 _ _ (by omega))
theorem xq5_xo {t : Nat → Int32} {n : Nat} {N : List Int32} {P f B p p2 : Nat} {c : C4} {C : List Th3} {d : Nat} (hP : P29 P) {μ q : Mem} (h : Xq5 t n N P f B p c C d μ) (hE : Xe μ q) (hw : Xw t n p2 q) (h6 : q.1 16 6 = μ.1 16 6) (hp : p ≤ p2) : Xq5 t n N P f B p2 c C d q := by
  obtain ⟨_, hn, hm, hA, hL, hd⟩ := h
  exact ⟨hw, by rw [h6]; exact hn, hm.cong (fun j _ => hE.2.2 _ _ (by decide)), hA.xe hP hE, hL.xe hP hE, by omega⟩
theorem es5_fail {t : Nat → Int32} {n : Nat} {N : List Int32} {P f B d : Nat} (hP : P29 P) {μ0 μ : Mem} {p : Nat} (h1 : Xk5 P f μ0 μ) (h2 : Xw t n p μ) : pk (p_X4_fail (μ.1 16 2) μ) (Es5 t n N P f B d μ0 (.inl p)) :=
  pk_mono (q_Xfail h2) (fun q hq => ⟨h1.tr (hq.1.xk5 hP), hq.2⟩)
theorem es5_take {t : Nat → Int32} {n : Nat} {N : List Int32} {P f B d : Nat} (hP : P29 P) {μ0 μ : Mem} {o : Rd (Nat × Py)} {c : Int32} (hc : c ≠ -1) (h : Es5 t n N P f B d μ0 o μ) : pk (p_X4_take c μ) (fun r => Es5 t n N P f B d μ0 (tkP t n c o) r.2) := by
  cases o with
  | inl x =>
    refine pk_mono (q_Xtakef c h.2) (fun r e => ?_)
    have e : r.2 = μ := e
    rw [e]; exact h
  | inr v =>
    have hq : Xq5 t n N P f B v.1 (cnt v.2.1) v.2.2 d μ := h.2
    refine pk_mono (pk_both (q_Xtake hc hq.1) (x6_take c μ)) (fun r hx => ?_)
    obtain ⟨⟨hE, ho⟩, h6⟩ := hx
    refine ⟨h.1.tr (hE.xk5 hP), ?_⟩
    show (match (if hr t n v.1 = c then .inr (v.1 + 1, v.2) else .inl v.1 : Rd (Nat × Py)) with | .inl x => Xf t n x r.2 | .inr v => Xq5 t n N P f B v.1 (cnt v.2.1) v.2.2 d r.2)
    by_cases c1 : hr t n v.1 = c
    · rw [if_pos c1] at ho ⊢; exact xq5_xo hP hq hE ho h6 (Nat.le_succ _)
    · rw [if_neg c1] at ho ⊢; exact ho
theorem xq5_next {t : Nat → Int32} {n : Nat} {N : List Int32} {P f B p : Nat} {c : C4} {C : List Th3} {d : Nat} (hP : P29 P) {μ : Mem} (h : Xq5 t n N P f B p c C d μ) (hp : p < n) : Xq5 t n N P f B (p + 1) c C (d + 3) (sF μ 16 2 (μ.1 16 2 + 1)) := by
  have hE : Xe μ (sF μ 16 2 (μ.1 16 2 + 1)) := Xe.put (by decide) _
  obtain ⟨a, b, e, g, i, j⟩ := xq5_xo hP h hE (xw_next h.1 hp) (by rw [sF_k (by decide)]) (Nat.le_succ _)
  have hd := h.2.2.2.2.2
  exact ⟨a, b, e, g, i, by omega⟩
theorem xk5_next {P f : Nat} (hP : P29 P) {μ0 μ : Mem} (h : Xk5 P f μ0 μ) : Xk5 P f μ0 (sF μ 16 2 (μ.1 16 2 + 1)) := h.tr (Xe.xk5 hP (Xe.put (by decide) _))
theorem es5_here {t : Nat → Int32} {n : Nat} {N : List Int32} {P f B d : Nat} {μ0 μ : Mem} {v : Nat × Py} (h : Es5 t n N P f B d μ0 (.inr v) μ) : pk (p_X4_here μ) (fun r => r.2 = μ ∧ r.1 = hr t n v.1) := q_Xhere h.2.1
theorem es5_well {t : Nat → Int32} {n : Nat} {N : List Int32} {P f B d : Nat} {μ0 μ : Mem} {o : Rd (Nat × Py)} (h : Es5 t n N P f B d μ0 o μ) : pk (p_X4_isWell μ) (fun r => r.2 = μ ∧ ((r.1 = 0 ∧ ∃ x, o = .inl x) ∨ (¬ r.1 = 0 ∧ ∃ v, o = .inr v))) := by
  refine pk_mono q_Xwell (fun r hr => ⟨hr.1, ?_⟩)
  cases o with
  | inl x => exact Or.inl ⟨wl0 h.2 hr.2, x, rfl⟩
  | inr v => exact Or.inr ⟨wl1 h.2.1 hr.2, v, rfl⟩
theorem Es5.dn {t : Nat → Int32} {n : Nat} {N : List Int32} {P f B d d2 : Nat} {μ0 μ : Mem} {o : Rd (Nat × Py)} (h : Es5 t n N P f B d μ0 o μ) (hd : d2 ≤ d) : Es5 t n N P f B d2 μ0 o μ := by
  refine ⟨h.1, ?_⟩
  cases o with
  | inl x => exact h.2
  | inr v =>
    obtain ⟨a, b, e, g, i, j⟩ : Xq5 t n N P f B v.1 (cnt v.2.1) v.2.2 d μ := h.2
    exact ⟨a, b, e, g, i, by omega⟩
def Ir5 (P : Nat) (μ q : Mem) : Prop := q.2 = μ.2 ∧ (∀ i k, i ≠ P + 4 → i ≠ P + 5 → i ≠ P + 6 → ¬ (i = P ∧ k = 2) → q.1 i k = μ.1 i k)
theorem Ir5.xk {P f : Nat} (hP : P29 P) {μ q : Mem} (h : Ir5 P μ q) : Xk5 P f μ q := by
  unfold P29 at hP
  exact ⟨h.1, fun i k _ _ c _ e g l => h.2 i k e g l (fun x => c x.1), h.2 _ _ (by omega) (by omega) (by omega) (by omega), fun k _ => h.2 _ _ (by omega) (by omega) (by omega) (by omega)⟩
theorem xs_ir5 {t : Nat → Int32} {n : Nat} {P : Nat} (hP : P29 P) {μ q : Mem} (h : Ir5 P μ q) (hs : Xs t n μ) : Xs t n q := by
  unfold P29 at hP
  exact ⟨by rw [h.2 16 1 (by omega) (by omega) (by omega) (by omega)]; exact hs.1, hs.2.1, fun j hj => by rw [h.2 1 j (by omega) (by omega) (by omega) (by omega)]; exact hs.2.2 j hj⟩
theorem xf_ir5 {t : Nat → Int32} {n x : Nat} {P : Nat} (hP : P29 P) {μ q : Mem} (h : Ir5 P μ q) (hf : Xf t n x μ) : Xf t n x q := by
  have h' := hP
  unfold P29 at h'
  exact ⟨xs_ir5 hP h hf.1, by rw [h.2 16 3 (by omega) (by omega) (by omega) (by omega)]; exact hf.2⟩
theorem xq5_ir {t : Nat → Int32} {n : Nat} {N : List Int32} {P f B p : Nat} {c : C4} {C C2 : List Th3} {d d2 : Nat} (hP : P29 P) {μ q : Mem} (h : Xq5 t n N P f B p c C d μ) (hi : Ir5 P μ q) (hL : Lc P C2 q) (hd : C2.length + d2 ≤ 3 * p + f) : Xq5 t n N P f B p c C2 d2 q := by
  have h' := hP
  unfold P29 at h'
  obtain ⟨⟨a1, a2, a3, a4⟩, b, e, g, _, _⟩ := h
  have g2 := hi.2
  exact ⟨⟨xs_ir5 hP hi a1, by rw [g2 16 3 (by omega) (by omega) (by omega) (by omega)]; exact a2, by rw [g2 16 2 (by omega) (by omega) (by omega) (by omega)]; exact a3, a4⟩, by rw [g2 16 6 (by omega) (by omega) (by omega) (by omega)]; exact b, e.cong (fun j _ => g2 17 j (by omega) (by omega) (by omega) (by omega)), g.cong (g2 _ _ (by omega) (by omega) (by omega) (by omega)) (g2 _ _ (by omega) (by omega) (by omega) (by omega)) (fun k => g2 _ _ (by omega) (by omega) (by omega) (by omega)), hL, hd⟩
theorem q_addf (P : Nat) (a1 a2 a3 : Int32) (μ : Mem) : pk (p_X3_add P a1 a2 a3 μ) (fun r => Ir5 P μ r.2) := by
  rw [p_X3_add_eq]
  refine pk_ite (fun c => ?_) (fun c => pk_some ⟨rfl, fun _ _ _ _ _ _ => rfl⟩)
  refine pk_gd (fun _ => pk_bvy (fun μ2 e2 => pk_gd (fun _ => pk_bvy (fun μ3 e3 => pk_gd (fun _ => pk_bvy (fun μ4 e4 => pk_bvy (fun μ5 e5 => pk_some ?_)))))))
  refine ⟨by show μ5.2 = _; rw [e5, e4, e3, e2]; rfl, fun i k h4 h5 h6 h => ?_⟩
  show μ5.1 i k = _
  have : μ5.1 i k = μ4.1 i k := by
    rw [e5, sF_1]
    by_cases hi : i = P
    · subst hi; rw [if_pos rfl, if_neg (fun e => h ⟨rfl, e⟩)]
    · rw [if_neg hi]
  rw [this, e4, sF_i h6, e3, sF_i h5, e2, sF_i h4]
theorem q_addc {P : Nat} {C : List Th3} {a1 a2 a3 : Int32} {μ : Mem} (h : Lc P C μ) (hC : C.length < 2472) : pk (p_X3_add P a1 a2 a3 μ) (fun r => r.1.toInt = (C.length : Int) ∧ Lc P (C ++ [(a1, a2, a3)]) r.2) := by
  have e1 : (1 : Int32).toInt = 1 := by decide
  have eR : (2472 : Int32).toInt = 2472 := by decide
  have hn := tn_of h.1
  rw [p_X3_add_eq]
  refine pk_ite (fun c => ?_) (fun c => ?_)
  · refine pk_gd (fun _ => pk_bvy (fun μ2 e2 => pk_gd (fun _ => pk_bvy (fun μ3 e3 => pk_gd (fun _ => pk_bvy (fun μ4 e4 => pk_bvy (fun μ5 e5 => pk_some ?_)))))))
    have p2 : μ2.1 P 2 = μ.1 P 2 := by rw [e2, sF_i (by omega)]
    have p3 : μ3.1 P 2 = μ.1 P 2 := by rw [e3, sF_i (by omega), p2]
    have p4 : μ4.1 P 2 = μ.1 P 2 := by rw [e4, sF_i (by omega), p3]
    have p5 : (μ5.1 P 2).toInt = (C.length : Int) + 1 := by rw [e5, sF_v, p4, ti_add (by rw [h.1]; omega) (by rw [h.1]; omega), h.1, e1]
    rw [p2, hn] at e3
    rw [p3, hn] at e4
    rw [hn] at e2
    have g4 : ∀ k, μ5.1 (P + 4) k = if k = C.length then a1 else μ.1 (P + 4) k := fun k => by rw [e5, sF_i (by omega), e4, sF_i (by omega), e3, sF_i (by omega), e2, sF_1, if_pos rfl]
    have g5 : ∀ k, μ5.1 (P + 5) k = if k = C.length then a2 else μ.1 (P + 5) k := fun k => by rw [e5, sF_i (by omega), e4, sF_i (by omega), e3, sF_1, if_pos rfl, e2, sF_i (by omega)]
    have g6 : ∀ k, μ5.1 (P + 6) k = if k = C.length then a3 else μ.1 (P + 6) k := fun k => by rw [e5, sF_i (by omega), e4, sF_1, if_pos rfl, e3, sF_i (by omega), e2, sF_i (by omega)]
    refine ⟨by show (μ5.1 P 2 - 1).toInt = _; rw [ti_sub (by rw [p5, e1]; omega) (by rw [p5, e1]; omega), p5, e1]; omega, by show (μ5.1 P 2).toInt = _; rw [p5, List.length_append]; rfl, fun i x hx => ?_⟩
    show μ5.1 (P + 4) i = _ ∧ μ5.1 (P + 5) i = _ ∧ μ5.1 (P + 6) i = _
    rw [g4, g5, g6]
    by_cases ci : i = C.length
    · rw [if_pos ci, if_pos ci, if_pos ci]
      rw [ci, List.getElem?_append_right (Nat.le_refl _), Nat.sub_self] at hx
      have hx : (a1, a2, a3) = x := Option.some.inj hx
      rw [← hx]; exact ⟨rfl, rfl, rfl⟩
    · rw [if_neg ci, if_neg ci, if_neg ci]
      by_cases c2 : i < C.length
      · rw [List.getElem?_append_left c2] at hx; exact h.2 i x hx
      · rw [List.getElem?_eq_none (by rw [List.length_append]; show C.length + 1 ≤ i; omega)] at hx; cases hx
  · rw [ti_lt, h.1, eR] at c; omega
theorem es5_P {t : Nat → Int32} {n : Nat} {N : List Int32} {P f B d : Nat} {μ0 μ : Mem} {o : Rd (Nat × Py)} (hs : sel 2 (μ0.2.2 16 4) = P) (h : Es5 t n N P f B d μ0 o μ) : sel 2 (μ.2.2 16 4) = P := by rw [h.1.1]; exact hs
theorem xk5_P {P f : Nat} {μ0 μ : Mem} (hs : sel 2 (μ0.2.2 16 4) = P) (h : Xk5 P f μ0 μ) : sel 2 (μ.2.2 16 4) = P := by rw [h.1]; exact hs
theorem es5_add {t : Nat → Int32} {n : Nat} {N : List Int32} {P f B d : Nat} (hP : P29 P) {μ0 μ : Mem} {o : Rd (Nat × Py)} (hs : sel 2 (μ0.2.2 16 4) = P) (a1 a2 a3 : Int32) (h : Es5 t n N P f B (d + 1) μ0 o μ) : pk (p_X3_add (sel 2 (μ.2.2 16 4)) a1 a2 a3 μ) (fun r => Es5 t n N P f B d μ0 (adC (a1, a2, a3) o) r.2 ∧ (∀ v, o = .inr v → r.1.toInt = (v.2.2.length : Int))) := by
  rw [es5_P hs h]
  cases o with
  | inl x => exact pk_mono (q_addf P a1 a2 a3 μ) (fun r hr => ⟨⟨h.1.tr (hr.xk hP), xf_ir5 hP hr h.2⟩, fun v e => by cases e⟩)
  | inr v =>
    have hq : Xq5 t n N P f B v.1 (cnt v.2.1) v.2.2 (d + 1) μ := h.2
    have hd := hq.2.2.2.2.2
    have h800 := hq.1.1.2.1
    have hpn := hq.1.2.2.2
    have hf := hq.2.2.2.1.1.2
    refine pk_mono (pk_both (q_addf P a1 a2 a3 μ) (q_addc hq.2.2.2.2.1 (by omega))) (fun r hr => ⟨⟨h.1.tr (hr.1.xk hP), xq5_ir hP hq hr.1 hr.2.2 ?_⟩, fun w e => by cases e; exact hr.2.1⟩)
    rw [List.length_append]; show v.2.2.length + 1 + d ≤ _; omega
theorem q_leadf (P : Nat) (a : Int32) (μ : Mem) : pk (p_X3_leadHere P a μ) (Ir5 P μ) := by
  rw [p_X3_leadHere_eq]
  exact pk_ite (fun c => pk_some ⟨rfl, fun _ _ _ _ _ _ => rfl⟩) (fun c => pk_ite (fun c => pk_some ⟨rfl, fun _ _ _ _ _ _ => rfl⟩) (fun c => pk_gd (fun _ => pk_bv (pk_some ⟨rfl, fun i k h4 h5 h6 h => by rw [sF_i h5]⟩))))
theorem q_leadc {P i : Nat} {C : List Th3} {x : Th3} {a : Int32} {μ : Mem} (h : Lc P C μ) (hC : C.length < 2473) (ha : a.toInt = (i : Int)) (hx : C[i]? = some x) : pk (p_X3_leadHere P a μ) (Lc P (C.set i (x.1, Int32.ofNat C.length, x.2.2))) := by
  have e0 : (0 : Int32).toInt = 0 := by decide
  have eR : (2472 : Int32).toInt = 2472 := by decide
  have hi : i < C.length := by
    rcases Nat.lt_or_ge i C.length with c | c
    · exact c
    · rw [List.getElem?_eq_none c] at hx; cases hx
  rw [p_X3_leadHere_eq]
  refine pk_ite (fun c => ?_) (fun c => pk_ite (fun c => ?_) (fun c => pk_gd (fun _ => pk_bvy (fun μ3 e3 => pk_some ?_))))
  · rw [ti_lt, ha, e0] at c; omega
  · rw [ti_le, ha, eR] at c; omega
  · rw [tn_of ha] at e3
    have hv : μ.1 P 2 = Int32.ofNat C.length := ti_eq.mpr (by rw [h.1]; exact (Int32.toInt_ofNat_of_lt (by omega)).symm)
    have g5 : ∀ k, μ3.1 (P + 5) k = if k = i then Int32.ofNat C.length else μ.1 (P + 5) k := fun k => by rw [e3, sF_1, if_pos rfl, hv]
    refine ⟨by rw [e3, sF_i (by omega), List.length_set]; exact h.1, fun j y hy => ?_⟩
    rw [g5, e3, sF_i (by omega), sF_i (by omega)]
    by_cases cj : j = i
    · rw [cj] at hy ⊢
      rw [List.getElem?_set_self hi] at hy
      have hy : (x.1, Int32.ofNat C.length, x.2.2) = y := Option.some.inj hy
      have hh := h.2 i x hx
      rw [if_pos rfl, ← hy]; exact ⟨hh.1, rfl, hh.2.2⟩
    · rw [List.getElem?_set_ne (Ne.symm cj)] at hy
      rw [if_neg cj]; exact h.2 j y hy
