def Nms (μ : Mem) : List Int32 → Prop
  | [] => True
  | a :: N => μ.1 17 N.length = a ∧ Nms μ N
def ci (μ : Mem) (P : Nat) : Int32 := (((μ.1 P 0) - 1) * 6) + 2
def Cc (μ : Mem) (P c : Nat) : Prop := 1 ≤ (μ.1 P 0).toInt ∧ inb (ci μ P) 432 = true ∧ (μ.1 (P + 1) (ci μ P).toNatClampNeg).toInt = (c : Int) ∧ c ≤ 80 ∧ 0 ≤ (μ.1 P 2).toInt ∧ (μ.1 P 2).toInt ≤ 2472
def Xq (t : Nat → Int32) (n : Nat) (N : List Int32) (P : Nat) (v : Nat × Nat) (μ : Mem) : Prop := Xw t n v.1 μ ∧ (μ.1 16 6).toInt = (N.length : Int) ∧ Nms μ N ∧ Cc μ P v.2
def Xk (P : Nat) (μ q : Mem) : Prop := q.2.2 = μ.2.2 ∧ q.1 P 0 = μ.1 P 0 ∧ (∀ k, q.1 (P + 2) k = μ.1 (P + 2) k) ∧ ∀ k, q.1 (P + 3) k = μ.1 (P + 3) k
def Es (t : Nat → Int32) (n : Nat) (N : List Int32) (P : Nat) (μ0 : Mem) (o : Rd (Nat × Nat)) (q : Mem) : Prop := Xk P μ0 q ∧ (match o with | .inl f => Xf t n f q | .inr v => Xq t n N P v q)
theorem Xk.rf {P : Nat} {μ : Mem} : Xk P μ μ := ⟨rfl, rfl, fun _ => rfl, fun _ => rfl⟩
theorem Xk.tr {P : Nat} {μ q z : Mem} (h : Xk P μ q) (h2 : Xk P q z) : Xk P μ z := ⟨h2.1.trans h.1, h2.2.1.trans h.2.1, fun k => (h2.2.2.1 k).trans (h.2.2.1 k), fun k => (h2.2.2.2 k).trans (h.2.2.2 k)⟩
theorem Nms.cong {μ q : Mem} : ∀ {N : List Int32}, Nms μ N → (∀ j, j < N.length → q.1 17 j = μ.1 17 j) → Nms q N := by
  intro N
  induction N with
  | nil => intro _ _; trivial
  | cons a N ih => intro h c; exact ⟨by rw [c _ (by simp)]; exact h.1, ih h.2 (fun j hj => c j (by simp; omega))⟩
def P29 (P : Nat) : Prop := P = 2 ∨ P = 9
theorem Xe.xk {P : Nat} (hP : P29 P) {μ q : Mem} (h : Xe μ q) : Xk P μ q := by
  unfold P29 at hP
  exact ⟨by rw [h.1], h.2.2 _ _ (by omega), fun k => h.2.2 _ _ (by omega), fun k => h.2.2 _ _ (by omega)⟩
theorem Cc.xe {P c : Nat} (hP : P29 P) {μ q : Mem} (h : Cc μ P c) (e : Xe μ q) : Cc q P c := by
  unfold P29 at hP
  have e0 : q.1 P 0 = μ.1 P 0 := e.2.2 _ _ (by omega)
  have ec : ci q P = ci μ P := by unfold ci; rw [e0]
  exact ⟨by rw [e0]; exact h.1, by rw [ec]; exact h.2.1, by rw [ec, e.2.2 _ _ (by omega)]; exact h.2.2.1, h.2.2.2.1, by rw [e.2.2 P 2 (by omega)]; exact h.2.2.2.2⟩
theorem es_xo {t : Nat → Int32} {n : Nat} {N : List Int32} {P : Nat} (hP : P29 P) {μ0 μ q : Mem} {v : Nat × Nat} {o : Rd Nat} (h : Es t n N P μ0 (.inr v) μ) (ho : Xo t n μ o q) (h6 : q.1 16 6 = μ.1 16 6) (c : Nat) (hc : c = v.2) : Es t n N P μ0 (bnd o (fun p => .inr (p, c))) q := by
  obtain ⟨hk, hw, hn, hm, hC⟩ := h
  obtain ⟨hE, ho⟩ := ho
  subst hc
  refine ⟨hk.tr (hE.xk hP), ?_⟩
  cases o with
  | inl f => exact ho
  | inr p => exact ⟨ho, by rw [h6]; exact hn, hm.cong (fun j _ => hE.2.2 _ _ (by decide)), hC.xe hP hE⟩
theorem es_fail {t : Nat → Int32} {n : Nat} {N : List Int32} {P : Nat} (hP : P29 P) {μ0 μ : Mem} {v : Nat × Nat} (h : Es t n N P μ0 (.inr v) μ) : pk (p_X4_fail (μ.1 16 2) μ) (Es t n N P μ0 (.inl v.1)) :=
  pk_mono (q_Xfail h.2.1) (fun q hq => ⟨h.1.tr (hq.1.xk hP), hq.2⟩)
theorem es_take {t : Nat → Int32} {n : Nat} {N : List Int32} {P : Nat} (hP : P29 P) {μ0 μ : Mem} {o : Rd (Nat × Nat)} {c : Int32} (hc : c ≠ -1) (h : Es t n N P μ0 o μ) : pk (p_X4_take c μ) (fun r => Es t n N P μ0 (tk t n c o) r.2) := by
  cases o with
  | inl f =>
    refine pk_mono (q_Xtakef c h.2) (fun r e => ?_)
    have e : r.2 = μ := e
    rw [e]; exact h
  | inr v =>
    refine pk_mono (pk_both (q_Xtake hc h.2.1) (x6_take c μ)) (fun r hx => ?_)
    have := es_xo hP h hx.1 hx.2 v.2 rfl
    unfold tk bnd
    dsimp only
    by_cases c1 : hr t n v.1 = c
    · rw [if_pos c1] at this ⊢; exact this
    · rw [if_neg c1] at this ⊢; exact this
theorem xq_next {t : Nat → Int32} {n : Nat} {N : List Int32} {P : Nat} (hP : P29 P) {μ0 μ : Mem} {v : Nat × Nat} (h : Es t n N P μ0 (.inr v) μ) (hp : v.1 < n) : Es t n N P μ0 (.inr (v.1 + 1, v.2)) (sF μ 16 2 (μ.1 16 2 + 1)) := by
  have hE : Xe μ (sF μ 16 2 (μ.1 16 2 + 1)) := Xe.put (by decide) _
  exact es_xo hP (o := .inr (v.1 + 1)) h ⟨hE, xw_next h.2.1 hp⟩ (by rw [sF_k (by decide)]) v.2 rfl
theorem es_here {t : Nat → Int32} {n : Nat} {N : List Int32} {P : Nat} {μ0 μ : Mem} {v : Nat × Nat} (h : Es t n N P μ0 (.inr v) μ) : pk (p_X4_here μ) (fun r => r.2 = μ ∧ r.1 = hr t n v.1) := q_Xhere h.2.1
def Ir (P : Nat) (μ q : Mem) : Prop := q.2.2 = μ.2.2 ∧ (∀ i k, i ≠ P + 4 → i ≠ P + 5 → i ≠ P + 6 → ¬ (i = P ∧ k = 2) → q.1 i k = μ.1 i k) ∧ (0 ≤ (μ.1 P 2).toInt → (μ.1 P 2).toInt ≤ 2472 → 0 ≤ (q.1 P 2).toInt ∧ (q.1 P 2).toInt ≤ 2472)
theorem es_ir {t : Nat → Int32} {n : Nat} {N : List Int32} {P : Nat} (hP : P29 P) {μ0 μ q : Mem} {o : Rd (Nat × Nat)} (h : Es t n N P μ0 o μ) (hi : Ir P μ q) : Es t n N P μ0 o q := by
  unfold P29 at hP
  obtain ⟨h1, h2, h3⟩ := hi
  have hs : ∀ {t : Nat → Int32} {n : Nat}, Xs t n μ → Xs t n q := fun hs => ⟨by rw [h2 16 1 (by omega) (by omega) (by omega) (by omega)]; exact hs.1, hs.2.1, fun j hj => by rw [h2 1 j (by omega) (by omega) (by omega) (by omega)]; exact hs.2.2 j hj⟩
  have e0 : q.1 P 0 = μ.1 P 0 := h2 _ _ (by omega) (by omega) (by omega) (by omega)
  refine ⟨h.1.tr ⟨h1, e0, fun k => h2 _ _ (by omega) (by omega) (by omega) (by omega), fun k => h2 _ _ (by omega) (by omega) (by omega) (by omega)⟩, ?_⟩
  cases o with
  | inl f =>
    have hf : Xf t n f μ := h.2
    exact ⟨hs hf.1, by rw [h2 16 3 (by omega) (by omega) (by omega) (by omega)]; exact hf.2⟩
  | inr v =>
    obtain ⟨⟨a1, a2, a3, a4⟩, b, c, d1, d2, d3, d4, d5, d6⟩ : Xq t n N P v μ := h.2
    have ec : ci q P = ci μ P := by unfold ci; rw [e0]
    have h32 := h3 d5 d6
    exact ⟨⟨hs a1, by rw [h2 16 3 (by omega) (by omega) (by omega) (by omega)]; exact a2, by rw [h2 16 2 (by omega) (by omega) (by omega) (by omega)]; exact a3, a4⟩, by rw [h2 16 6 (by omega) (by omega) (by omega) (by omega)]; exact b, c.cong (fun j _ => h2 17 j (by omega) (by omega) (by omega) (by omega)), by rw [e0]; exact d1, by rw [ec]; exact d2, by rw [ec, h2 (P + 1) _ (by omega) (by omega) (by omega) (by omega)]; exact d3, d4, h32.1, h32.2⟩
theorem q_add3 (P : Nat) (a1 a2 a3 : Int32) (μ : Mem) : pk (p_X3_add P a1 a2 a3 μ) (fun r => Ir P μ r.2) := by
  have e1 : (1 : Int32).toInt = 1 := by decide
  have eR : (2472 : Int32).toInt = 2472 := by decide
  rw [p_X3_add_eq]
  refine pk_ite (fun c => ?_) (fun c => pk_some ⟨rfl, fun _ _ _ _ _ _ => rfl, fun a b => ⟨a, b⟩⟩)
  rw [ti_lt, eR] at c
  refine pk_gd (fun _ => pk_bvy (fun μ2 e2 => pk_gd (fun _ => pk_bvy (fun μ3 e3 => pk_gd (fun _ => pk_bvy (fun μ4 e4 => pk_bvy (fun μ5 e5 => pk_some ?_)))))))
  have hP2 : μ4.1 P 2 = μ.1 P 2 := by rw [e4, sF_i (by omega), e3, sF_i (by omega), e2, sF_i (by omega)]
  refine ⟨by show μ5.2.2 = _; rw [e5, e4, e3, e2]; rfl, fun i k h4 h5 h6 h => ?_, fun a b => ?_⟩
  · show μ5.1 i k = _
    have : μ5.1 i k = μ4.1 i k := by
      rw [e5, sF_1]
      by_cases hi : i = P
      · subst hi; rw [if_pos rfl, if_neg (fun e => h ⟨rfl, e⟩)]
      · rw [if_neg hi]
    rw [this, e4, sF_i h6, e3, sF_i h5, e2, sF_i h4]
  · show 0 ≤ (μ5.1 P 2).toInt ∧ (μ5.1 P 2).toInt ≤ 2472
    rw [e5, sF_v, hP2, ti_add (by omega) (by omega), e1]
    omega
theorem q_lead3 (P : Nat) (a : Int32) (μ : Mem) : pk (p_X3_leadHere P a μ) (Ir P μ) := by
  rw [p_X3_leadHere_eq]
  refine pk_ite (fun c => pk_some ⟨rfl, fun _ _ _ _ _ _ => rfl, fun a b => ⟨a, b⟩⟩) (fun c => pk_ite (fun c => pk_some ⟨rfl, fun _ _ _ _ _ _ => rfl, fun a b => ⟨a, b⟩⟩) (fun c => pk_gd (fun _ => pk_bv (pk_some ⟨rfl, fun i k h4 h5 h6 h => by rw [sF_i h5], fun a b => by rw [sF_i (by omega)]; exact ⟨a, b⟩⟩))))
theorem es_P {t : Nat → Int32} {n : Nat} {N : List Int32} {P : Nat} {μ0 μ : Mem} {o : Rd (Nat × Nat)} (hs : sel 2 (μ0.2.2 16 4) = P) (h : Es t n N P μ0 o μ) : sel 2 (μ.2.2 16 4) = P := by rw [h.1.1]; exact hs
theorem es_add {t : Nat → Int32} {n : Nat} {N : List Int32} {P : Nat} (hP : P29 P) {μ0 μ : Mem} {o : Rd (Nat × Nat)} (hs : sel 2 (μ0.2.2 16 4) = P) (a1 a2 a3 : Int32) (h : Es t n N P μ0 o μ) : pk (p_X3_add (sel 2 (μ.2.2 16 4)) a1 a2 a3 μ) (fun r => Es t n N P μ0 o r.2) := by
  rw [es_P hs h]
  exact pk_mono (q_add3 P a1 a2 a3 μ) (fun r hr => es_ir hP h hr)
theorem es_lead {t : Nat → Int32} {n : Nat} {N : List Int32} {P : Nat} (hP : P29 P) {μ0 μ : Mem} {o : Rd (Nat × Nat)} (hs : sel 2 (μ0.2.2 16 4) = P) (a1 : Int32) (h : Es t n N P μ0 o μ) : pk (p_X3_leadHere (sel 2 (μ.2.2 16 4)) a1 μ) (Es t n N P μ0 o) := by
  rw [es_P hs h]
  exact pk_mono (q_lead3 P a1 μ) (fun r hr => es_ir hP h hr)
