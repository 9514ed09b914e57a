def hr (t : Nat → Int32) (n p : Nat) : Int32 := if p < n then t p else -1
def isD (c : Int32) : Bool := !decide (c < 48) && !decide (57 < c)
def dg (t : Nat → Int32) (n : Nat) : Nat → Nat → Nat
  | 0, p => p
  | k + 1, p => if isD (hr t n p) then dg t n k (p + 1) else p
abbrev Rd (α : Type) := Nat ⊕ α
def rn (t : Nat → Int32) (n p : Nat) : Rd Nat :=
  let p1 := if hr t n p = 45 then p + 1 else p
  let q := dg t n 5 p1
  if q = p1 then .inl p1 else if hr t n q = 46 then (let q2 := dg t n 3 (q + 1); if q2 = q + 1 then .inl (q + 1) else .inr q2) else .inr q
def rp (t : Nat → Int32) (n sl : Nat) : Nat → Nat → Nat → Nat → Rd (Nat × Nat × Nat)
  | 0, p, _, _ => .inl p
  | k + 1, p, m, s =>
    if 30 ≤ m then .inl p
    else if hr t n p = 91 then
      match rp t n sl k (p + 1) (m + 1) s with
      | .inl f => .inl f
      | .inr (p1, m1, s1) => if hr t n p1 = 44 then
          match rp t n sl k (p1 + 1) m1 s1 with
          | .inl f => .inl f
          | .inr (p2, m2, s2) => if hr t n p2 = 93 then .inr (p2 + 1, m2, s2) else .inl p2
        else .inl p1
    else if hr t n p = 45 ∨ isD (hr t n p) = true then
      match rn t n p with
      | .inl f => .inl f
      | .inr q => .inr (q, m + 1, s)
    else if hr t n p = 42 ∧ s < sl then .inr (p + 1, m + 1, s + 1)
    else .inl p
def Xs (t : Nat → Int32) (n : Nat) (μ : Mem) : Prop := (μ.1 16 1).toInt = (n : Int) ∧ n ≤ 800 ∧ ∀ j, j < n → μ.1 1 j = t j
def Xw (t : Nat → Int32) (n p : Nat) (μ : Mem) : Prop := Xs t n μ ∧ μ.1 16 3 = -1 ∧ (μ.1 16 2).toInt = (p : Int) ∧ p ≤ n
def Xf (t : Nat → Int32) (n f : Nat) (μ : Mem) : Prop := Xs t n μ ∧ (μ.1 16 3).toInt = (f : Int)
def Xe (μ q : Mem) : Prop := q.2 = μ.2 ∧ q.1 16 1 = μ.1 16 1 ∧ ∀ i k, i ≠ 16 → q.1 i k = μ.1 i k
theorem Xe.rf {μ : Mem} : Xe μ μ := ⟨rfl, rfl, fun _ _ _ => rfl⟩
theorem Xe.tr {μ q z : Mem} (h : Xe μ q) (h2 : Xe q z) : Xe μ z := ⟨h2.1.trans h.1, h2.2.1.trans h.2.1, fun i k hi => (h2.2.2 i k hi).trans (h.2.2 i k hi)⟩
theorem Xe.xs {t : Nat → Int32} {n : Nat} {μ q : Mem} (h : Xe μ q) (hs : Xs t n μ) : Xs t n q := ⟨by rw [h.2.1]; exact hs.1, hs.2.1, fun j hj => by rw [h.2.2 1 j (by decide)]; exact hs.2.2 j hj⟩
theorem Xe.put {μ : Mem} {k : Nat} (hk : k ≠ 1) (v : Int32) : Xe μ (sF μ 16 k v) := ⟨rfl, by rw [sF_k (Ne.symm hk)], fun i j hi => by rw [sF_i hi]⟩
def Xo (t : Nat → Int32) (n : Nat) (μ : Mem) (o : Rd Nat) (q : Mem) : Prop := Xe μ q ∧ (match o with | .inl f => Xf t n f q | .inr p => Xw t n p q)
theorem xf_bad {t : Nat → Int32} {n f : Nat} {μ : Mem} (h : Xf t n f μ) : μ.1 16 3 ≠ -1 := by
  intro e
  have := h.2
  rw [e] at this
  have e1 : (-1 : Int32).toInt = -1 := by decide
  omega
theorem q_Xhere {t : Nat → Int32} {n p : Nat} {μ : Mem} (h : Xw t n p μ) : pk (p_X4_here μ) (fun r => r.2 = μ ∧ r.1 = hr t n p) := by
  obtain ⟨⟨h1, h2, h3⟩, h4, h5, h6⟩ := h
  have e0 : (0 : Int32).toInt = 0 := by decide
  rw [p_X4_here_eq]
  refine pk_ite (fun c => ?_) (fun c => pk_ite (fun c2 => pk_some ⟨rfl, ?_⟩) (fun c2 => pk_gd (fun _ => pk_some ⟨rfl, ?_⟩)))
  · rw [ti_lt, e0, h5] at c; omega
  · rw [ti_le, h1, h5] at c2
    unfold hr; rw [if_neg (by omega)]
  · rw [ti_le, h1, h5] at c2
    unfold hr; rw [if_pos (by omega), tn_of h5]; exact h3 p (by omega)
theorem q_Xwell {μ : Mem} : pk (p_X4_isWell μ) (fun r => r.2 = μ ∧ ((r.1 = 1 ∧ μ.1 16 3 = -1) ∨ (r.1 = 0 ∧ μ.1 16 3 ≠ -1))) := by
  rw [p_X4_isWell_eq]
  exact pk_ite (fun c => pk_some ⟨rfl, Or.inl ⟨rfl, c⟩⟩) (fun c => pk_some ⟨rfl, Or.inr ⟨rfl, c⟩⟩)
theorem xw_next {t : Nat → Int32} {n p : Nat} {μ : Mem} (h : Xw t n p μ) (hp : p < n) : Xw t n (p + 1) (sF μ 16 2 (μ.1 16 2 + 1)) := by
  obtain ⟨h1, h4, h5, h6⟩ := h
  have e1 : (1 : Int32).toInt = 1 := by decide
  have h2 := h1.2.1
  refine ⟨(Xe.put (by decide) _).xs h1, by rw [sF_k (by decide)]; exact h4, ?_, by omega⟩
  rw [sF_v, ti_add (by omega) (by omega), e1, h5]; omega
theorem q_Xfail {t : Nat → Int32} {n p : Nat} {μ : Mem} (h : Xw t n p μ) : pk (p_X4_fail (μ.1 16 2) μ) (fun q => Xe μ q ∧ Xf t n p q) := by
  rw [p_X4_fail_eq, if_pos h.2.1]
  exact pk_bv (pk_some ⟨Xe.put (by decide) _, (Xe.put (by decide) _).xs h.1, by rw [sF_v]; exact h.2.2.1⟩)
theorem hr_lt {t : Nat → Int32} {n p : Nat} (h : hr t n p ≠ -1) : p < n := by
  unfold hr at h
  by_cases c : p < n
  · exact c
  · rw [if_neg c] at h; exact absurd rfl h
theorem q_Xtake {t : Nat → Int32} {n p : Nat} {μ : Mem} {c : Int32} (hc : c ≠ -1) (h : Xw t n p μ) : pk (p_X4_take c μ) (fun r => Xo t n μ (if hr t n p = c then .inr (p + 1) else .inl p) r.2) := by
  rw [p_X4_take_eq]
  refine pk_bd q_Xwell ?_
  rintro r2 μ1 ⟨e, hw⟩
  have e : μ1 = μ := e
  subst e
  have hw : (r2 = 1 ∧ μ1.1 16 3 = -1) ∨ (r2 = 0 ∧ μ1.1 16 3 ≠ -1) := hw
  refine pk_ite (fun c0 => ?_) (fun c0 => ?_)
  · rcases hw with ⟨a, _⟩ | ⟨_, b⟩
    · rw [a] at c0; exact absurd c0 (by decide)
    · exact absurd h.2.1 b
  · refine pk_bd (q_Xhere h) ?_
    rintro r5 μ4 ⟨e, hh⟩
    have e : μ4 = μ1 := e
    subst e
    have hh : r5 = hr t n p := hh
    refine pk_ite (fun c1 => pk_bv (pk_some ?_)) (fun c1 => pk_bw (q_Xfail h) (fun q hq => pk_some ?_))
    · rw [hh] at c1
      rw [if_pos c1]
      exact ⟨Xe.put (by decide) _, xw_next h (hr_lt (by rw [c1]; exact hc))⟩
    · rw [hh] at c1
      rw [if_neg c1]; exact hq
theorem q_Xtakef {t : Nat → Int32} {n f : Nat} {μ : Mem} (c : Int32) (h : Xf t n f μ) : pk (p_X4_take c μ) (fun r => r.2 = μ) := by
  rw [p_X4_take_eq]
  refine pk_bd q_Xwell ?_
  rintro r2 μ1 ⟨e, hw⟩
  have e : μ1 = μ := e
  subst e
  have hw : (r2 = 1 ∧ μ1.1 16 3 = -1) ∨ (r2 = 0 ∧ μ1.1 16 3 ≠ -1) := hw
  refine pk_ite (fun c0 => pk_some rfl) (fun c0 => ?_)
  rcases hw with ⟨_, b⟩ | ⟨a, _⟩
  · exact absurd b (xf_bad h)
  · exact absurd a c0
theorem isD_X (c : Int32) : (s_X4_isDigit c = 0) ↔ isD c = false := by
  rw [s_X4_isDigit_eq]; unfold isD
  by_cases h1 : c < 48
  · rw [if_pos h1, decide_eq_true h1]; simp
  · rw [if_neg h1, decide_eq_false h1]
    by_cases h2 : 57 < c
    · rw [if_pos h2, decide_eq_true h2]; simp
    · rw [if_neg h2, decide_eq_false h2]; simp
theorem isD_ne {c : Int32} (h : isD c = true) : c ≠ -1 := by
  intro e; rw [e] at h; exact absurd h (by decide)
theorem dg_s (t : Nat → Int32) (n d p : Nat) : dg t n (d + 1) p = if isD (hr t n p) then dg t n d (p + 1) else p := rfl
theorem dg_le (t : Nat → Int32) (n : Nat) : ∀ k p, p ≤ dg t n k p := by
  intro k
  induction k with
  | zero => intro p; exact Nat.le_refl _
  | succ k ih =>
    intro p
    unfold dg
    split
    · have := ih (p + 1); omega
    · exact Nat.le_refl _
theorem q_Xdigits {t : Nat → Int32} {n : Nat} {a1 : Int32} {k : Nat} {a2 : Int32} (ha : a2.toInt = (k : Int)) (hk : k ≤ 5) {p : Nat} {μ : Mem} (h : Xw t n p μ) : pk (p_X4_readDigits a1 a2 μ) (fun r => Xo t n μ (if dg t n k p = p then .inl p else .inr (dg t n k p)) r.2) := by
  have e0 : (0 : Int32).toInt = 0 := by decide
  have e1 : (1 : Int32).toInt = 1 := by decide
  have loop : ∀ (fu j : Nat) (a3 a4 : Int32) (μ2 : Mem) (p2 : Nat), a4.toInt = (j : Int) → j ≤ k → p2 = p + j → Xe μ μ2 → Xw t n p2 μ2 → dg t n (k - j) p2 = dg t n k p → pk (p_X4_readDigits_b5 fu a2 a3 a4 μ2) (fun r => Xo t n μ (if dg t n k p = p then .inl p else .inr (dg t n k p)) r.2) := by
    intro fu
    induction fu with
    | zero => intro j a3 a4 μ2 p2 _ _ _ _ _ _ r e; rw [p_X4_readDigits_b5_z] at e; cases e
    | succ fu ih =>
      intro j a3 a4 μ2 p2 h4 hj hp2 hE hw hd
      have b50 : ∀ a3, dg t n k p = p2 → pk (p_X4_readDigits_b50 a3 a4 μ2) (fun r => Xo t n μ (if dg t n k p = p then .inl p else .inr (dg t n k p)) r.2) := by
        intro a3 hd2
        rw [p_X4_readDigits_b50_eq]
        refine pk_ite (fun c => pk_bw (q_Xfail hw) (fun q hq => pk_some ?_)) (fun c => pk_some ?_)
        · rw [ti_eq, h4, e0] at c
          rw [if_pos (by omega)]
          have : p2 = p := by omega
          rw [this] at hq
          exact ⟨hE.tr hq.1, hq.2⟩
        · rw [ti_eq, h4, e0] at c
          rw [if_neg (by omega), hd2]
          exact ⟨hE, hw⟩
      rw [p_X4_readDigits_b5_s]
      refine pk_ite (fun c => ?_) (fun c => ?_)
      · rw [ti_le, ha, h4] at c
        have hjk : j = k := by omega
        rw [hjk, Nat.sub_self] at hd
        exact b50 a3 hd.symm
      · rw [ti_le, ha, h4] at c
        refine pk_bd (q_Xhere hw) ?_
        rintro r6 μ5 ⟨e, hh⟩
        have e : μ5 = μ2 := e
        subst e
        have hh : r6 = hr t n p2 := hh
        obtain ⟨d, hd'⟩ : ∃ d, k - j = d + 1 := ⟨k - j - 1, by omega⟩
        rw [hd', dg_s] at hd
        refine pk_ite (fun c1 => ?_) (fun c1 => ?_)
        · rw [isD_X, hh] at c1
          rw [if_neg (by rw [c1]; decide)] at hd
          exact b50 a3 hd.symm
        · rw [isD_X, hh] at c1
          have c1 : isD (hr t n p2) = true := by simpa using c1
          rw [if_pos c1] at hd
          refine pk_bd (q_Xhere hw) ?_
          rintro r9 μ8 ⟨e, _⟩
          have e : μ8 = μ5 := e
          subst e
          exact pk_bv (pk_bv (pk_bv (ih (j + 1) _ _ _ (p2 + 1) (by rw [ti_add (by omega) (by omega), e1, h4]; omega) (by omega) (by omega) (hE.tr (Xe.put (by decide) _)) (xw_next hw (hr_lt (isD_ne c1))) (by rw [show k - (j + 1) = d by omega]; exact hd))))
  rw [p_X4_readDigits_eq]
  exact loop FUEL 0 a1 0 μ p e0 (by omega) (by omega) Xe.rf h (by rw [Nat.sub_zero])
