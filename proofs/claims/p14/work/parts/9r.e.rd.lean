def isL (c : Int32) : Bool := !decide (c < 97) && !decide (108 < c)
def rar (t : Nat → Int32) (n : Nat) : Nat → Nat → Nat → Nat → Rd (Nat × Nat)
  | 0, p, _, s => .inr (p, s)
  | k + 1, p, m, s => if hr t n p = 44 then
      match rp t n 8 50 (p + 1) m s with
      | .inl f => .inl f
      | .inr (p1, m1, s1) => rar t n k p1 m1 s1
    else .inr (p, s)
def ras (t : Nat → Int32) (n : Nat) : Rd (Nat × Nat) := if hr t n 2 = 41 then .inr (2, 0) else
  match rp t n 8 50 2 0 0 with
  | .inl f => .inl f
  | .inr (p, m, s) => rar t n 4 p m s
def ren (t : Nat → Int32) (n : Nat) : Rd (Nat × Nat) → Rd Nat
  | .inl f => .inl f
  | .inr (p, s) => if hr t n p = 41 then (if p + 1 < n then .inl (p + 1) else .inr s) else .inl p
def rt (t : Nat → Int32) (n : Nat) : Rd Nat := if isL (hr t n 0) then (if hr t n 1 = 40 then ren t n (ras t n) else .inl 1) else .inl 0
def To (t : Nat → Int32) (n : Nat) (μ : Mem) (a : Nat) (o : Rd Nat) (q : Mem) : Prop := q.2.2 = μ.2.2 ∧ (∀ i k, i ≠ 16 → i ≠ a → q.1 i k = μ.1 i k) ∧ (match o with | .inl f => Xf t n f q | .inr s => q.1 16 3 = -1 ∧ ∃ m, Pm q a m s)
theorem isL_X (c : Int32) : (s_X4_isLetter c = 0) ↔ isL c = false := by
  rw [s_X4_isLetter_eq]; unfold isL
  by_cases h1 : c < 97
  · rw [if_pos h1, decide_eq_true h1]; simp
  · rw [if_neg h1, decide_eq_false h1]
    by_cases h2 : 108 < c
    · rw [if_pos h2, decide_eq_true h2]; simp
    · rw [if_neg h2, decide_eq_false h2]; simp
theorem isL_ne {c : Int32} (h : isL c = true) : c ≠ -1 := by
  intro e; rw [e] at h; exact absurd h (by decide)
theorem wl0 {t : Nat → Int32} {n f : Nat} {μ : Mem} {r : Int32} (h : Xf t n f μ) (hw : (r = 1 ∧ μ.1 16 3 = -1) ∨ (r = 0 ∧ μ.1 16 3 ≠ -1)) : r = 0 := by
  rcases hw with ⟨_, b⟩ | ⟨a, _⟩
  · exact absurd b (xf_bad h)
  · exact a
theorem wl1 {t : Nat → Int32} {n p : Nat} {μ : Mem} {r : Int32} (h : Xw t n p μ) (hw : (r = 1 ∧ μ.1 16 3 = -1) ∨ (r = 0 ∧ μ.1 16 3 ≠ -1)) : ¬ r = 0 := by
  rcases hw with ⟨a, _⟩ | ⟨_, b⟩
  · rw [a]; decide
  · exact absurd h.2.1 b
theorem q_Xend {t : Nat → Int32} {n : Nat} {μ : Mem} (o : Rd Nat) (h : match o with | .inl f => Xf t n f μ | .inr p => Xw t n p μ) : pk (p_X4_takeEnd μ) (fun q => Xe μ q ∧ (match o with | .inl f => Xf t n f q | .inr p => if p < n then Xf t n p q else Xw t n p q)) := by
  rw [p_X4_takeEnd_eq]
  refine pk_bd q_Xwell ?_
  rintro r2 μ1 ⟨e, hw⟩
  have e : μ1 = μ := e
  subst e
  have hw : (r2 = 1 ∧ μ1.1 16 3 = -1) ∨ (r2 = 0 ∧ μ1.1 16 3 ≠ -1) := hw
  cases o with
  | inl f =>
    rw [if_pos (wl0 h hw)]
    exact pk_some ⟨Xe.rf, h⟩
  | inr p =>
    have h : Xw t n p μ1 := h
    rw [if_neg (wl1 h hw)]
    refine pk_ite (fun c => pk_some ⟨Xe.rf, ?_⟩) (fun c => pk_bw (q_Xfail h) (fun q hq => pk_some ⟨hq.1, ?_⟩))
    · rw [ti_le, h.1.1, h.2.2.1] at c
      show if p < n then _ else _
      rw [if_neg (by omega)]; exact h
    · rw [ti_le, h.1.1, h.2.2.1] at c
      show if p < n then _ else _
      rw [if_pos (by omega)]; exact hq.2
set_option maxHeartbeats 2000000 in
theorem q_Xtask {t : Nat → Int32} {n a : Nat} (hs : sh 0 a = (0, 1)) (ha : a ≠ 16 ∧ a ≠ 1) {μ : Mem} (hw : Xw t n 0 μ) : pk (p_X4_readTask a μ) (To t n μ a (rt t n)) := by
  have e0 : (0 : Int32).toInt = 0 := by decide
  have e1 : (1 : Int32).toInt = 1 := by decide
  have e5 : (5 : Int32).toInt = 5 := by decide
  have e8 : (8 : Int32).toInt = ((8 : Nat) : Int) := by decide
  have b116 : ∀ (a2 a3 : Int32) (q : Mem) (o : Rd (Nat × Nat)), q.2.2 = μ.2.2 → (∀ i k, i ≠ 16 → i ≠ a → q.1 i k = μ.1 i k) → (match o with | .inl f => Xf t n f q | .inr (p, s) => Xw t n p q ∧ ∃ m, Pm q a m s) → pk (p_X4_readTask_b116 a a2 a3 q) (To t n μ a (ren t n o)) := by
    intro a2 a3 q o f1 f2 ho
    rw [p_X4_readTask_b116_eq]
    cases o with
    | inl f =>
      have ho : Xf t n f q := ho
      refine pk_bd (q_Xtakef 41 ho) ?_
      intro r13 μ12 e
      have e : μ12 = q := e
      subst e
      refine pk_bvy (fun μ14 e14 => ?_)
      have g14 : ∀ i k, i ≠ a → μ14.1 i k = μ12.1 i k := fun i k hi => by rw [e14, sF_i hi]
      have h14 := xf_of ha ho g14
      refine pk_bw (q_Xend (.inl f) h14) ?_
      rintro μ15 ⟨hE, hq⟩
      exact pk_some ⟨by rw [hE.1, e14]; exact f1, fun i k h1 h2 => by rw [hE.2.2 i k h1, g14 i k h2, f2 i k h1 h2], hq⟩
    | inr v =>
      obtain ⟨p, s⟩ := v
      obtain ⟨ho, m, hP⟩ : Xw t n p q ∧ ∃ m, Pm q a m s := ho
      refine pk_bd (q_Xtake (c := 41) (by decide) ho) ?_
      rintro r13 μ12 ⟨hE, hO⟩
      have hE : Xe q μ12 := hE
      refine pk_bvy (fun μ14 e14 => ?_)
      have g14 : ∀ i k, i ≠ a → μ14.1 i k = μ12.1 i k := fun i k hi => by rw [e14, sF_i hi]
      have hP14 : Pm μ14 a m s := by
        have h := hP.xe ha.1 hE
        rw [e14]
        exact ⟨by rw [sF_k (by decide)]; exact h.1, h.2.1, by rw [sF_2]; exact h.2.2⟩
      show pk _ (To t n μ a (if hr t n p = 41 then (if p + 1 < n then .inl (p + 1) else .inr s) else .inl p))
      by_cases c : hr t n p = 41
      · rw [if_pos c] at hO ⊢
        have hO : Xw t n (p + 1) μ12 := hO
        refine pk_bw (q_Xend (.inr (p + 1)) (xw_of ha hO g14)) ?_
        rintro μ15 ⟨hE15, hq⟩
        have hq : if p + 1 < n then Xf t n (p + 1) μ15 else Xw t n (p + 1) μ15 := hq
        refine pk_some ⟨by rw [hE15.1, e14, sF_2, hE.1]; exact f1, fun i k h1 h2 => by rw [hE15.2.2 i k h1, g14 i k h2, hE.2.2 i k h1, f2 i k h1 h2], ?_⟩
        by_cases c2 : p + 1 < n
        · rw [if_pos c2] at hq ⊢; exact hq
        · rw [if_neg c2] at hq ⊢; exact ⟨hq.2.1, m, hP14.xe ha.1 hE15⟩
      · rw [if_neg c] at hO ⊢
        have hO : Xf t n p μ12 := hO
        refine pk_bw (q_Xend (.inl p) (xf_of ha hO g14)) ?_
        rintro μ15 ⟨hE15, hq⟩
        exact pk_some ⟨by rw [hE15.1, e14, sF_2, hE.1]; exact f1, fun i k h1 h2 => by rw [hE15.2.2 i k h1, g14 i k h2, hE.2.2 i k h1, f2 i k h1 h2], hq⟩
  have b71 : ∀ (fu j : Nat) (a2 a3 : Int32) (q : Mem) (o : Rd (Nat × Nat × Nat)), a3.toInt = (j : Int) → 1 ≤ j → j ≤ 5 → q.2.2 = μ.2.2 → (∀ i k, i ≠ 16 → i ≠ a → q.1 i k = μ.1 i k) → (match o with | .inl f => Xf t n f q | .inr (p, m, s) => Xw t n p q ∧ Pm q a m s) → pk (p_X4_readTask_b71 fu a a2 a3 q) (To t n μ a (ren t n (match o with | .inl f => .inl f | .inr (p, m, s) => rar t n (5 - j) p m s))) := by
    intro fu
    induction fu with
    | zero => intro j a2 a3 q o _ _ _ _ _ _ r e; rw [p_X4_readTask_b71_z] at e; cases e
    | succ fu ih =>
      intro j a2 a3 q o h3 hj1 hj f1 f2 ho
      rw [p_X4_readTask_b71_s]
      refine pk_bd q_Xwell ?_
      rintro r23 μ22 ⟨e, hwl⟩
      have e : μ22 = q := e
      subst e
      have hwl : (r23 = 1 ∧ μ22.1 16 3 = -1) ∨ (r23 = 0 ∧ μ22.1 16 3 ≠ -1) := hwl
      cases o with
      | inl f =>
        have ho : Xf t n f μ22 := ho
        rw [if_pos (wl0 ho hwl)]
        exact b116 a2 a3 μ22 (.inl f) f1 f2 ho
      | inr v =>
        obtain ⟨p, m, s⟩ := v
        have ho : Xw t n p μ22 ∧ Pm μ22 a m s := ho
        rw [if_neg (wl1 ho.1 hwl)]
        refine pk_bd (q_Xhere ho.1) ?_
        rintro r26 μ25 ⟨e, hh⟩
        have e : μ25 = μ22 := e
        subst e
        have hh : r26 = hr t n p := hh
        rw [hh]
        show pk _ (To t n μ a (ren t n (rar t n (5 - j) p m s)))
        have stop : rar t n (5 - j) p m s = .inr (p, s) → pk (p_X4_readTask_b116 a a2 a3 μ25) (To t n μ a (ren t n (rar t n (5 - j) p m s))) := by
          intro h; rw [h]; exact b116 a2 a3 μ25 (.inr (p, s)) f1 f2 ⟨ho.1, m, ho.2⟩
        refine pk_ite (fun c => pk_ite (fun c2 => ?_) (fun c2 => ?_)) (fun c => ?_)
        · rw [ti_le, e5, h3] at c2
          exact stop (by rw [show 5 - j = 0 by omega]; rfl)
        · rw [ti_le, e5, h3] at c2
          obtain ⟨d, hd⟩ : ∃ d, 5 - j = d + 1 := ⟨5 - j - 1, by omega⟩
          refine pk_bvy (fun μ29 e29 => ?_)
          have hE29 : Xe μ25 μ29 := by rw [e29]; exact Xe.put (by decide) _
          have hw29 : Xw t n (p + 1) μ29 := by rw [e29]; exact xw_next ho.1 (hr_lt (by rw [c]; decide))
          refine pk_bw (q_Xpart hs ha e8 50 (p + 1) m s 0 μ29 (by omega) hw29 (ho.2.xe ha.1 hE29)) ?_
          rintro μ30 ⟨g1, g2, g3⟩
          refine pk_bvy (fun v32 e32 => ?_)
          have hx := ih (j + 1) a2 v32 μ30 (rp t n 8 50 (p + 1) m s) (by rw [e32, ti_add (by omega) (by omega), e1, h3]; omega) (by omega) (by omega) (by rw [g1, hE29.1]; exact f1) (fun i k h1 h2 => by rw [g2 i k h1 h2, hE29.2.2 i k h1, f2 i k h1 h2]) g3
          have er : rar t n (5 - j) p m s = (match rp t n 8 50 (p + 1) m s with | .inl f => .inl f | .inr (p, m, s) => rar t n (5 - (j + 1)) p m s) := by
            rw [hd, show 5 - (j + 1) = d by omega]
            show (if hr t n p = 44 then _ else _) = _
            rw [if_pos c]
          rw [er]; exact hx
        · refine stop ?_
          cases h5 : 5 - j with
          | zero => rfl
          | succ d => show (if hr t n p = 44 then _ else _) = _; rw [if_neg c]
  rw [p_X4_readTask_eq]
  have hb : pk (p_X2_begin a 0 μ) (fun q => Xw t n 0 q ∧ Pm q a 0 0 ∧ q.2.2 = μ.2.2 ∧ (∀ i k, i ≠ 16 → i ≠ a → q.1 i k = μ.1 i k)) := by
    rw [p_X2_begin_eq]
    refine pk_bvy (fun μ1 e1 => pk_bvy (fun μ2 e2 => pk_some ?_))
    have g : ∀ i k, i ≠ a → μ2.1 i k = μ.1 i k := fun i k hi => by rw [e2, sF_i hi, e1, sF_i hi]
    refine ⟨xw_of ha hw g, ⟨?_, by omega, rfl⟩, by rw [e2, e1]; rfl, fun i k _ h2 => g i k h2⟩
    rw [e2, sF_k (by decide), e1, sF_v]; exact e0
  refine pk_bw hb ?_
  rintro μ1 ⟨h1w, h1P, h1f, h1g⟩
  refine pk_bd (q_Xhere h1w) ?_
  rintro r4 μ3 ⟨e, hh⟩
  have e : μ3 = μ1 := e
  subst e
  have hh : r4 = hr t n 0 := hh
  show pk _ (To t n μ a (if isL (hr t n 0) then _ else .inl 0))
  refine pk_ite (fun c => pk_bw (q_Xfail h1w) (fun q hq => pk_some ?_)) (fun c => pk_bvy (fun μ6 e6 => ?_))
  · rw [isL_X, hh] at c
    rw [if_neg (by rw [c]; decide)]
    exact ⟨by rw [hq.1.1]; exact h1f, fun i k x y => by rw [hq.1.2.2 i k x, h1g i k x y], hq.2⟩
  · rw [isL_X, hh] at c
    have c : isL (hr t n 0) = true := by simpa using c
    rw [if_pos c]
    have hE6 : Xe μ3 μ6 := by rw [e6]; exact Xe.put (by decide) _
    have hw6 : Xw t n 1 μ6 := by rw [e6]; exact xw_next h1w (hr_lt (isL_ne c))
    refine pk_bd (q_Xtake (c := 40) (by decide) hw6) ?_
    rintro r8 μ7 ⟨hE7, hO7⟩
    have hE7 : Xe μ3 μ7 := hE6.tr hE7
    have f7 : μ7.2.2 = μ.2.2 := by rw [hE7.1]; exact h1f
    have g7 : ∀ i k, i ≠ 16 → i ≠ a → μ7.1 i k = μ.1 i k := fun i k x y => by rw [hE7.2.2 i k x, h1g i k x y]
    refine pk_bd q_Xwell ?_
    rintro r10 μ9 ⟨e, hwl⟩
    have e : μ9 = μ7 := e
    subst e
    have hwl : (r10 = 1 ∧ μ9.1 16 3 = -1) ∨ (r10 = 0 ∧ μ9.1 16 3 ≠ -1) := hwl
    by_cases c1 : hr t n 1 = 40
    · rw [if_pos c1] at hO7 ⊢
      have hO7 : Xw t n 2 μ9 := hO7
      rw [if_neg (wl1 hO7 hwl)]
      refine pk_bd (q_Xhere hO7) ?_
      rintro r18 μ17 ⟨e, hh⟩
      have e : μ17 = μ9 := e
      subst e
      have hh : r18 = hr t n 2 := hh
      rw [hh]
      have hP7 := h1P.xe ha.1 hE7
      show pk _ (To t n μ a (ren t n (if hr t n 2 = 41 then .inr (2, 0) else _)))
      refine pk_ite (fun c2 => ?_) (fun c2 => ?_)
      · rw [if_pos c2]
        exact b116 r4 0 μ17 (.inr (2, 0)) f7 g7 ⟨hO7, 0, hP7⟩
      · rw [if_neg c2]
        refine pk_bw (q_Xpart hs ha e8 50 2 0 0 0 μ17 (by omega) hO7 hP7) ?_
        rintro μ20 ⟨x1, x2, x3⟩
        exact b71 FUEL 1 r4 1 μ20 (rp t n 8 50 2 0 0) e1 (by omega) (by omega) (by rw [x1]; exact f7) (fun i k y z => by rw [x2 i k y z, g7 i k y z]) x3
    · rw [if_neg c1] at hO7 ⊢
      have hO7 : Xf t n 1 μ9 := hO7
      rw [if_pos (wl0 hO7 hwl)]
      exact b116 r4 0 μ9 (.inl 1) f7 g7 hO7
