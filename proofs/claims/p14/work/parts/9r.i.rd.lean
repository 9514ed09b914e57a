theorem isL_M (c : Int32) : (s_X12_isFunctionLetter c = 0) ↔ isL c = false := by
  have : s_X12_isFunctionLetter c = s_X4_isLetter c := by rw [s_X12_isFunctionLetter_eq, s_X4_isLetter_eq]
  rw [this]; exact isL_X c
def Mgt (μ q : Mem) : Prop := ∀ i k, ¬ (i = 0 ∧ (k = 4 ∨ k = 5 ∨ k = 6 ∨ k = 7 ∨ k = 36 ∨ k = 37 ∨ k = 48 ∨ k = 49)) → i ≠ 22 → i ≠ 23 → i ≠ 24 → q.1 i k = μ.1 i k
theorem Mgt.rf {μ : Mem} : Mgt μ μ := fun _ _ _ _ _ _ => rfl
theorem Mgt.tr {μ q z : Mem} (h : Mgt μ q) (h2 : Mgt q z) : Mgt μ z := fun i k a b c d => (h2 i k a b c d).trans (h i k a b c d)
theorem Mg.t {μ q : Mem} (h : Mg μ q) : Mgt μ q := fun i k a b c d => h i k (fun e => a ⟨e.1, by omega⟩) b c d
def Mto (t : Nat → Int32) (n : Nat) (o : Rd Nat) (r : Int32 × Mem) : Prop := match o with | .inl f => r.1 = 0 ∧ Mf t n f r.2 | .inr s => r.1 = 1 ∧ r.2.1 0 5 = -1 ∧ (r.2.1 0 37).toInt = (s : Int)
theorem rp_s8 {t : Nat → Int32} {n : Nat} : ∀ {k p m s p1 m1 s1 : Nat}, s ≤ 8 → rp t n 8 k p m s = .inr (p1, m1, s1) → s1 ≤ 8 := by
  intro k
  induction k with
  | zero => intro p m s p1 m1 s1 _ h; exact absurd h (by unfold rp; simp)
  | succ k ih =>
    intro p m s p1 m1 s1 h8 h
    unfold rp at h
    by_cases c : 30 ≤ m
    · rw [if_pos c] at h; cases h
    rw [if_neg c] at h
    by_cases c1 : hr t n p = 91
    · rw [if_pos c1] at h
      cases e : rp t n 8 k (p + 1) (m + 1) s with
      | inl f => rw [e] at h; cases h
      | inr v =>
        obtain ⟨p2, m2, s2⟩ := v
        rw [e] at h
        have i1 := ih h8 e
        dsimp only at h
        by_cases c2 : hr t n p2 = 44
        · rw [if_pos c2] at h
          cases e2 : rp t n 8 k (p2 + 1) m2 s2 with
          | inl f => rw [e2] at h; cases h
          | inr v =>
            obtain ⟨p3, m3, s3⟩ := v
            rw [e2] at h
            have i2 := ih i1 e2
            dsimp only at h
            by_cases c3 : hr t n p3 = 93
            · rw [if_pos c3] at h; cases h; exact i2
            · rw [if_neg c3] at h; cases h
        · rw [if_neg c2] at h; cases h
    · rw [if_neg c1] at h
      by_cases c2 : hr t n p = 45 ∨ isD (hr t n p) = true
      · rw [if_pos c2] at h
        cases e : rn t n p with
        | inl f => rw [e] at h; cases h
        | inr v => rw [e] at h; cases h; exact h8
      · rw [if_neg c2] at h
        by_cases c3 : hr t n p = 42 ∧ s < 8
        · rw [if_pos c3] at h; cases h; omega
        · rw [if_neg c3] at h; cases h
theorem mw_t {t : Nat → Int32} {n p : Nat} {μ : Mem} (h : MwT t n p μ) {k : Nat} (hk : k = 48 ∨ k = 49) (v : Int32) : MwT t n p (sF μ 0 k v) := ⟨⟨by rw [sF_k (by omega)]; exact h.1.1, h.1.2.1, fun j hj => by rw [sF_i (by decide)]; exact h.1.2.2 j hj⟩, by rw [sF_k (by omega)]; exact h.2.1, by rw [sF_k (by omega)]; exact h.2.2.1, h.2.2.2⟩
theorem mp_t {m s : Nat} {μ : Mem} (h : Mp μ m s) {k : Nat} (hk : k = 48 ∨ k = 49 ∨ k = 4) (v : Int32) : Mp (sF μ 0 k v) m s := ⟨by rw [sF_k (by omega)]; exact h.1, h.2.1, by rw [sF_k (by omega)]; exact h.2.2.1, h.2.2.2⟩
set_option maxHeartbeats 2000000 in
theorem q_Mtask {t : Nat → Int32} {n : Nat} {μ : Mem} (hs : Ms t n μ) : pk (p_X12_readTask μ) (Mto t n (rt t n)) := by
  have e0 : (0 : Int32).toInt = 0 := by decide
  have e1 : (1 : Int32).toInt = 1 := by decide
  have e5 : (5 : Int32).toInt = 5 := by decide
  have fin : ∀ (fu : Nat) (q : Mem) (p m s : Nat), MwT t n p q → Mp q m s → pk (p_X12_readTask_b87 fu 0 q) (Mto t n (ren t n (.inr (p, s)))) := by
    intro fu q p m s hw hP
    cases fu with
    | zero => intro r e; rw [p_X12_readTask_b87_z] at e; cases e
    | succ fu =>
      rw [p_X12_readTask_b87_s, if_pos rfl]
      refine pk_bd (q_Mtakes (c := 41) (by decide) hw) ?_
      rintro r21 μ20 ⟨hE, hO⟩
      have hE : Me q μ20 := hE
      show pk _ (Mto t n (if hr t n p = 41 then (if p + 1 < n then .inl (p + 1) else .inr s) else .inl p))
      by_cases c : hr t n p = 41
      · rw [if_pos c] at hO ⊢
        have hO : r21 = 1 ∧ MwT t n (p + 1) μ20 := hO
        rw [if_neg (by rw [hO.1]; decide)]
        have hn := hO.2.2.2.2
        refine pk_ite (fun c2 => pk_some ?_) (fun c2 => pk_bd (q_Mfails hO.2) ?_)
        · rw [ti_eq, hO.2.2.2.1, hO.2.1.1] at c2
          rw [if_neg (by omega)]
          exact ⟨rfl, hO.2.2.1, (hP.me hE).2.2.1⟩
        · rw [ti_eq, hO.2.2.2.1, hO.2.1.1] at c2
          rintro r25 μ24 ⟨x1, x2, x3⟩
          have x1 : r25 = 0 := x1
          rw [if_pos x1, if_pos (by omega)]
          exact pk_some ⟨rfl, x3⟩
      · rw [if_neg c] at hO ⊢
        have hO : r21 = 0 ∧ Mf t n p μ20 := hO
        rw [if_pos hO.1]
        exact pk_some ⟨rfl, hO.2⟩
  have b87 : ∀ (fu j : Nat) (q : Mem) (p m s : Nat), (q.1 0 48).toInt = (j : Int) → j ≤ 4 → s ≤ 8 → MwT t n p q → Mp q m s → pk (p_X12_readTask_b87 fu 1 q) (Mto t n (ren t n (match rp t n 8 50 p m s with | .inl f => .inl f | .inr (p, m, s) => rar t n (4 - j) p m s))) := by
    intro fu
    induction fu with
    | zero => intro j q p m s _ _ _ _ _ r e; rw [p_X12_readTask_b87_z] at e; cases e
    | succ fu ih =>
      intro j q p m s h48 hj h8 hw hP
      rw [p_X12_readTask_b87_s, if_neg (by decide)]
      refine pk_bd (q_Mreadpart (a1 := 1) (Or.inr ⟨rfl, rfl⟩) (fun _ => h8) hw hP) ?_
      rintro r28 μ27 ⟨hg, hO⟩
      have hg : Mg q μ27 := hg
      cases hrp : rp t n 8 50 p m s with
      | inl f =>
        rw [hrp] at hO
        have hO : r28 = 0 ∧ Mf t n f μ27 := hO
        rw [if_pos hO.1]
        exact pk_some ⟨rfl, hO.2⟩
      | inr v =>
        obtain ⟨p1, m1, s1⟩ := v
        rw [hrp] at hO
        have hO : r28 = 1 ∧ MwT t n p1 μ27 ∧ Mp μ27 m1 s1 := hO
        have h81 := rp_s8 h8 hrp
        rw [if_neg (by rw [hO.1]; decide)]
        refine pk_bvy (fun μ30 e30 => ?_)
        have w30 : MwT t n p1 μ30 := by rw [e30]; exact mw_t hO.2.1 (by omega) _
        have p30 : Mp μ30 m1 s1 := by rw [e30]; exact mp_t hO.2.2 (by omega) _
        have h27 : (μ27.1 0 48).toInt = (j : Int) := by rw [hg 0 48 (by omega) (by decide) (by decide) (by decide)]; exact h48
        have t48 : (μ30.1 0 48).toInt = (j : Int) + 1 := by rw [e30, sF_v, ti_add (by omega) (by omega), e1, h27]
        refine pk_bd (q_Mhere w30) ?_
        rintro r32 μ31 ⟨e, hh⟩
        have e : μ31 = μ30 := e
        subst e
        have hh : r32 = hr t n p1 := hh
        rw [hh]
        show pk _ (Mto t n (ren t n (rar t n (4 - j) p1 m1 s1)))
        have stop : rar t n (4 - j) p1 m1 s1 = .inr (p1, s1) → pk (p_X12_readTask_b132 (p_X12_readTask_b87 fu) μ31) (Mto t n (ren t n (rar t n (4 - j) p1 m1 s1))) := by
          intro h
          rw [h, p_X12_readTask_b132_eq, p_X12_readTask_b133_eq, if_pos rfl]
          exact fin fu μ31 p1 m1 s1 w30 p30
        refine pk_ite (fun c => pk_ite (fun c2 => ?_) (fun c2 => ?_)) (fun c => ?_)
        · rw [ti_le, e5, t48] at c2
          exact stop (by rw [show 4 - j = 0 by omega]; rfl)
        · rw [ti_le, e5, t48] at c2
          obtain ⟨d, hd⟩ : ∃ d, 4 - j = d + 1 := ⟨4 - j - 1, by omega⟩
          rw [p_X12_readTask_b133_eq, if_neg (by decide)]
          refine pk_bvy (fun μ35 e35 => ?_)
          have w35 : MwT t n (p1 + 1) μ35 := by rw [e35]; exact mw_next w30 (hr_lt (by rw [c]; decide))
          have p35 : Mp μ35 m1 s1 := by rw [e35]; exact mp_t p30 (by omega) _
          have hx := ih (j + 1) μ35 (p1 + 1) m1 s1 (by rw [e35, sF_k (by decide), t48]; omega) (by omega) h81 w35 p35
          have er : rar t n (4 - j) p1 m1 s1 = (match rp t n 8 50 (p1 + 1) m1 s1 with | .inl f => .inl f | .inr (p, m, s) => rar t n (4 - (j + 1)) p m s) := by
            rw [hd, show 4 - (j + 1) = d by omega]
            show (if hr t n p1 = 44 then _ else _) = _
            rw [if_pos c]
            rfl
          rw [er]; exact hx
        · refine stop ?_
          cases h5 : 4 - j with
          | zero => rfl
          | succ d => show (if hr t n p1 = 44 then _ else _) = _; rw [if_neg c]
  rw [p_X12_readTask_eq]
  have hb : pk (p_X12_beginText μ) (fun q => MwT t n 0 q) := by
    rw [p_X12_beginText_eq]
    refine pk_bvy (fun μ1 m1 => pk_bvy (fun μ2 m2 => pk_some ?_))
    refine ⟨⟨by rw [m2, sF_k (by decide), m1, sF_k (by decide)]; exact hs.1, hs.2.1, fun j hj => by rw [m2, sF_i (by decide), m1, sF_i (by decide)]; exact hs.2.2 j hj⟩, by rw [m2, sF_v], by rw [m2, sF_k (by decide), m1, sF_v]; exact e0, Nat.zero_le _⟩
  refine pk_bw hb (fun μ1 h1 => ?_)
  refine pk_bvy (fun μ3 m3 => pk_bvy (fun μ4 m4 => pk_bvy (fun μ5 m5 => ?_)))
  have g5 : ∀ i k, ¬ (i = 0 ∧ (k = 36 ∨ k = 37 ∨ k = 48)) → μ5.1 i k = μ1.1 i k := by
    intro i k h
    by_cases e : i = 0
    · subst e
      rw [m5, sF_k (fun e => h ⟨rfl, by omega⟩), m4, sF_k (fun e => h ⟨rfl, by omega⟩), m3, sF_k (fun e => h ⟨rfl, by omega⟩)]
    · rw [m5, sF_i e, m4, sF_i e, m3, sF_i e]
  have w5 : MwT t n 0 μ5 := ⟨⟨by rw [g5 _ _ (by decide)]; exact h1.1.1, h1.1.2.1, fun j hj => by rw [g5 _ _ (by omega)]; exact h1.1.2.2 j hj⟩, by rw [g5 _ _ (by decide)]; exact h1.2.1, by rw [g5 _ _ (by decide)]; exact h1.2.2.1, h1.2.2.2⟩
  have p5 : Mp μ5 0 0 := ⟨by rw [m5, sF_k (by decide), m4, sF_k (by decide), m3, sF_v]; exact e0, by omega, by rw [m5, sF_k (by decide), m4, sF_v]; exact e0, by omega⟩
  have t48 : (μ5.1 0 48).toInt = 0 := by rw [m5, sF_v]; exact e0
  refine pk_bd (q_Mhere w5) ?_
  rintro r7 μ6 ⟨e, hh⟩
  have e : μ6 = μ5 := e
  subst e
  have hh : r7 = hr t n 0 := hh
  show pk _ (Mto t n (if isL (hr t n 0) then _ else .inl 0))
  refine pk_ite (fun c => ?_) (fun c => ?_)
  · rw [isL_M, hh] at c
    rw [if_neg (by rw [c]; decide)]
    exact pk_mono (q_Mfailb w5) (fun r h => h.2)
  · rw [isL_M, hh] at c
    have c : isL (hr t n 0) = true := by simpa using c
    rw [if_pos c]
    refine pk_bd (q_Mhere w5) ?_
    rintro r10 μ9 ⟨e, hh⟩
    have e : μ9 = μ6 := e
    subst e
    refine pk_bvy (fun μ11 m11 => pk_bvy (fun μ12 m12 => ?_))
    have w12 : MwT t n 1 μ12 := by rw [m12, m11]; exact mw_next (mw_t w5 (by omega) _) (hr_lt (isL_ne c))
    have p12 : Mp μ12 0 0 := by rw [m12, m11]; exact mp_t (mp_t p5 (by omega) _) (by omega) _
    have t12 : (μ12.1 0 48).toInt = 0 := by rw [m12, sF_k (by decide), m11, sF_k (by decide)]; exact t48
    refine pk_bd (q_Mtakes (c := 40) (by decide) w12) ?_
    rintro r14 μ13 ⟨hE13, hO13⟩
    have hE13 : Me μ12 μ13 := hE13
    by_cases c1 : hr t n 1 = 40
    · rw [if_pos c1] at hO13 ⊢
      have hO13 : r14 = 1 ∧ MwT t n 2 μ13 := hO13
      rw [if_neg (by rw [hO13.1]; decide)]
      refine pk_bd (q_Mhere hO13.2) ?_
      rintro r17 μ16 ⟨e, hh⟩
      have e : μ16 = μ13 := e
      subst e
      have hh : r17 = hr t n 2 := hh
      rw [hh]
      have p16 := p12.me hE13
      have t16 : (μ16.1 0 48).toInt = ((0 : Nat) : Int) := by rw [hE13 0 48 (by omega), t12]; rfl
      show pk _ (Mto t n (ren t n (if hr t n 2 = 41 then .inr (2, 0) else _)))
      refine pk_ite (fun c2 => ?_) (fun c2 => ?_)
      · rw [if_pos c2, p_X12_readTask_b86_eq]
        exact fin FUEL μ16 2 0 0 hO13.2 p16
      · rw [if_neg c2, p_X12_readTask_b86_eq]
        exact b87 FUEL 0 μ16 2 0 0 t16 (by omega) (by omega) hO13.2 p16
    · rw [if_neg c1] at hO13 ⊢
      have hO13 : r14 = 0 ∧ Mf t n 1 μ13 := hO13
      rw [if_pos hO13.1]
      exact pk_some ⟨rfl, hO13.2⟩
