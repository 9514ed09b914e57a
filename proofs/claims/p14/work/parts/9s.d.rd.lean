def Ih (t : Nat → Int32) (n P r : Nat) : Prop := ∀ (N : List Int32) (v : Nat × Nat) (a : Int32) (μ0 μ : Mem), a.toInt + (r : Int) = 20 → N.length + r ≤ 25 → sel 2 (μ0.2.2 16 4) = P → Es t n N P μ0 (.inr v) μ → pk (pr_X4_readExpression (r + 30) a μ) (Es t n N P μ0 (re t n r N v))
theorem q_Xexprf {t : Nat → Int32} {n f : Nat} {a : Int32} (k : Nat) {μ : Mem} (h : Xf t n f μ) : pk (pr_X4_readExpression k a μ) (fun q => q = μ) := by
  cases k with
  | zero => intro r e; rw [pr_X4_readExpression_z] at e; cases e
  | succ k =>
    rw [pr_X4_readExpression_s, p_X4_readExpression_eq]
    refine pk_bd q_Xwell ?_
    rintro r2 μ1 ⟨e, hw⟩
    have e : μ1 = μ := e
    subst e
    rw [if_pos (wl0 h hw)]; exact pk_some rfl
theorem es_re {t : Nat → Int32} {n P r : Nat} (ih : Ih t n P r) {N : List Int32} {a : Int32} {μ0 μ : Mem} {o : Rd (Nat × Nat)} (ha : a.toInt + (r : Int) = 20) (hN : N.length + r ≤ 25) (hs : sel 2 (μ0.2.2 16 4) = P) (h : Es t n N P μ0 o μ) : pk (pr_X4_readExpression (r + 30) a μ) (Es t n N P μ0 (bnd o (re t n r N))) := by
  cases o with
  | inl f =>
    refine pk_mono (q_Xexprf _ h.2) (fun q e => ?_)
    have e : q = μ := e
    rw [e]; exact h
  | inr v => exact ih N v a μ0 μ ha hN hs h
theorem ti_dn {a : Int32} {r : Nat} (h : a.toInt + ((r + 1 : Nat) : Int) = 20) : (a + 1).toInt + (r : Int) = 20 := by
  have e1 : (1 : Int32).toInt = 1 := by decide
  have := ti_lo a
  rw [ti_add (by omega) (by omega), e1]; omega
theorem es_two {t : Nat → Int32} {n P r : Nat} (hP : P29 P) (ih : Ih t n P r) {N : List Int32} {a b : Int32} {μ0 μ : Mem} {o : Rd (Nat × Nat)} (ha : a.toInt + ((r + 1 : Nat) : Int) = 20) (hN : N.length + r ≤ 25) (hs : sel 2 (μ0.2.2 16 4) = P) (hb : b ≠ -1) (h : Es t n N P μ0 o μ) : pk (p_X4_readTwo (pr_X4_readExpression (r + 30)) a b μ) (Es t n N P μ0 (tk t n b (bnd (tk t n 44 (bnd o (re t n r N))) (re t n r N)))) := by
  rw [p_X4_readTwo_eq]
  exact pk_bw (es_re ih (ti_dn ha) hN hs h) (fun μ1 h1 => pk_bd (es_take hP (by decide) h1) (fun r4 μ3 h3 => pk_bw (es_re ih (ti_dn ha) hN hs h3) (fun μ5 h5 => pk_bd (es_take hP hb h5) (fun r8 μ7 h7 => pk_some h7))))
theorem isSg_X (c : Int32) : (s_X0_isSign c = 0) ↔ isSg c = false := by
  rw [s_X0_isSign_eq]; unfold isSg
  by_cases h1 : c = 43
  · rw [if_pos h1]; simp [h1]
  rw [if_neg h1]
  by_cases h2 : c = 45
  · rw [if_pos h2]; simp [h2]
  rw [if_neg h2]
  by_cases h3 : c = 42
  · rw [if_pos h3]; simp [h3]
  rw [if_neg h3]
  by_cases h4 : c = 47
  · rw [if_pos h4]; simp [h4]
  rw [if_neg h4]
  by_cases h5 : c = 37
  · rw [if_pos h5]; simp [h5]
  rw [if_neg h5]
  by_cases h6 : c = 60
  · rw [if_pos h6]; simp [h6]
  rw [if_neg h6]
  by_cases h7 : c = 61
  · rw [if_pos h7]; simp [h7]
  rw [if_neg h7]; simp [h1, h2, h3, h4, h5, h6, h7]
theorem isVa_X (c : Int32) : (s_X4_isVar c = 0) ↔ isVa c = false := by
  rw [s_X4_isVar_eq]; unfold isVa
  by_cases h1 : c < 109
  · rw [if_pos h1, decide_eq_true h1]; simp
  · rw [if_neg h1, decide_eq_false h1]
    by_cases h2 : 122 < c
    · rw [if_pos h2, decide_eq_true h2]; simp
    · rw [if_neg h2, decide_eq_false h2]; simp
theorem cls_ne {f : Int32 → Bool} (hf : f (-1) = false) {c : Int32} (h : f c = true) : c ≠ -1 := by
  intro e; rw [e, hf] at h; cases h
theorem tc_y {t : Nat → Int32} {n : Nat} {f : Int32 → Bool} {v : Nat × Nat} (h : f (hr t n v.1) = true) : tc t n f (.inr v) = .inr (v.1 + 1, v.2) := by unfold tc bnd; dsimp only; rw [if_pos h]
theorem tc_n {t : Nat → Int32} {n : Nat} {f : Int32 → Bool} {v : Nat × Nat} (h : f (hr t n v.1) = false) : tc t n f (.inr v) = .inl v.1 := by unfold tc bnd; dsimp only; rw [if_neg (by rw [h]; decide)]
theorem es_reck {t : Nat → Int32} {n P r : Nat} (hP : P29 P) (ih : Ih t n P r) {N : List Int32} {a : Int32} {μ0 μ : Mem} {o : Rd (Nat × Nat)} (ha : a.toInt + ((r + 1 : Nat) : Int) = 20) (hN : N.length + r ≤ 25) (hs : sel 2 (μ0.2.2 16 4) = P) (h : Es t n N P μ0 o μ) : pk (p_X4_readReckoned (pr_X4_readExpression (r + 30)) a μ) (Es t n N P μ0 (tk t n 41 (bnd (tc t n isSg (bnd o (re t n r N))) (re t n r N)))) := by
  rw [p_X4_readReckoned_eq]
  refine pk_bw (es_re ih (ti_dn ha) hN hs h) (fun μ1 h1 => pk_bd (es_well h1) (fun r4 μ3 hw => ?_))
  obtain ⟨e, hw⟩ := hw
  have e : μ3 = μ1 := e
  subst e
  generalize bnd o (re t n r N) = o1 at h1 hw ⊢
  rcases hw with ⟨c, f, e⟩ | ⟨c, v, e⟩
  · subst e
    rw [if_pos c]; exact pk_some h1
  · subst e
    rw [if_neg c]
    refine pk_bd (es_here h1) (fun r7 μ6 hh => ?_)
    obtain ⟨e, hh⟩ := hh
    have e : μ6 = μ3 := e
    subst e
    have hh : r7 = hr t n v.1 := hh
    refine pk_ite (fun c1 => pk_bw (es_fail hP h1) (fun q hq => pk_some ?_)) (fun c1 => pk_bvy (fun μ9 e9 => ?_))
    · rw [isSg_X, hh] at c1
      rw [tc_n c1]; exact hq
    · rw [isSg_X, hh] at c1
      have c1 : isSg (hr t n v.1) = true := by simpa using c1
      rw [tc_y c1]
      have h9 := xq_next hP h1 (hr_lt (cls_ne (by decide) c1))
      rw [← e9] at h9
      exact pk_bw (es_re ih (ti_dn ha) hN hs h9) (fun μ10 h10 => pk_bd (es_take hP (by decide) h10) (fun r13 μ12 h12 => pk_bd (es_add hP hs _ _ _ h12) (fun r15 μ14 h14 => pk_some h14)))
theorem es_cho {t : Nat → Int32} {n P r : Nat} (hP : P29 P) (ih : Ih t n P r) {N : List Int32} {a : Int32} {μ0 μ : Mem} {o : Rd (Nat × Nat)} (ha : a.toInt + ((r + 1 : Nat) : Int) = 20) (hN : N.length + r ≤ 25) (hs : sel 2 (μ0.2.2 16 4) = P) (h : Es t n N P μ0 o μ) : pk (p_X4_readChoice (pr_X4_readExpression (r + 30)) a μ) (Es t n N P μ0 (tk t n 41 (bnd (tk t n 44 (bnd (tk t n 44 (bnd (tk t n 40 o) (re t n r N))) (re t n r N))) (re t n r N)))) := by
  rw [p_X4_readChoice_eq]
  exact pk_bd (es_take hP (by decide) h) (fun r2 μ1 h1 => pk_bw (es_re ih (ti_dn ha) hN hs h1) (fun μ3 h3 => pk_bd (es_take hP (by decide) h3) (fun r6 μ5 h5 => pk_bd (es_add hP hs _ _ _ h5) (fun r8 μ7 h7 => pk_bw (es_re ih (ti_dn ha) hN hs h7) (fun μ9 h9 => pk_bd (es_take hP (by decide) h9) (fun r12 μ11 h11 => pk_bd (es_add hP hs _ _ _ h11) (fun r14 μ13 h13 => pk_bw (es_lead hP hs _ h13) (fun μ15 h15 => pk_bw (es_re ih (ti_dn ha) hN hs h15) (fun μ17 h17 => pk_bd (es_take hP (by decide) h17) (fun r20 μ19 h19 => pk_bd (es_add hP hs _ _ _ h19) (fun r22 μ21 h21 => pk_bw (es_lead hP hs _ h21) (fun μ23 h23 => pk_some h23))))))))))))
theorem pl_X {c : Int32} (h1 : ¬ c - 48 < 0) (h2 : c - 48 < 8) : isPl c = true := by
  have e8 : (8 : Int32).toInt = 8 := by decide
  have e0 : (0 : Int32).toInt = 0 := by decide
  have e48 : (48 : Int32).toInt = 48 := by decide
  have e55 : (55 : Int32).toInt = 55 := by decide
  rw [ti_lt, e0] at h1
  rw [ti_lt, e8] at h2
  have hc : c = (c - 48) + 48 := by simp
  have ht : c.toInt = (c - 48).toInt + 48 := by
    have : ((c - 48) + 48).toInt = (c - 48).toInt + 48 := by rw [ti_add (by omega) (by omega), e48]
    rw [← hc] at this; exact this
  unfold isPl
  rw [decide_eq_false (by rw [ti_lt, e48]; omega), decide_eq_false (by rw [ti_lt, e55]; omega)]; rfl
theorem pl_Xn {c : Int32} (h : c - 48 < 0 ∨ ¬ c - 48 < 8) : isPl c = false := by
  have e8 : (8 : Int32).toInt = 8 := by decide
  have e0 : (0 : Int32).toInt = 0 := by decide
  have e48 : (48 : Int32).toInt = 48 := by decide
  have e55 : (55 : Int32).toInt = 55 := by decide
  unfold isPl
  by_cases h1 : c < 48
  · rw [decide_eq_true h1]; rfl
  · by_cases h2 : 55 < c
    · rw [decide_eq_true h2]; simp
    · rw [ti_lt, e48] at h1
      rw [ti_lt, e55] at h2
      have : (c - 48).toInt = c.toInt - 48 := by rw [ti_sub (by omega) (by omega), e48]
      rcases h with h | h
      · rw [ti_lt, e0] at h; omega
      · rw [ti_lt, e8] at h; omega
theorem es_place {t : Nat → Int32} {n P r : Nat} (hP : P29 P) (ih : Ih t n P r) {N : List Int32} {a s : Int32} {μ0 μ : Mem} {v : Nat × Nat} (ha : a.toInt + ((r + 1 : Nat) : Int) = 20) (hN : N.length + r ≤ 25) (hs : sel 2 (μ0.2.2 16 4) = P) (h : Es t n N P μ0 (.inr v) μ) : pk (p_X4_readPlace (pr_X4_readExpression (r + 30)) s a μ) (Es t n N P μ0 (if s = 95 then tc t n isPl (.inr v) else bnd (tc t n isPl (.inr v)) (re t n r N))) := by
  rw [p_X4_readPlace_eq]
  refine pk_bd (es_here h) (fun r2 μ1 hh => ?_)
  obtain ⟨e, hh⟩ := hh
  have e : μ1 = μ := e
  subst e
  have hh : r2 = hr t n v.1 := hh
  subst hh
  have bad : isPl (hr t n v.1) = false → Es t n N P μ0 (.inl v.1) = Es t n N P μ0 (if s = 95 then tc t n isPl (.inr v) else bnd (tc t n isPl (.inr v)) (re t n r N)) := by
    intro c
    rw [tc_n c]
    by_cases cs : s = 95
    · rw [if_pos cs]
    · rw [if_neg cs]; rfl
  refine pk_bvy (fun v3 e3 => ?_)
  rw [e3]
  refine pk_ite (fun c => ?_) (fun c => pk_ite (fun c2 => pk_bvy (fun μ8 e8 => ?_)) (fun c2 => ?_))
  · rw [← bad (pl_Xn (Or.inl c))]
    exact pk_bw (es_fail hP h) (fun q hq => pk_some hq)
  · have c1 := pl_X c c2
    have h8 := xq_next hP h (hr_lt (cls_ne (by decide) c1))
    rw [← e8] at h8
    rw [tc_y c1]
    refine pk_bd (es_count hP hs (Or.inr (Or.inr rfl)) h8) (fun r10 μ9 h9 => pk_ite (fun cs => ?_) (fun cs => ?_))
    · rw [if_pos cs]
      exact pk_bd (es_add hP hs _ _ _ h9) (fun r17 μ16 h16 => pk_some h16)
    · rw [if_neg cs]
      exact pk_bw (es_re ih (ti_dn ha) hN hs h9) (fun μ12 h12 => pk_bd (es_add hP hs _ _ _ h12) (fun r15 μ14 h14 => pk_some h14))
  · rw [← bad (pl_Xn (Or.inr c2))]
    exact pk_bw (es_fail hP h) (fun q hq => pk_some hq)
theorem bnd_r {α β : Type} {o : Rd α} {f : α → Rd β} {v : β} (h : bnd o f = .inr v) : ∃ a, o = .inr a := by
  cases o with
  | inl f => cases h
  | inr a => exact ⟨a, rfl⟩
theorem es_naming {t : Nat → Int32} {n P r : Nat} (hP : P29 P) (ih : Ih t n P r) {N : List Int32} {a : Int32} {μ0 μ : Mem} {v : Nat × Nat} (ha : a.toInt + ((r + 1 : Nat) : Int) = 20) (hN : N.length + (r + 1) ≤ 25) (hs : sel 2 (μ0.2.2 16 4) = P) (h : Es t n N P μ0 (.inr v) μ) : pk (p_X4_readNaming (pr_X4_readExpression (r + 30)) a μ) (Es t n N P μ0 (bnd (tk t n 44 (bnd (tk t n 61 (tc t n isVa (.inr v))) (re t n r N))) (re t n r (hr t n v.1 :: N)))) := by
  rw [p_X4_readNaming_eq]
  refine pk_bd (es_here h) (fun r2 μ1 hh => ?_)
  obtain ⟨e, hh⟩ := hh
  have e : μ1 = μ := e
  subst e
  have hh : r2 = hr t n v.1 := hh
  subst hh
  refine pk_ite (fun c => ?_) (fun c => pk_bvy (fun μ4 e4 => ?_))
  · rw [isVa_X] at c
    rw [tc_n c]
    exact pk_bw (es_fail hP h) (fun q hq => pk_some hq)
  · rw [isVa_X] at c
    have c : isVa (hr t n v.1) = true := by simpa using c
    have h4 := xq_next hP h (hr_lt (cls_ne (by decide) c))
    rw [← e4] at h4
    rw [tc_y c]
    refine pk_bd (es_take hP (by decide) h4) (fun r6 μ5 h5 => pk_bw (es_re ih (ti_dn ha) (by omega) hs h5) (fun μ7 h7 => pk_bd (es_take hP (by decide) h7) (fun r10 μ9 h9 => pk_bd (es_add hP hs _ _ _ h9) (fun r12 μ11 h11 => pk_bvy (fun v13 e13 => ?_)))))
    have hN31 : N.length ≤ 30 := by omega
    refine pk_bw (es_name hP (hr t n v.1) hN31 h11) (fun μ14 h14 => pk_bw (es_re ih (ti_dn ha) (by simp; omega) hs h14) (fun μ16 h16 => pk_bv (pk_some (es_back hP ?_ h16))))
    rintro ⟨w, hw⟩
    obtain ⟨w2, hw2⟩ := bnd_r hw
    have h11 : Es t n N P μ0 _ μ11 := h11
    rw [hw2] at h11
    rw [e13]; exact h11.2.2.1
