theorem mos_l {t : Nat → Int32} {n f : Nat} {e : Nat × Nat → Rd (Nat × Nat)} : ∀ k, mos t n e k (.inl f) = .inl f := by
  intro k
  induction k with
  | zero => rfl
  | succ k ih => exact ih
theorem mos_n {t : Nat → Int32} {n : Nat} {e : Nat × Nat → Rd (Nat × Nat)} {v : Nat × Nat} (h : ¬ hr t n v.1 = 44) : ∀ k, mos t n e k (.inr v) = .inr v := by
  intro k
  induction k with
  | zero => rfl
  | succ k ih =>
    show mos t n e k (if hr t n v.1 = 44 then e (v.1 + 1, v.2) else .inr v) = _
    rw [if_neg h]; exact ih
theorem mos_y {t : Nat → Int32} {n : Nat} {e : Nat × Nat → Rd (Nat × Nat)} {v : Nat × Nat} (h : hr t n v.1 = 44) (k : Nat) : mos t n e (k + 1) (.inr v) = mos t n e k (e (v.1 + 1, v.2)) := by
  show mos t n e k (if hr t n v.1 = 44 then e (v.1 + 1, v.2) else .inr v) = _
  rw [if_pos h]
theorem es_b97 {t : Nat → Int32} {n P : Nat} (hP : P29 P) {N : List Int32} {RE : Int32 → Mem → Option Mem} {a1 a3 : Int32} {μ0 μ : Mem} {o : Rd (Nat × Nat)} (hs : sel 2 (μ0.2.2 16 4) = P) (h : Es t n N P μ0 o μ) : pk (p_X4_readCall_b97 RE a1 a3 μ) (Es t n N P μ0 (tk t n 41 o)) := by
  rw [p_X4_readCall_b97_eq]
  exact pk_bd (es_take hP (by decide) h) (fun r10 μ9 h9 => pk_bd (es_add hP hs _ _ _ h9) (fun r12 μ11 h11 => pk_some h11))
theorem es_b53 {t : Nat → Int32} {n P r : Nat} (hP : P29 P) (ih : Ih t n P r) {N : List Int32} {a1 a2 : Int32} {μ0 : Mem} (ha : a2.toInt + ((r + 1 : Nat) : Int) = 20) (hN : N.length + r ≤ 25) (hs : sel 2 (μ0.2.2 16 4) = P) : ∀ (fu j : Nat) (a3 : Int32) (μ : Mem) (o : Rd (Nat × Nat)), a3.toInt = (j : Int) → 1 ≤ j → j ≤ 5 → Es t n N P μ0 o μ → pk (p_X4_readCall_b53 (pr_X4_readExpression (r + 30)) fu a1 a2 a3 μ) (Es t n N P μ0 (tk t n 41 (mos t n (re t n r N) (5 - j) o))) := by
  have e5 : (5 : Int32).toInt = 5 := by decide
  have e1 : (1 : Int32).toInt = 1 := by decide
  intro fu
  induction fu with
  | zero => intro j a3 μ o _ _ _ _ r e; rw [p_X4_readCall_b53_z] at e; cases e
  | succ fu ihf =>
    intro j a3 μ o h3 h1 hj h
    rw [p_X4_readCall_b53_s]
    refine pk_bd (es_well h) (fun r19 μ18 hw => ?_)
    obtain ⟨e, hw⟩ := hw
    have e : μ18 = μ := e
    subst e
    rcases hw with ⟨c, f, e⟩ | ⟨c, v, e⟩
    · subst e
      rw [if_pos c, mos_l]
      exact es_b97 hP hs h
    · subst e
      rw [if_neg c]
      refine pk_bd (es_here h) (fun r22 μ21 hh => ?_)
      obtain ⟨e, hh⟩ := hh
      have e : μ21 = μ18 := e
      subst e
      have hh : r22 = hr t n v.1 := hh
      subst hh
      refine pk_ite (fun c1 => pk_ite (fun c2 => ?_) (fun c2 => ?_)) (fun c1 => ?_)
      · rw [ti_le, e5, h3] at c2
        rw [show 5 - j = 0 by omega]
        exact es_b97 hP hs h
      · rw [ti_le, e5, h3] at c2
        rw [show 5 - j = (5 - (j + 1)) + 1 by omega, mos_y c1]
        refine pk_bvy (fun μ25 e25 => ?_)
        have h25 := xq_next hP h (hr_lt (by rw [c1]; decide))
        rw [← e25] at h25
        exact pk_bw (ih N _ _ μ0 μ25 (ti_dn ha) hN hs h25) (fun μ26 h26 => pk_bv (ihf (j + 1) _ μ26 _ (by rw [ti_add (by omega) (by omega), e1, h3]; omega) (by omega) (by omega) h26))
      · rw [mos_n c1]
        exact es_b97 hP hs h
theorem es_call {t : Nat → Int32} {n P r : Nat} (hP : P29 P) (ih : Ih t n P r) {N : List Int32} {a1 a2 : Int32} {μ0 μ : Mem} {v : Nat × Nat} (ha : a2.toInt + ((r + 1 : Nat) : Int) = 20) (hN : N.length + r ≤ 25) (hs : sel 2 (μ0.2.2 16 4) = P) (hp : v.1 < n) (h : Es t n N P μ0 (.inr v) μ) : pk (p_X4_readCall (pr_X4_readExpression (r + 30)) a1 a2 μ) (Es t n N P μ0 (ag t n (re t n r N) (tk t n 40 (.inr (v.1 + 1, v.2))))) := by
  have e1 : (1 : Int32).toInt = ((1 : Nat) : Int) := by decide
  rw [p_X4_readCall_eq]
  refine pk_bvy (fun μ1 e1 => ?_)
  have h1 := xq_next hP h hp
  rw [← e1] at h1
  refine pk_bd (es_count hP hs (Or.inl rfl) h1) (fun r3 μ2 h2 => pk_bd (es_take hP (by decide) h2) (fun r5 μ4 h4 => pk_bd (es_well h4) (fun r7 μ6 hw => ?_)))
  obtain ⟨e, hw⟩ := hw
  have e : μ6 = μ4 := e
  subst e
  have h4 : Es t n N P μ0 (tk t n 40 (.inr (v.1 + 1, v.2))) μ6 := h4
  generalize tk t n 40 (.inr (v.1 + 1, v.2)) = o1 at h4 hw ⊢
  rcases hw with ⟨c, f, e⟩ | ⟨c, w, e⟩
  · subst e
    rw [if_pos c]
    exact es_b97 hP hs h4
  · subst e
    rw [if_neg c]
    refine pk_bd (es_here h4) (fun r14 μ13 hh => ?_)
    obtain ⟨e, hh⟩ := hh
    have e : μ13 = μ6 := e
    subst e
    have hh : r14 = hr t n w.1 := hh
    subst hh
    show pk _ (Es t n N P μ0 (if hr t n w.1 = 41 then .inr (w.1 + 1, w.2) else tk t n 41 (mos t n (re t n r N) 4 (re t n r N w))))
    refine pk_ite (fun c1 => ?_) (fun c1 => ?_)
    · rw [if_pos c1]
      have := es_b97 (RE := pr_X4_readExpression (r + 30)) (a1 := a1) (a3 := 0) hP hs h4
      have e : tk t n 41 (.inr w) = .inr (w.1 + 1, w.2) := by unfold tk bnd; dsimp only; rw [if_pos c1]
      rw [e] at this; exact this
    · rw [if_neg c1]
      exact pk_bw (ih N w _ μ0 μ13 (ti_dn ha) hN hs h4) (fun μ16 h16 => es_b53 hP ih ha hN hs FUEL 1 1 μ16 _ (by decide) (by omega) (by omega) h16)
theorem es_out {t : Nat → Int32} {n : Nat} {N : List Int32} {P : Nat} (hP : P29 P) {μ0 μ μ2 : Mem} {v : Nat × Nat} (h : Es t n N P μ0 (.inr v) μ) (e : μ2 = sF μ 16 2 (μ.1 16 2 + 1)) : pk (p_X4_fail (μ.1 16 2) μ2) (Es t n N P μ0 (.inl v.1)) := by
  obtain ⟨hs, hb, ha, _⟩ : Xw t n v.1 μ := h.2.1
  have hE : Xe μ μ2 := by rw [e]; exact Xe.put (by decide) _
  rw [p_X4_fail_eq, if_pos (by rw [e, sF_k (by decide)]; exact hb)]
  have hE2 : Xe μ (sF μ2 16 3 (μ.1 16 2)) := hE.tr (Xe.put (by decide) _)
  exact pk_bv (pk_some ⟨h.1.tr (hE2.xk hP), hE2.xs hs, by rw [sF_v]; exact ha⟩)
set_option maxHeartbeats 2000000 in
theorem es_signed {t : Nat → Int32} {n P r : Nat} (hP : P29 P) (ih : Ih t n P r) {N : List Int32} {a : Int32} {μ0 μ : Mem} {p c : Nat} (ha : a.toInt + ((r + 1 : Nat) : Int) = 20) (hN : N.length + (r + 1) ≤ 25) (hs : sel 2 (μ0.2.2 16 4) = P) (h : Es t n N P μ0 (.inr (p, c)) μ) : pk (p_X4_readSigned (pr_X4_readExpression (r + 30)) (hr t n p) a μ) (Es t n N P μ0 (rsg t n (re t n r) N (hr t n p) p c)) := by
  rw [p_X4_readSigned_eq]
  refine pk_bv (pk_bvy (fun μ2 e2 => ?_))
  have hn : hr t n p ≠ -1 → Es t n N P μ0 (.inr (p + 1, c)) μ2 := by
    intro hne
    have := xq_next hP h (hr_lt hne)
    rw [← e2] at this; exact this
  have hN' : N.length + r ≤ 25 := by omega
  have one : isT1 (hr t n p) = true → rsg t n (re t n r) N (hr t n p) p c = re t n r N (p + 1, c) := by
    intro h1; unfold rsg; rw [if_pos h1]
  have go : ∀ {a1 a2 a3 : Int32}, hr t n p ≠ -1 → isT1 (hr t n p) = true → pk (bw (pr_X4_readExpression (r + 30) (a + 1) μ2) (fun μ12 => bd (p_X3_add (sel 2 (μ12.2.2 16 4)) a1 a2 a3 μ12) (fun r15 μ14 => some μ14))) (Es t n N P μ0 (rsg t n (re t n r) N (hr t n p) p c)) := by
    intro a1 a2 a3 hne h1
    rw [one h1]
    exact pk_bw (ih N _ _ μ0 μ2 (ti_dn ha) hN' hs (hn hne)) (fun μ12 h12 => pk_bd (es_add hP hs _ _ _ h12) (fun r15 μ14 h14 => pk_some h14))
  refine pk_ite (fun c33 => ?_) (fun c33 => pk_ite (fun c35 => ?_) (fun c35 => pk_ite (fun c36 => ?_) (fun c36 => pk_ite (fun c38 => ?_) (fun c38 => pk_ite (fun c40 => ?_) (fun c40 => pk_ite (fun c58 => ?_) (fun c58 => pk_ite (fun c63 => ?_) (fun c63 => pk_ite (fun c64 => ?_) (fun c64 => pk_ite (fun c91 => ?_) (fun c91 => pk_ite (fun c94 => ?_) (fun c94 => pk_ite (fun c95 => ?_) (fun c95 => pk_ite (fun c126 => ?_) (fun c126 => ?_))))))))))))
  · have hne : hr t n p ≠ -1 := by rw [c33]; decide
    have h1 : isT1 (hr t n p) = true := by rw [c33]; decide
    rw [one h1]
    exact pk_bd (es_count hP hs (Or.inr (Or.inl rfl)) (hn hne)) (fun r6 μ5 h5 => pk_bw (ih N _ _ μ0 μ5 (ti_dn ha) hN' hs h5) (fun μ12 h12 => pk_bd (es_add hP hs _ _ _ h12) (fun r15 μ14 h14 => pk_some h14)))
  · exact go (by rw [c35]; decide) (by rw [c35]; decide)
  · exact go (by rw [c36]; decide) (by rw [c36]; decide)
  · have hne : hr t n p ≠ -1 := by rw [c38]; decide
    have e : rsg t n (re t n r) N (hr t n p) p c = bnd (tc t n isPl (.inr (p + 1, c))) (re t n r N) := by rw [c38]; rfl
    rw [e]
    have := es_place (s := hr t n p) hP ih ha hN' hs (hn hne)
    rw [if_neg (by rw [c38]; decide)] at this
    exact pk_bw this (fun μ22 h22 => pk_some h22)
  · have hne : hr t n p ≠ -1 := by rw [c40]; decide
    have e : rsg t n (re t n r) N (hr t n p) p c = tk t n 41 (bnd (tc t n isSg (re t n r N (p + 1, c))) (re t n r N)) := by rw [c40]; rfl
    rw [e]
    exact pk_bw (es_reck hP ih ha hN' hs (hn hne)) (fun μ22 h22 => pk_some h22)
  · have hne : hr t n p ≠ -1 := by rw [c58]; decide
    have e : rsg t n (re t n r) N (hr t n p) p c = bnd (tk t n 44 (bnd (tk t n 61 (tc t n isVa (.inr (p + 1, c)))) (re t n r N))) (re t n r (hr t n (p + 1) :: N)) := by rw [c58]; rfl
    rw [e]
    exact pk_bw (es_naming hP ih ha hN hs (hn hne)) (fun μ22 h22 => pk_some h22)
  · have hne : hr t n p ≠ -1 := by rw [c63]; decide
    have e : rsg t n (re t n r) N (hr t n p) p c = tk t n 41 (bnd (tk t n 44 (bnd (tk t n 44 (bnd (tk t n 40 (.inr (p + 1, c))) (re t n r N))) (re t n r N))) (re t n r N)) := by rw [c63]; rfl
    rw [e]
    exact pk_bw (es_cho hP ih ha hN' hs (hn hne)) (fun μ22 h22 => pk_some h22)
  · exact go (by rw [c64]; decide) (by rw [c64]; decide)
  · have hne : hr t n p ≠ -1 := by rw [c91]; decide
    have e : rsg t n (re t n r) N (hr t n p) p c = tk t n 93 (bnd (tk t n 44 (re t n r N (p + 1, c))) (re t n r N)) := by rw [c91]; rfl
    rw [e]
    exact pk_bw (es_two hP ih ha hN' hs (by decide) (hn hne)) (fun μ22 h22 => pk_bd (es_add hP hs _ _ _ h22) (fun r15 μ14 h14 => pk_some h14))
  · exact go (by rw [c94]; decide) (by rw [c94]; decide)
  · have hne : hr t n p ≠ -1 := by rw [c95]; decide
    have e : rsg t n (re t n r) N (hr t n p) p c = tc t n isPl (.inr (p + 1, c)) := by rw [c95]; rfl
    rw [e]
    have := es_place (s := hr t n p) hP ih ha hN' hs (hn hne)
    rw [if_pos c95] at this
    exact pk_bw this (fun μ22 h22 => pk_some h22)
  · exact go (by rw [c126]; decide) (by rw [c126]; decide)
  · have e : rsg t n (re t n r) N (hr t n p) p c = .inl p := by
      unfold rsg
      rw [if_neg (by unfold isT1; simp [c33, c35, c36, c64, c94, c126]), if_neg c38, if_neg c40, if_neg c58, if_neg c63, if_neg c91, if_neg c95]
    rw [e]
    exact pk_bw (es_out hP h e2) (fun q hq => pk_some hq)
theorem q_Xexpr {t : Nat → Int32} {n P : Nat} (hP : P29 P) : ∀ r, Ih t n P r := by
  have e20 : (20 : Int32).toInt = 20 := by decide
  have e80 : (80 : Int32).toInt = 80 := by decide
  intro r
  induction r with
  | zero =>
    intro N v a μ0 μ ha hN hs h
    rw [show 0 + 30 = 29 + 1 from rfl, pr_X4_readExpression_s, p_X4_readExpression_eq]
    refine pk_bd (es_well h) (fun r2 μ1 hw => ?_)
    obtain ⟨e, hw⟩ := hw
    have e : μ1 = μ := e
    subst e
    rcases hw with ⟨_, f, e⟩ | ⟨c, _⟩
    · cases e
    rw [if_neg c]
    refine pk_bd (es_here h) (fun r5 μ4 hh => ?_)
    obtain ⟨e, hh⟩ := hh
    have e : μ4 = μ1 := e
    subst e
    have ha : a.toInt = 20 := by simpa using ha
    rw [if_pos (by rw [ti_le, e20]; omega)]
    exact pk_bw (es_fail hP h) (fun q hq => pk_some hq)
  | succ r ih =>
    intro N v a μ0 μ ha hN hs h
    rw [show r + 1 + 30 = (r + 30) + 1 by omega, pr_X4_readExpression_s, p_X4_readExpression_eq]
    refine pk_bd (es_well h) (fun r2 μ1 hw => ?_)
    obtain ⟨e, hw⟩ := hw
    have e : μ1 = μ := e
    subst e
    rcases hw with ⟨_, f, e⟩ | ⟨c, _⟩
    · cases e
    rw [if_neg c]
    refine pk_bd (es_here h) (fun r5 μ4 hh => ?_)
    obtain ⟨e, hh⟩ := hh
    have e : μ4 = μ1 := e
    subst e
    obtain ⟨p, c0⟩ := v
    have hh : r5 = hr t n p := hh
    subst hh
    rw [if_neg (by rw [ti_le, e20]; omega)]
    refine pk_bd (es_things hP hs h) (fun r10 μ9 h9 => ?_)
    obtain ⟨h10, hk, hw9, h9⟩ : r10.toInt = (c0 : Int) + 1 ∧ Xk P μ0 μ9 ∧ Xw t n p μ9 ∧ (c0 + 1 ≤ 80 → Es t n N P μ0 (.inr (p, c0 + 1)) μ9) := h9
    show pk _ (Es t n N P μ0 (if 80 ≤ c0 then .inl p else if hr t n p = 45 ∨ isD (hr t n p) = true then bnd (rn t n p) (fun q => .inr (q, c0 + 1)) else if isVa (hr t n p) = true then (if hr t n p ∈ N then .inr (p + 1, c0 + 1) else .inl p) else if isL (hr t n p) = true then ag t n (re t n r N) (tk t n 40 (.inr (p + 1, c0 + 1))) else rsg t n (re t n r) N (hr t n p) p (c0 + 1)))
    refine pk_ite (fun c8 => ?_) (fun c8 => ?_)
    · rw [ti_le, e80] at c8
      have h9 := h9 (by omega)
      rw [if_neg (show ¬ 80 ≤ c0 by omega)]
      refine pk_ite (fun cn => ?_) (fun cn => ?_)
      · rw [num_X] at cn
        rw [if_neg cn]
        refine pk_ite (fun cv => ?_) (fun cv => ?_)
        · rw [isVa_X] at cv
          rw [if_neg (show ¬ isVa (hr t n p) = true by rw [cv]; decide)]
          refine pk_ite (fun cl => ?_) (fun cl => ?_)
          · rw [isL_X] at cl
            rw [if_neg (show ¬ isL (hr t n p) = true by rw [cl]; decide)]
            exact pk_bw (es_signed hP ih ha (by omega) hs h9) (fun q hq => pk_some hq)
          · rw [isL_X] at cl
            have cl : isL (hr t n p) = true := by simpa using cl
            rw [if_pos cl]
            exact pk_bw (es_call (v := (p, c0 + 1)) hP ih ha (by omega) hs (hr_lt (isL_ne cl)) h9) (fun q hq => pk_some hq)
        · rw [isVa_X] at cv
          have cv : isVa (hr t n p) = true := by simpa using cv
          rw [if_pos cv, p_X4_readVar_eq]
          have hq : Xq t n N P (p, c0 + 1) μ9 := h9.2
          refine pk_bw (pk_bd (q_slot hq.2.1 hq.2.2.1 (by omega)) (fun r2 μ1 hz => ?_)) (fun q hq => pk_some hq)
          obtain ⟨e, hz⟩ := hz
          have e : μ1 = μ9 := e
          subst e
          have hz : r2 = -1 ↔ ¬ hr t n p ∈ N := hz
          refine pk_ite (fun cs => ?_) (fun cs => ?_)
          · rw [if_neg (hz.mp cs)]
            exact pk_bw (es_fail hP h9) (fun q hq => pk_some hq)
          · have hm : hr t n p ∈ N := by
              by_cases hm : hr t n p ∈ N
              · exact hm
              · exact absurd (hz.mpr hm) cs
            rw [if_pos hm]
            refine pk_bvy (fun μ5 e5 => ?_)
            have h5 := xq_next (v := (p, c0 + 1)) hP h9 (hr_lt (cls_ne (by decide) cv))
            rw [← e5] at h5
            exact pk_bd (es_add hP hs _ _ _ h5) (fun r6 μ6 h6 => pk_some h6)
      · have cn : hr t n p = 45 ∨ isD (hr t n p) = true := by
          by_cases cc : hr t n p = 45 ∨ isD (hr t n p) = true
          · exact cc
          · exact absurd ((num_X _).mpr cc) cn
        rw [if_pos cn]
        refine pk_bd (pk_both (q_Xnumber h9.2.1) (x6_number μ9)) (fun r22 μ21 h21 => ?_)
        have h21 := es_xo hP h9 h21.1 h21.2 (c0 + 1) rfl
        exact pk_bd (es_add hP hs _ _ _ h21) (fun r24 μ23 h23 => pk_some h23)
    · rw [ti_le, e80] at c8
      rw [if_pos (show 80 ≤ c0 by omega)]
      exact pk_bw (q_Xfail hw9) (fun q hq => pk_some ⟨hk.tr (hq.1.xk hP), hq.2⟩)
