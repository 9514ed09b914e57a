def Ih5 (t : Nat → Int32) (n P f B r : Nat) : Prop := ∀ (N : List Int32) (v : Nat × Py) (d : Nat) (a : Int32) (μ0 μ : Mem), a.toInt + (r : Int) = 20 → N.length + r ≤ 25 → sel 2 (μ0.2.2 16 4) = P → Es5 t n N P f B d μ0 (.inr v) μ → pk (pr_X4_readExpression (r + 30) a μ) (Es5 t n N P f B d μ0 (reP t n r N v))
theorem es5_re {t : Nat → Int32} {n P f B r d : Nat} (ih : Ih5 t n P f B r) {N : List Int32} {a : Int32} {μ0 μ : Mem} {o : Rd (Nat × Py)} (ha : a.toInt + (r : Int) = 20) (hN : N.length + r ≤ 25) (hs : sel 2 (μ0.2.2 16 4) = P) (h : Es5 t n N P f B d μ0 o μ) : pk (pr_X4_readExpression (r + 30) a μ) (Es5 t n N P f B d μ0 (bnd o (reP t n r N))) := by
  cases o with
  | inl x =>
    refine pk_mono (q_Xexprf _ h.2) (fun q e => ?_)
    have e : q = μ := e
    rw [e]; exact h
  | inr v => exact ih N v d a μ0 μ ha hN hs h
theorem es5_two {t : Nat → Int32} {n P f B r d : Nat} (hP : P29 P) (ih : Ih5 t n P f B r) {N : List Int32} {a b : Int32} {μ0 μ : Mem} {o : Rd (Nat × Py)} (ha : a.toInt + ((r + 1 : Nat) : Int) = 20) (hN : N.length + r ≤ 25) (hs : sel 2 (μ0.2.2 16 4) = P) (hb : b ≠ -1) (h : Es5 t n N P f B d μ0 o μ) : pk (p_X4_readTwo (pr_X4_readExpression (r + 30)) a b μ) (Es5 t n N P f B d μ0 (tkP t n b (bnd (tkP t n 44 (bnd o (reP t n r N))) (reP t n r N)))) := by
  rw [p_X4_readTwo_eq]
  exact pk_bw (es5_re ih (ti_dn ha) hN hs h) (fun μ1 h1 => pk_bd (es5_take hP (by decide) h1) (fun r4 μ3 h3 => pk_bw (es5_re ih (ti_dn ha) hN hs h3) (fun μ5 h5 => pk_bd (es5_take hP hb h5) (fun r8 μ7 h7 => pk_some h7))))
theorem xq5_c {t : Nat → Int32} {n : Nat} {N : List Int32} {P f B p : Nat} {c c2 : C4} {C : List Th3} {d : Nat} {μ : Mem} (h : Xq5 t n N P f B p c C d μ) (e : c = c2) : Xq5 t n N P f B p c2 C d μ := by rw [← e]; exact h
theorem pre_at {T S : List Th3} {x : Th3} : (T ++ [x] ++ S)[T.length]? = some x := by
  rw [List.append_assoc, List.getElem?_append_right (Nat.le_refl _), Nat.sub_self]; rfl
theorem es5_reck {t : Nat → Int32} {n P f B r d : Nat} (hP : P29 P) (ih : Ih5 t n P f B r) {N : List Int32} {a : Int32} {μ0 μ : Mem} {p : Nat} {v : Py} (ha : a.toInt + ((r + 1 : Nat) : Int) = 20) (hN : N.length + r ≤ 25) (hs : sel 2 (μ0.2.2 16 4) = P) (h : Es5 t n N P f B (d + 1) μ0 (.inr (p + 1, v.1 ++ [(5, 0, 2)], v.2)) μ) : pk (p_X4_readReckoned (pr_X4_readExpression (r + 30)) a μ) (Es5 t n N P f B d μ0 (signP t n (reP t n r N) p v)) := by
  rw [p_X4_readReckoned_eq]
  refine pk_bw (es5_re ih (ti_dn ha) hN hs h) (fun μ1 h1 => pk_bd (es5_well h1) (fun r4 μ3 hw => ?_))
  obtain ⟨e, hw⟩ := hw
  have e : μ3 = μ1 := e
  subst e
  have hg := reP_gw (t := t) (n := n) r N (p + 1, v.1 ++ [(5, 0, 2)], v.2)
  have h1 : Es5 t n N P f B (d + 1) μ0 (reP t n r N (p + 1, v.1 ++ [(5, 0, 2)], v.2)) μ3 := h1
  have hw : (r4 = 0 ∧ ∃ x, reP t n r N (p + 1, v.1 ++ [(5, 0, 2)], v.2) = .inl x) ∨ (¬ r4 = 0 ∧ ∃ w, reP t n r N (p + 1, v.1 ++ [(5, 0, 2)], v.2) = .inr w) := hw
  unfold signP
  generalize reP t n r N (p + 1, v.1 ++ [(5, 0, 2)], v.2) = o1 at h1 hw hg ⊢
  rcases hw with ⟨c, x, e⟩ | ⟨c, w, e⟩
  · subst e
    rw [if_pos c]; exact pk_some (h1.dn (Nat.le_succ _))
  · subst e
    obtain ⟨_, ⟨S, hS⟩, _, _⟩ : Gw (p + 1) (v.1 ++ [(5, 0, 2)]) v.2 w := hg
    rw [if_neg c]
    refine pk_bd (es5_here h1) (fun r7 μ6 hh => ?_)
    obtain ⟨e, hh⟩ := hh
    have e : μ6 = μ3 := e
    subst e
    have hh : r7 = hr t n w.1 := hh
    subst hh
    show pk _ (Es5 t n N P f B d μ0 (if isSg (hr t n w.1) = true then _ else .inl w.1))
    refine pk_ite (fun c1 => pk_bw (es5_fail (N := N) (B := B) (d := d) hP h1.1 h1.2.1) (fun q hq => pk_some ?_)) (fun c1 => pk_bvy (fun μ9 e9 => ?_))
    · rw [isSg_X] at c1
      rw [if_neg (by rw [c1]; decide)]; exact hq
    · rw [isSg_X] at c1
      have c1 : isSg (hr t n w.1) = true := by simpa using c1
      rw [if_pos c1]
      have hq1 : Xq5 t n N P f B w.1 (cnt w.2.1) w.2.2 (d + 1) μ6 := h1.2
      have h9 : Es5 t n N P f B (d + 1) μ0 (.inr (w.1 + 1, w.2.1.set v.1.length (5, hr t n w.1, 2), w.2.2)) μ9 := by
        rw [e9]
        refine Es5.dn (d := d + 1 + 3) ⟨xk5_next hP h1.1, xq5_c (xq5_next hP hq1 (hr_lt (cls_ne (by decide) c1))) ?_⟩ (by omega)
        have hx : cnt (w.2.1.set v.1.length (5, hr t n w.1, 2)) = cnt w.2.1 := cnt_set (y := (5, 0, 2)) (by rw [hS]; exact pre_at) rfl
        exact hx.symm
      exact pk_bw (es5_re ih (ti_dn ha) hN hs h9) (fun μ10 h10 => pk_bd (es5_take hP (by decide) h10) (fun r13 μ12 h12 => pk_bd (es5_add hP hs _ _ _ h12) (fun r15 μ14 h14 => pk_some h14.1)))
def ldO (i : Nat) (y : Th3) (o : Rd (Nat × Py)) : Rd (Nat × Py) := bnd o (fun v => .inr (v.1, v.2.1, v.2.2.set i (y.1, Int32.ofNat v.2.2.length, y.2.2)))
def idx (o : Rd (Nat × Py)) : Nat := match o with | .inl _ => 0 | .inr w => w.2.2.length
theorem es5_lead {t : Nat → Int32} {n : Nat} {N : List Int32} {P f B d i : Nat} {y : Th3} (hP : P29 P) {μ0 μ : Mem} {o : Rd (Nat × Py)} (hs : sel 2 (μ0.2.2 16 4) = P) {a1 : Int32} (hi : ∀ v, o = .inr v → a1.toInt = (i : Int) ∧ v.2.2[i]? = some y) (h : Es5 t n N P f B d μ0 o μ) : pk (p_X3_leadHere (sel 2 (μ.2.2 16 4)) a1 μ) (Es5 t n N P f B d μ0 (ldO i y o)) := by
  rw [es5_P hs h]
  cases o with
  | inl x => exact pk_mono (q_leadf P a1 μ) (fun r hr => ⟨h.1.tr (hr.xk hP), xf_ir5 hP hr h.2⟩)
  | inr v =>
    have hq : Xq5 t n N P f B v.1 (cnt v.2.1) v.2.2 d μ := h.2
    obtain ⟨i1, i2⟩ := hi v rfl
    have hd := hq.2.2.2.2.2
    have h800 := hq.1.1.2.1
    have hpn := hq.1.2.2.2
    have hf := hq.2.2.2.1.1.2
    refine pk_mono (pk_both (q_leadf P a1 μ) (q_leadc hq.2.2.2.2.1 (by omega) i1 i2)) (fun r hr => ⟨h.1.tr (hr.1.xk hP), xq5_ir hP hq hr.1 hr.2 ?_⟩)
    rw [List.length_set]; exact hd
theorem tkP_r {α : Type} {t : Nat → Int32} {n : Nat} {c : Int32} {o : Rd (Nat × α)} {v : Nat × α} (h : tkP t n c o = .inr v) : ∃ w, o = .inr w ∧ v.2 = w.2 := by
  cases o with
  | inl x => cases h
  | inr w =>
    have h : (if hr t n w.1 = c then .inr (w.1 + 1, w.2) else .inl w.1 : Rd (Nat × α)) = .inr v := h
    by_cases c1 : hr t n w.1 = c
    · rw [if_pos c1] at h; cases h; exact ⟨w, rfl, rfl⟩
    · rw [if_neg c1] at h; cases h
theorem app_at {D S : List Th3} {x : Th3} : (D ++ x :: S)[D.length]? = some x := by
  rw [List.getElem?_append_right (Nat.le_refl _), Nat.sub_self]; rfl
theorem es5_cho {t : Nat → Int32} {n P f B r d : Nat} (hP : P29 P) (ih : Ih5 t n P f B r) {N : List Int32} {a : Int32} {μ0 μ : Mem} {p : Nat} {v : Py} (ha : a.toInt + ((r + 1 : Nat) : Int) = 20) (hN : N.length + r ≤ 25) (hs : sel 2 (μ0.2.2 16 4) = P) (h : Es5 t n N P f B (d + 3) μ0 (.inr (p + 1, v.1 ++ [(7, 0, 3)], v.2)) μ) : pk (p_X4_readChoice (pr_X4_readExpression (r + 30)) a μ) (Es5 t n N P f B d μ0 (choP t n (reP t n r N) p v)) := by
  rw [p_X4_readChoice_eq]
  refine pk_bd (es5_take hP (c := 40) (by decide) h) (fun r2 μ1 h1 => pk_bw (es5_re ih (ti_dn ha) hN hs h1) (fun μ3 h3 => pk_bd (es5_take hP (c := 44) (by decide) h3) (fun r6 μ5 h5 => ?_)))
  have h5 : Es5 t n N P f B (d + 3) μ0 (tkP t n 44 (bnd (tkP t n 40 (.inr (p + 1, v.1 ++ [(7, 0, 3)], v.2))) (reP t n r N))) μ5 := h5
  unfold choP
  generalize tkP t n 44 (bnd (tkP t n 40 (.inr (p + 1, v.1 ++ [(7, 0, 3)], v.2))) (reP t n r N)) = oA at h5 ⊢
  refine pk_bd (es5_add hP hs 6 0 0 h5) (fun r8 μ7 h7 => ?_)
  obtain ⟨h7, i8⟩ := h7
  have i8 : ∀ v, oA = .inr v → r8.toInt = (v.2.2.length : Int) := i8
  refine pk_bw (es5_re ih (ti_dn ha) hN hs h7) (fun μ9 h9 => pk_bd (es5_take hP (c := 44) (by decide) h9) (fun r12 μ11 h11 => ?_))
  have h11 : Es5 t n N P f B (d + 2) μ0 (tkP t n 44 (bnd (adC (6, 0, 0) oA) (reP t n r N))) μ11 := h11
  have hB : ∀ w, tkP t n 44 (bnd (adC (6, 0, 0) oA) (reP t n r N)) = .inr w → ∃ u S, oA = .inr u ∧ w.2.2 = u.2.2 ++ (6, 0, 0) :: S := by
    intro w hw
    obtain ⟨w1, hw1, e1⟩ := tkP_r hw
    cases oA with
    | inl x => cases hw1
    | inr u =>
      have hg := reP_gw (t := t) (n := n) r N (u.1, u.2.1, u.2.2 ++ [(6, 0, 0)])
      have hw1 : reP t n r N (u.1, u.2.1, u.2.2 ++ [(6, 0, 0)]) = .inr w1 := hw1
      rw [hw1] at hg
      obtain ⟨_, _, ⟨S, hS⟩, _⟩ : Gw u.1 u.2.1 (u.2.2 ++ [(6, 0, 0)]) w1 := hg
      exact ⟨u, S, rfl, by rw [e1, hS, List.append_assoc]; rfl⟩
  have fB : bnd oA (fun w => bnd (tkP t n 44 (reP t n r N (w.1, w.2.1, w.2.2 ++ [(6, 0, 0)]))) (fun x => bnd (tkP t n 41 (reP t n r N (x.1, x.2.1, (x.2.2 ++ [(7, 0, 0)]).set w.2.2.length (6, Int32.ofNat (x.2.2.length + 1), 0)))) (fun y => .inr (y.1, y.2.1, (y.2.2 ++ [(8, 0, 0)]).set x.2.2.length (7, Int32.ofNat (y.2.2.length + 1), 0))))) = bnd (tkP t n 44 (bnd (adC (6, 0, 0) oA) (reP t n r N))) (fun x => bnd (tkP t n 41 (reP t n r N (x.1, x.2.1, (x.2.2 ++ [(7, 0, 0)]).set (idx oA) (6, Int32.ofNat (x.2.2.length + 1), 0)))) (fun y => .inr (y.1, y.2.1, (y.2.2 ++ [(8, 0, 0)]).set x.2.2.length (7, Int32.ofNat (y.2.2.length + 1), 0)))) := by
    cases oA with
    | inl x => rfl
    | inr w => rfl
  rw [fB]
  generalize tkP t n 44 (bnd (adC (6, 0, 0) oA) (reP t n r N)) = oB at h11 hB ⊢
  refine pk_bd (es5_add hP hs 7 0 0 h11) (fun r14 μ13 h13 => ?_)
  obtain ⟨h13, i14⟩ := h13
  have i14 : ∀ v, oB = .inr v → r14.toInt = (v.2.2.length : Int) := i14
  refine pk_bw (es5_lead (i := idx oA) (y := (6, 0, 0)) hP hs (fun w hw => ?_) h13) (fun μ15 h15 => ?_)
  · cases oB with
    | inl x => cases hw
    | inr x =>
      have hw : Sum.inr (x.1, x.2.1, x.2.2 ++ [(7, 0, 0)]) = (Sum.inr w : Rd (Nat × Py)) := hw
      cases hw
      obtain ⟨u, S, hu, hx⟩ := hB x rfl
      refine ⟨by rw [i8 u hu, hu]; rfl, ?_⟩
      rw [hu]
      show (x.2.2 ++ [(7, 0, 0)])[u.2.2.length]? = _
      rw [hx, List.append_assoc]
      exact app_at
  refine pk_bw (es5_re ih (ti_dn ha) hN hs h15) (fun μ17 h17 => pk_bd (es5_take hP (c := 41) (by decide) h17) (fun r20 μ19 h19 => ?_))
  have h19 : Es5 t n N P f B (d + 1) μ0 (tkP t n 41 (bnd (ldO (idx oA) (6, 0, 0) (adC (7, 0, 0) oB)) (reP t n r N))) μ19 := h19
  have hC : ∀ w, tkP t n 41 (bnd (ldO (idx oA) (6, 0, 0) (adC (7, 0, 0) oB)) (reP t n r N)) = .inr w → ∃ x, oB = .inr x ∧ w.2.2[x.2.2.length]? = some (7, 0, 0) := by
    intro w hw
    obtain ⟨w1, hw1, e1⟩ := tkP_r hw
    cases oB with
    | inl x => cases hw1
    | inr x =>
      have hg := reP_gw (t := t) (n := n) r N (x.1, x.2.1, (x.2.2 ++ [(7, 0, 0)]).set (idx oA) (6, Int32.ofNat (x.2.2 ++ [(7, 0, 0)]).length, 0))
      have hw1 : reP t n r N (x.1, x.2.1, (x.2.2 ++ [(7, 0, 0)]).set (idx oA) (6, Int32.ofNat (x.2.2 ++ [(7, 0, 0)]).length, 0)) = .inr w1 := hw1
      rw [hw1] at hg
      obtain ⟨_, _, ⟨S, hS⟩, _⟩ := (show Gw _ _ _ w1 from hg)
      obtain ⟨u, S2, hu, hx⟩ := hB x rfl
      refine ⟨x, rfl, ?_⟩
      rw [e1, hS]
      have hi : idx oA < x.2.2.length := by
        rw [hu, hx]
        show u.2.2.length < (u.2.2 ++ (6, 0, 0) :: S2).length
        rw [List.length_append]; simp
      have hlen : ((x.2.2 ++ [(7, 0, 0)]).set (idx oA) (6, Int32.ofNat (x.2.2 ++ [(7, 0, 0)]).length, 0)).length = x.2.2.length + 1 := by rw [List.length_set, List.length_append]; rfl
      rw [List.getElem?_append_left (by rw [hlen]; omega), List.getElem?_set_ne (by omega)]
      exact app_at
  have fC : bnd oB (fun x => bnd (tkP t n 41 (reP t n r N (x.1, x.2.1, (x.2.2 ++ [(7, 0, 0)]).set (idx oA) (6, Int32.ofNat (x.2.2.length + 1), 0)))) (fun y => .inr (y.1, y.2.1, (y.2.2 ++ [(8, 0, 0)]).set x.2.2.length (7, Int32.ofNat (y.2.2.length + 1), 0)))) = ldO (idx oB) (7, 0, 0) (adC (8, 0, 0) (tkP t n 41 (bnd (ldO (idx oA) (6, 0, 0) (adC (7, 0, 0) oB)) (reP t n r N)))) := by
    cases oB with
    | inl x => rfl
    | inr x =>
      have e1 : (x.2.2 ++ [((7 : Int32), (0 : Int32), (0 : Int32))]).length = x.2.2.length + 1 := by rw [List.length_append]; rfl
      show bnd (tkP t n 41 (reP t n r N (x.1, x.2.1, (x.2.2 ++ [(7, 0, 0)]).set (idx oA) (6, Int32.ofNat (x.2.2.length + 1), 0)))) _ = ldO x.2.2.length (7, 0, 0) (adC (8, 0, 0) (tkP t n 41 (reP t n r N (x.1, x.2.1, (x.2.2 ++ [(7, 0, 0)]).set (idx oA) (6, Int32.ofNat (x.2.2 ++ [(7, 0, 0)]).length, 0)))))
      rw [e1]
      generalize tkP t n 41 _ = oo
      cases oo with
      | inl z => rfl
      | inr y =>
        show Sum.inr (y.1, y.2.1, (y.2.2 ++ [(8, 0, 0)]).set x.2.2.length (7, Int32.ofNat (y.2.2.length + 1), 0)) = (Sum.inr (y.1, y.2.1, (y.2.2 ++ [(8, 0, 0)]).set x.2.2.length (7, Int32.ofNat (y.2.2 ++ [(8, 0, 0)]).length, 0)) : Rd (Nat × Py))
        rw [show (y.2.2 ++ [((8 : Int32), (0 : Int32), (0 : Int32))]).length = y.2.2.length + 1 by rw [List.length_append]; rfl]
  rw [fC]
  generalize tkP t n 41 (bnd (ldO (idx oA) (6, 0, 0) (adC (7, 0, 0) oB)) (reP t n r N)) = oC at h19 hC ⊢
  refine pk_bd (es5_add hP hs 8 0 0 h19) (fun r22 μ21 h21 => ?_)
  obtain ⟨h21, _⟩ := h21
  refine pk_bw (es5_lead (i := idx oB) (y := (7, 0, 0)) hP hs (fun w hw => ?_) h21) (fun μ23 h23 => pk_some h23)
  cases oC with
  | inl x => cases hw
  | inr y =>
    have hw : Sum.inr (y.1, y.2.1, y.2.2 ++ [(8, 0, 0)]) = (Sum.inr w : Rd (Nat × Py)) := hw
    cases hw
    obtain ⟨x, hx, hy⟩ := hC y rfl
    refine ⟨by rw [i14 x hx, hx]; rfl, ?_⟩
    rw [hx]
    show (y.2.2 ++ [(8, 0, 0)])[x.2.2.length]? = _
    have hlt : x.2.2.length < y.2.2.length := by
      rcases Nat.lt_or_ge x.2.2.length y.2.2.length with c | c
      · exact c
      · rw [List.getElem?_eq_none c] at hy; cases hy
    rw [List.getElem?_append_left hlt]; exact hy
