theorem cadd_9 (c : C4) : cadd 9 c = cb 5 (c.1 + 1, c.2) := by unfold cadd cb; simp
theorem cadd_10 (c : C4) : cadd 10 c = cb 5 (c.1 + 1, c.2) := by unfold cadd cb; simp
theorem cadd_8 (c : C4) : cadd 8 c = cb 4 (c.1 + 1, c.2) := by unfold cadd cb; simp
theorem cadd_12 (c : C4) : cadd 12 c = cb 3 (c.1 + 1, c.2) := by unfold cadd cb; simp
theorem cadd_o {s : Int32} (h : s ≠ 12 ∧ s ≠ 8 ∧ s ≠ 9 ∧ s ≠ 10) (c : C4) : cadd s c = (c.1 + 1, c.2) := by
  unfold cadd
  rw [if_neg h.1, if_neg h.2.1, if_neg h.2.2.1, if_neg h.2.2.2]
  rfl
theorem cb_le {T : List Th3} (h : T.length < 80) (j : Nat) (hj : 3 ≤ j) : (cb j ((cnt T).1 + 1, (cnt T).2)).1 ≤ 80 ∧ (cb j ((cnt T).1 + 1, (cnt T).2)).2.1 ≤ 80 ∧ (cb j ((cnt T).1 + 1, (cnt T).2)).2.2.1 ≤ 80 ∧ (cb j ((cnt T).1 + 1, (cnt T).2)).2.2.2 ≤ 80 := by
  have h1 : (cnt T).1 = T.length := rfl
  have h2 := cnt_le T
  unfold cb
  rw [if_neg (by omega)]
  split
  · show (cnt T).1 + 1 ≤ 80 ∧ (cnt T).2.1 + 1 ≤ 80 ∧ (cnt T).2.2.1 ≤ 80 ∧ (cnt T).2.2.2 ≤ 80; omega
  split
  · show (cnt T).1 + 1 ≤ 80 ∧ (cnt T).2.1 ≤ 80 ∧ (cnt T).2.2.1 + 1 ≤ 80 ∧ (cnt T).2.2.2 ≤ 80; omega
  · show (cnt T).1 + 1 ≤ 80 ∧ (cnt T).2.1 ≤ 80 ∧ (cnt T).2.2.1 ≤ 80 ∧ (cnt T).2.2.2 + 1 ≤ 80; omega
theorem Xq5.dn {t : Nat → Int32} {n : Nat} {N : List Int32} {P f B p : Nat} {c : C4} {C : List Th3} {d d2 : Nat} {μ : Mem} (h : Xq5 t n N P f B p c C d μ) (hd : d2 ≤ d) : Xq5 t n N P f B p c C d2 μ := by
  obtain ⟨a, b, e, g, i, j⟩ := h
  exact ⟨a, b, e, g, i, by omega⟩
theorem es5_place {t : Nat → Int32} {n P f B r d : Nat} (hP : P29 P) (ih : Ih5 t n P f B r) {N : List Int32} {a s : Int32} {μ0 μ : Mem} {p : Nat} {v : Py} (hv : v.1.length < 80) (ha : a.toInt + ((r + 1 : Nat) : Int) = 20) (hN : N.length + r ≤ 25) (hs : sel 2 (μ0.2.2 16 4) = P) (hk : Xk5 P f μ0 μ) (h : Xq5 t n N P f B (p + 1) ((cnt v.1).1 + 1, (cnt v.1).2) v.2 (d + 1) μ) : pk (p_X4_readPlace (pr_X4_readExpression (r + 30)) s a μ) (Es5 t n N P f B d μ0 (if s = 95 then getP t n p v else putP t n (reP t n r N) p v)) := by
  have e5 : (5 : Int32).toInt = ((5 : Nat) : Int) := by decide
  rw [p_X4_readPlace_eq]
  refine pk_bd (q_Xhere h.1) (fun r2 μ1 hh => ?_)
  obtain ⟨e, hh⟩ := hh
  have e : μ1 = μ := e
  subst e
  have hh : r2 = hr t n (p + 1) := hh
  subst hh
  have bad : isPl (hr t n (p + 1)) = false → Es5 t n N P f B d μ0 (.inl (p + 1)) = Es5 t n N P f B d μ0 (if s = 95 then getP t n p v else putP t n (reP t n r N) p v) := by
    intro c
    by_cases cs : s = 95
    · rw [if_pos cs]; unfold getP; rw [if_neg (by rw [c]; decide)]
    · rw [if_neg cs]; unfold putP; rw [if_neg (by rw [c]; decide)]
  refine pk_bvy (fun v3 e3 => ?_)
  rw [e3]
  refine pk_ite (fun c => ?_) (fun c => pk_ite (fun c2 => pk_bvy (fun μ8 e8 => ?_)) (fun c2 => ?_))
  · rw [← bad (pl_Xn (Or.inl c))]
    exact pk_bw (es5_fail hP hk h.1) (fun q hq => pk_some hq)
  · have c1 := pl_X c c2
    have h8 := xq5_next hP h (hr_lt (cls_ne (by decide) c1))
    rw [← e8] at h8
    have k8 : Xk5 P f μ0 μ8 := by rw [e8]; exact xk5_next hP hk
    rw [xk5_P hs k8]
    refine pk_bd (xq5_cnt (j := 5) hP h8 e5 (by omega) (cb_le hv 5 (by omega))) (fun r10 μ9 h9 => ?_)
    obtain ⟨k9, h9⟩ := h9
    have k9 : Xk5 P f μ0 μ9 := k8.tr k9
    refine pk_ite (fun cs => ?_) (fun cs => ?_)
    · rw [if_pos cs]
      unfold getP
      rw [if_pos c1]
      have hE : Es5 t n N P f B (d + 1) μ0 (.inr (p + 2, v.1 ++ [(10, hr t n (p + 1) - 48, 0)], v.2)) μ9 := Es5.dn (d := d + 1 + 3) ⟨k9, xq5_c h9 (by rw [cnt_app]; exact (cadd_10 _).symm)⟩ (by omega)
      exact pk_bd (es5_add hP hs _ _ _ hE) (fun r17 μ16 h16 => pk_some h16.1)
    · rw [if_neg cs]
      unfold putP
      rw [if_pos c1]
      have hE : Es5 t n N P f B (d + 1) μ0 (.inr (p + 2, v.1 ++ [(9, hr t n (p + 1) - 48, 1)], v.2)) μ9 := Es5.dn (d := d + 1 + 3) ⟨k9, xq5_c h9 (by rw [cnt_app]; exact (cadd_9 _).symm)⟩ (by omega)
      exact pk_bw (es5_re ih (ti_dn ha) hN hs hE) (fun μ12 h12 => pk_bd (es5_add hP hs _ _ _ h12) (fun r15 μ14 h14 => pk_some h14.1))
  · rw [← bad (pl_Xn (Or.inr c2))]
    exact pk_bw (es5_fail hP hk h.1) (fun q hq => pk_some hq)
theorem es5_naming {t : Nat → Int32} {n P f B r d : Nat} (hP : P29 P) (ih : Ih5 t n P f B r) {N : List Int32} {a : Int32} {μ0 μ : Mem} {p : Nat} {v : Py} (ha : a.toInt + ((r + 1 : Nat) : Int) = 20) (hN : N.length + (r + 1) ≤ 25) (hs : sel 2 (μ0.2.2 16 4) = P) (hk : Xk5 P f μ0 μ) (h : Xq5 t n N P f B (p + 1) ((cnt v.1).1 + 1, (cnt v.1).2) v.2 (d + 1) μ) : pk (p_X4_readNaming (pr_X4_readExpression (r + 30)) a μ) (Es5 t n N P f B d μ0 (letP t n (reP t n r) N p v)) := by
  rw [p_X4_readNaming_eq]
  refine pk_bd (q_Xhere h.1) (fun r2 μ1 hh => ?_)
  obtain ⟨e, hh⟩ := hh
  have e : μ1 = μ := e
  subst e
  have hh : r2 = hr t n (p + 1) := hh
  subst hh
  unfold letP
  refine pk_ite (fun c => ?_) (fun c => pk_bvy (fun μ4 e4 => ?_))
  · rw [isVa_X] at c
    rw [if_neg (by rw [c]; decide)]
    exact pk_bw (es5_fail hP hk h.1) (fun q hq => pk_some hq)
  · rw [isVa_X] at c
    have c : isVa (hr t n (p + 1)) = true := by simpa using c
    have h4 := xq5_next hP h (hr_lt (cls_ne (by decide) c))
    rw [← e4] at h4
    have k4 : Xk5 P f μ0 μ4 := by rw [e4]; exact xk5_next hP hk
    rw [if_pos c]
    have hE : Es5 t n N P f B (d + 1) μ0 (.inr (p + 2, v.1 ++ [(11, hr t n (p + 1) - 109, 2)], v.2)) μ4 := Es5.dn (d := d + 1 + 3) ⟨k4, xq5_c h4 (by rw [cnt_app]; exact (cadd_o (s := 11) (by decide) _).symm)⟩ (by omega)
    refine pk_bd (es5_take hP (c := 61) (by decide) hE) (fun r6 μ5 h5 => pk_bw (es5_re ih (ti_dn ha) (by omega) hs h5) (fun μ7 h7 => pk_bd (es5_take hP (c := 44) (by decide) h7) (fun r10 μ9 h9 => ?_)))
    have h9 : Es5 t n N P f B (d + 1) μ0 (tkP t n 44 (bnd (tkP t n 61 (.inr (p + 2, v.1 ++ [(11, hr t n (p + 1) - 109, 2)], v.2))) (reP t n r N))) μ9 := h9
    generalize tkP t n 44 (bnd (tkP t n 61 (.inr (p + 2, v.1 ++ [(11, hr t n (p + 1) - 109, 2)], v.2))) (reP t n r N)) = oA at h9 ⊢
    refine pk_bd (es5_add hP hs _ _ _ h9) (fun r12 μ11 h11 => pk_bvy (fun v13 e13 => ?_))
    obtain ⟨h11, _⟩ := h11
    have hN31 : N.length ≤ 30 := by omega
    have fA : bnd oA (fun w => reP t n r (hr t n (p + 1) :: N) (w.1, w.2.1, w.2.2 ++ [(12, Int32.ofNat N.length, 0)])) = bnd (adC (12, Int32.ofNat N.length, 0) oA) (reP t n r (hr t n (p + 1) :: N)) := by
      cases oA with
      | inl x => rfl
      | inr w => rfl
    rw [fA]
    have h6 : (∃ w, oA = .inr w) → μ9.1 16 6 = Int32.ofNat N.length := by
      rintro ⟨w, hw⟩
      rw [hw] at h9
      exact ti_eq.mpr (by rw [h9.2.2.1]; exact (Int32.toInt_ofNat_of_lt (by omega)).symm)
    have h11 : Es5 t n N P f B d μ0 (adC (12, Int32.ofNat N.length, 0) oA) μ11 := by
      cases oA with
      | inl x => exact h11
      | inr w => rw [← h6 ⟨w, rfl⟩]; exact h11
    refine pk_bw (es5_name hP (hr t n (p + 1)) hN31 h11) (fun μ14 h14 => pk_bw (es5_re ih (ti_dn ha) (by simp; omega) hs h14) (fun μ16 h16 => pk_bv (pk_some (es5_back hP ?_ h16))))
    rintro ⟨w, hw⟩
    obtain ⟨w2, hw2⟩ := bnd_r hw
    rw [hw2] at h11
    rw [e13]; exact h11.2.2.1
theorem es5_b97 {t : Nat → Int32} {n P f B d : Nat} (hP : P29 P) {N : List Int32} {RE : Int32 → Mem → Option Mem} {a1 a3 : Int32} {μ0 μ : Mem} {o : Rd (Nat × Py)} {T : List Th3} {x : Th3} {j : Nat} (hx : x.1 = 12) (h3 : a3.toInt = (j : Int)) (hj : j ≤ 5) (hs : sel 2 (μ0.2.2 16 4) = P) (hT : ∀ v, o = .inr v → ∃ S, v.2.1 = T ++ x :: S) (h : Es5 t n N P f B (d + 1) μ0 o μ) : pk (p_X4_readCall_b97 RE a1 a3 μ) (Es5 t n N P f B d μ0 (bnd o (cfin t n a1 T.length j))) := by
  rw [p_X4_readCall_b97_eq]
  refine pk_bd (es5_take hP (c := 41) (by decide) h) (fun r10 μ9 h9 => pk_bd (es5_add hP hs _ _ _ h9) (fun r12 μ11 h11 => pk_some ?_))
  obtain ⟨h11, _⟩ := h11
  have hj2 : a3 = Int32.ofNat j := ti_eq.mpr (by rw [h3]; exact (Int32.toInt_ofNat_of_lt (by omega)).symm)
  rw [hj2] at h11
  cases o with
  | inl y => exact h11
  | inr v =>
    show Es5 t n N P f B d μ0 (cfin t n a1 T.length j v) μ11
    unfold cfin
    have h11 : Es5 t n N P f B d μ0 (adC (13, (a1 - 97) * 6 + Int32.ofNat j, Int32.ofNat j) (if hr t n v.1 = 41 then .inr (v.1 + 1, v.2) else .inl v.1)) μ11 := h11
    by_cases c : hr t n v.1 = 41
    · rw [if_pos c] at h11 ⊢
      obtain ⟨S, hS⟩ := hT v rfl
      have hc : cnt (v.2.1.set T.length (12, a1 - 97 + 1, Int32.ofNat j)) = cnt v.2.1 := cnt_set (y := x) (by rw [hS]; exact app_at) hx
      exact ⟨h11.1, xq5_c h11.2 hc.symm⟩
    · rw [if_neg c] at h11 ⊢
      exact h11
theorem agP_l {t : Nat → Int32} {n x : Nat} {fin : Nat → Nat × Py → Rd (Nat × Py)} {e : Nat × Py → Rd (Nat × Py)} : ∀ k j, agP t n fin e k j (.inl x) = .inl x := by
  intro k j
  cases k <;> rfl
theorem es5_b53 {t : Nat → Int32} {n P f B r d : Nat} (hP : P29 P) (ih : Ih5 t n P f B r) {N : List Int32} {a1 a2 : Int32} {μ0 : Mem} {T : List Th3} {x : Th3} (hx : x.1 = 12) (ha : a2.toInt + ((r + 1 : Nat) : Int) = 20) (hN : N.length + r ≤ 25) (hs : sel 2 (μ0.2.2 16 4) = P) : ∀ (fu j : Nat) (a3 : Int32) (μ : Mem) (o : Rd (Nat × Py)), a3.toInt = (j : Int) → 1 ≤ j → j ≤ 5 → (∀ v, o = .inr v → ∃ S, v.2.1 = T ++ x :: S) → Es5 t n N P f B (d + 1) μ0 o μ → pk (p_X4_readCall_b53 (pr_X4_readExpression (r + 30)) fu a1 a2 a3 μ) (Es5 t n N P f B d μ0 (agP t n (cfin t n a1 T.length) (reP t n r N) (5 - j) j o)) := by
  have e5 : (5 : Int32).toInt = 5 := by decide
  have e1 : (1 : Int32).toInt = 1 := by decide
  intro fu
  induction fu with
  | zero => intro j a3 μ o _ _ _ _ _ r e; rw [p_X4_readCall_b53_z] at e; cases e
  | succ fu ihf =>
    intro j a3 μ o h3 h1 hj hT h
    rw [p_X4_readCall_b53_s]
    refine pk_bd (es5_well h) (fun r19 μ18 hw => ?_)
    obtain ⟨e, hw⟩ := hw
    have e : μ18 = μ := e
    subst e
    rcases hw with ⟨c, y, e⟩ | ⟨c, v, e⟩
    · subst e
      rw [if_pos c, agP_l]
      exact es5_b97 (T := T) (x := x) hP hx h3 hj hs hT h
    · subst e
      rw [if_neg c]
      refine pk_bd (es5_here h) (fun r22 μ21 hh => ?_)
      obtain ⟨e, hh⟩ := hh
      have e : μ21 = μ18 := e
      subst e
      have hh : r22 = hr t n v.1 := hh
      subst hh
      refine pk_ite (fun c1 => pk_ite (fun c2 => ?_) (fun c2 => ?_)) (fun c1 => ?_)
      · rw [ti_le, e5, h3] at c2
        rw [show 5 - j = 0 by omega]
        exact es5_b97 (T := T) (x := x) hP hx h3 hj hs hT h
      · rw [ti_le, e5, h3] at c2
        rw [show 5 - j = (5 - (j + 1)) + 1 by omega]
        show pk _ (Es5 t n N P f B d μ0 (if hr t n v.1 = 44 then agP t n (cfin t n a1 T.length) (reP t n r N) (5 - (j + 1)) (j + 1) (reP t n r N (v.1 + 1, v.2)) else cfin t n a1 T.length j v))
        rw [if_pos c1]
        refine pk_bvy (fun μ25 e25 => ?_)
        have hq : Xq5 t n N P f B v.1 (cnt v.2.1) v.2.2 (d + 1) μ21 := h.2
        have h25 : Es5 t n N P f B (d + 1) μ0 (.inr (v.1 + 1, v.2)) μ25 := by
          rw [e25]; exact Es5.dn (d := d + 1 + 3) ⟨xk5_next hP h.1, xq5_next hP hq (hr_lt (by rw [c1]; decide))⟩ (by omega)
        refine pk_bw (ih N _ _ _ μ0 μ25 (ti_dn ha) hN hs h25) (fun μ26 h26 => pk_bv (ihf (j + 1) _ μ26 _ (by rw [ti_add (by omega) (by omega), e1, h3]; omega) (by omega) (by omega) (fun w hw => ?_) h26))
        obtain ⟨S, hS⟩ := hT v rfl
        have hg := reP_gw (t := t) (n := n) r N (v.1 + 1, v.2)
        rw [hw] at hg
        obtain ⟨_, ⟨S2, hS2⟩, _⟩ := (show Gw _ _ _ w from hg)
        exact ⟨S ++ S2, by rw [hS2, hS, List.append_assoc]; rfl⟩
      · cases h5 : 5 - j with
        | zero => exact es5_b97 (T := T) (x := x) hP hx h3 hj hs hT h
        | succ k =>
          show pk _ (Es5 t n N P f B d μ0 (if hr t n v.1 = 44 then agP t n (cfin t n a1 T.length) (reP t n r N) k (j + 1) (reP t n r N (v.1 + 1, v.2)) else cfin t n a1 T.length j v))
          rw [if_neg c1]
          exact es5_b97 (T := T) (x := x) hP hx h3 hj hs hT h
theorem es5_call {t : Nat → Int32} {n P f B r d : Nat} (hP : P29 P) (ih : Ih5 t n P f B r) {N : List Int32} {a1 a2 : Int32} {μ0 μ : Mem} {p : Nat} {v : Py} (hv : v.1.length < 80) (ha : a2.toInt + ((r + 1 : Nat) : Int) = 20) (hN : N.length + r ≤ 25) (hs : sel 2 (μ0.2.2 16 4) = P) (hp : p < n) (hk : Xk5 P f μ0 μ) (h : Xq5 t n N P f B p ((cnt v.1).1 + 1, (cnt v.1).2) v.2 d μ) : pk (p_X4_readCall (pr_X4_readExpression (r + 30)) a1 a2 μ) (Es5 t n N P f B d μ0 (callP t n (reP t n r N) a1 p v)) := by
  have e0 : (0 : Int32).toInt = ((0 : Nat) : Int) := by decide
  have e1 : (1 : Int32).toInt = ((1 : Nat) : Int) := by decide
  have e3 : (3 : Int32).toInt = ((3 : Nat) : Int) := by decide
  rw [p_X4_readCall_eq]
  refine pk_bvy (fun μ1 e1' => ?_)
  have h1 := xq5_next hP h hp
  rw [← e1'] at h1
  have k1 : Xk5 P f μ0 μ1 := by rw [e1']; exact xk5_next hP hk
  rw [xk5_P hs k1]
  refine pk_bd (xq5_cnt (j := 3) hP h1 e3 (by omega) (cb_le hv 3 (by omega))) (fun r3 μ2 h2 => ?_)
  obtain ⟨k2, h2⟩ := h2
  have hE : Es5 t n N P f B (d + 1) μ0 (.inr (p + 1, v.1 ++ [(12, a1 - 97 + 1, 0)], v.2)) μ2 := Es5.dn (d := d + 3) ⟨k1.tr k2, xq5_c h2 (by rw [cnt_app]; exact (cadd_12 _).symm)⟩ (by omega)
  refine pk_bd (es5_take hP (c := 40) (by decide) hE) (fun r5 μ4 h4 => pk_bd (es5_well h4) (fun r7 μ6 hw => ?_))
  obtain ⟨e, hw⟩ := hw
  have e : μ6 = μ4 := e
  subst e
  have h4 : Es5 t n N P f B (d + 1) μ0 (tkP t n 40 (.inr (p + 1, v.1 ++ [(12, a1 - 97 + 1, 0)], v.2))) μ6 := h4
  have hT : ∀ w, tkP t n 40 (.inr (p + 1, v.1 ++ [(12, a1 - 97 + 1, 0)], v.2)) = .inr w → ∃ S, w.2.1 = v.1 ++ (12, a1 - 97 + 1, 0) :: S := by
    intro w hw
    obtain ⟨u, hu, e⟩ := tkP_r hw
    cases hu
    exact ⟨[], by rw [e]⟩
  unfold callP
  generalize tkP t n 40 (.inr (p + 1, v.1 ++ [(12, a1 - 97 + 1, 0)], v.2)) = o1 at h4 hw hT ⊢
  rcases hw with ⟨c, y, e⟩ | ⟨c, w, e⟩
  · subst e
    rw [if_pos c]
    exact es5_b97 (T := v.1) (x := (12, a1 - 97 + 1, 0)) (o := .inl y) hP rfl e0 (by omega) hs hT h4
  · subst e
    rw [if_neg c]
    refine pk_bd (es5_here h4) (fun r14 μ13 hh => ?_)
    obtain ⟨e, hh⟩ := hh
    have e : μ13 = μ6 := e
    subst e
    have hh : r14 = hr t n w.1 := hh
    subst hh
    show pk _ (Es5 t n N P f B d μ0 (if hr t n w.1 = 41 then cfin t n a1 v.1.length 0 w else agP t n (cfin t n a1 v.1.length) (reP t n r N) 4 1 (reP t n r N w)))
    refine pk_ite (fun c1 => ?_) (fun c1 => ?_)
    · rw [if_pos c1]
      exact es5_b97 (T := v.1) (x := (12, a1 - 97 + 1, 0)) (o := .inr w) hP rfl e0 (by omega) hs hT h4
    · rw [if_neg c1]
      refine pk_bw (ih N _ _ _ μ0 μ13 (ti_dn ha) hN hs h4) (fun μ16 h16 => es5_b53 (T := v.1) (x := (12, a1 - 97 + 1, 0)) hP ih rfl ha hN hs FUEL 1 1 μ16 _ e1 (by omega) (by omega) (fun u hu => ?_) h16)
      obtain ⟨S, hS⟩ := hT w rfl
      have hg := reP_gw (t := t) (n := n) r N w
      rw [hu] at hg
      obtain ⟨_, ⟨S2, hS2⟩, _⟩ := (show Gw _ _ _ u from hg)
      exact ⟨S ++ S2, by rw [hS2, hS, List.append_assoc]; rfl⟩
