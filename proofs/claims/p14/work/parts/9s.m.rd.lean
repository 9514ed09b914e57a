def Rth (t : Nat → Int32) (n F b : Nat) (N0 : List Int32) (S : List Fw) (v : Nat × Nat) (μ : Mem) (r : Int32 × Mem) : Prop := Mh μ r.2 ∧ ((∃ f, r.1 = 0 ∧ Mf t n f r.2 ∧ re t n (20 - S.length) (cur N0 S) v = .inl f) ∨ (∃ v', r.1 = 1 ∧ Mx4 t n F b N0 S v' r.2 ∧ re t n (20 - S.length) (cur N0 S) v = .inr v') ∨ (∃ g v', r.1 = 1 ∧ Mx4 t n F b N0 (g :: S) v' r.2 ∧ re t n (20 - S.length) (cur N0 S) v = kf t n (19 - S.length) (fwt g) (fwn g) (fwh g) (fwN g) (re t n (19 - S.length) (cur N0 (g :: S)) v')))
theorem rth_fail {t : Nat → Int32} {n F b : Nat} {N0 : List Int32} {S : List Fw} {v : Nat × Nat} {μ μ1 : Mem} {p : Nat} (hM : Mh μ μ1) (h : MwT t n p μ1) (he : re t n (20 - S.length) (cur N0 S) v = .inl p) : pk (bd (p_X12_fails (μ1.1 0 4) μ1) (fun r9 μ8 => gd (isB r9) (some (r9, μ8)))) (Rth t n F b N0 S v μ) :=
  pk_mono (q_Mfailb h) (fun r hr => ⟨hM.tr hr.1.mh, Or.inl ⟨p, hr.2.1, hr.2.2, he⟩⟩)
theorem cur_new {b c : Nat} {s x : Int32} {N0 : List Int32} {S : List Fw} : cur N0 ((b + c, s, x, 0, cur N0 S) :: S) = cur N0 S := if_neg (fun e => absurd (show (0 : Nat) = 1 from e.2) (by decide))
theorem rth_open {t : Nat → Int32} {n F b : Nat} {N0 : List Int32} {S : List Fw} {v : Nat × Nat} {p c : Nat} {μ μ1 : Mem} {s w x k : Int32} (hM : Mh μ μ1) (h : Mx4 t n F b N0 S (p, c) μ1) (hp : p < n) (hc : c < 80) (hS : S.length < 20) (ht : thk s) (hk : s ≠ 12 → k = bel s) (hx : s = 11 → isVa x = true ∧ w = x - 109) (he : re t n (20 - S.length) (cur N0 S) v = kf t n (19 - S.length) s x 0 (cur N0 S) (re t n (19 - S.length) (cur N0 S) (p + 1, c + 1))) : pk (bd (p_X12_layOpen s w k μ1) (fun r9 μ8 => gd (isB r9) (some (r9, μ8)))) (Rth t n F b N0 S v μ) := by
  refine pk_bd (mx_open h hp hc hS ht hk hx) ?_
  rintro r q ⟨e, hq, hX⟩
  refine pk_gd (fun _ => pk_some ⟨hM.tr hq, Or.inr (Or.inr ⟨_, _, e, hX, ?_⟩)⟩)
  rw [cur_new]; exact he
theorem pl_M (c : Int32) : (s_X12_isIn c 48 55 = 0) ↔ isPl c = false := by
  rw [s_X12_isIn_eq]; unfold isPl
  by_cases h1 : c < 48
  · rw [if_pos h1, decide_eq_true h1]; simp
  · rw [if_neg h1, decide_eq_false h1]
    by_cases h2 : 55 < c
    · rw [if_pos h2, decide_eq_true h2]; simp
    · rw [if_neg h2, decide_eq_false h2]; simp
theorem isVa_M (c : Int32) : (s_X12_isVarLetter c = 0) ↔ isVa c = false := by
  have : s_X12_isVarLetter c = s_X4_isVar c := by rw [s_X12_isVarLetter_eq, s_X4_isVar_eq]
  rw [this]; exact isVa_X c
theorem q_Mplace {t : Nat → Int32} {n p : Nat} {μ : Mem} (h : MwT t n p μ) (hp : p < n) : pk (p_X12_readPlace μ) (fun r => Me μ r.2 ∧ ((isPl (hr t n (p + 1)) = true ∧ r.1 = 1 ∧ MwT t n (p + 1) r.2) ∨ (isPl (hr t n (p + 1)) = false ∧ r.1 = 0 ∧ Mf t n (p + 1) r.2))) := by
  rw [p_X12_readPlace_eq]
  refine pk_bvy (fun μ1 m1 => ?_)
  have hE : Me μ μ1 := by rw [m1]; exact Me.put (by omega) _
  have hw : MwT t n (p + 1) μ1 := by rw [m1]; exact mw_next h hp
  refine pk_bd (q_Mhere hw) ?_
  rintro r3 μ2 ⟨e, hh⟩
  have e : μ2 = μ1 := e
  subst e
  have hh : r3 = hr t n (p + 1) := hh
  subst hh
  refine pk_ite (fun c => ?_) (fun c => ?_)
  · rw [pl_M] at c
    refine pk_bd (q_Mfails hw) ?_
    rintro r6 μ5 ⟨a, b, d⟩
    rw [if_pos a]
    exact pk_some ⟨hE.tr b, Or.inr ⟨c, rfl, d⟩⟩
  · rw [pl_M] at c
    exact pk_some ⟨hE, Or.inl ⟨by simpa using c, rfl, hw⟩⟩
theorem re_n {t : Nat → Int32} {n r p c : Nat} {N : List Int32} (hc : c < 80) (h : hr t n p = 45 ∨ isD (hr t n p) = true) : re t n (r + 1) N (p, c) = bnd (rn t n p) (fun q => .inr (q, c + 1)) := by
  show (if 80 ≤ c then _ else _) = _
  rw [if_neg (by omega)]
  exact if_pos h
theorem re_v {t : Nat → Int32} {n r p c : Nat} {N : List Int32} (hc : c < 80) (h : ¬ (hr t n p = 45 ∨ isD (hr t n p) = true)) (hv : isVa (hr t n p) = true) : re t n (r + 1) N (p, c) = if hr t n p ∈ N then .inr (p + 1, c + 1) else .inl p := by
  show (if 80 ≤ c then _ else _) = _
  rw [if_neg (by omega)]
  exact (if_neg h).trans (if_pos hv)
theorem re_c {t : Nat → Int32} {n r p c : Nat} {N : List Int32} (hc : c < 80) (h : ¬ (hr t n p = 45 ∨ isD (hr t n p) = true)) (hv : isVa (hr t n p) = false) (hl : isL (hr t n p) = true) : re t n (r + 1) N (p, c) = ag t n (re t n r N) (tk t n 40 (.inr (p + 1, c + 1))) := by
  show (if 80 ≤ c then _ else _) = _
  rw [if_neg (by omega)]
  exact (if_neg h).trans ((if_neg (by rw [hv]; decide)).trans (if_pos hl))
theorem re_g {t : Nat → Int32} {n r p c : Nat} {N : List Int32} (hc : c < 80) (h : ¬ (hr t n p = 45 ∨ isD (hr t n p) = true)) (hv : isVa (hr t n p) = false) (hl : isL (hr t n p) = false) : re t n (r + 1) N (p, c) = rsg t n (re t n r) N (hr t n p) p (c + 1) := by
  show (if 80 ≤ c then _ else _) = _
  rw [if_neg (by omega)]
  exact (if_neg h).trans ((if_neg (by rw [hv]; decide)).trans (if_neg (by rw [hl]; decide)))
theorem re_k {t : Nat → Int32} {n r p c : Nat} {N : List Int32} {x : Int32} (hc : c < 80) (e : hr t n p = x) (hx : (¬ (x = 45 ∨ isD x = true)) ∧ isVa x = false ∧ isL x = false) : re t n (r + 1) N (p, c) = rsg t n (re t n r) N x p (c + 1) := by
  rw [re_g hc (by rw [e]; exact hx.1) (by rw [e]; exact hx.2.1) (by rw [e]; exact hx.2.2), e]
theorem rth_let {t : Nat → Int32} {n F b : Nat} {N0 : List Int32} {S : List Fw} {p c : Nat} {μ : Mem} (h : Mx4 t n F b N0 S (p, c) μ) (hp : p < n) (hc : c < 80) (hS : S.length < 20) (e : hr t n p = 58) : pk (p_X12_readLet μ) (Rth t n F b N0 S (p, c) μ) := by
  have er : 20 - S.length = (19 - S.length) + 1 := by omega
  have hre : re t n (20 - S.length) (cur N0 S) (p, c) = bnd (tk t n 44 (bnd (tk t n 61 (tc t n isVa (.inr (p + 1, c + 1)))) (re t n (19 - S.length) (cur N0 S)))) (re t n (19 - S.length) (hr t n (p + 1) :: cur N0 S)) := by
    rw [er, re_k hc e (by decide)]; rfl
  rw [p_X12_readLet_eq]
  refine pk_bvy (fun μ1 m1 => ?_)
  have hE : Me μ μ1 := by rw [m1]; exact Me.put (by omega) _
  have hw : MwT t n (p + 1) μ1 := by rw [m1]; exact mw_next h.1 hp
  have h1 := mx_me h hE hw
  refine pk_bd (q_Mhere hw) ?_
  rintro r3 μ2 ⟨e2, hh⟩
  have e2 : μ2 = μ1 := e2
  subst e2
  have hh : r3 = hr t n (p + 1) := hh
  subst hh
  refine pk_ite (fun cv => ?_) (fun cv => ?_)
  · rw [isVa_M] at cv
    exact rth_fail hE.mh hw (by rw [hre, tc_n (v := (p + 1, c + 1)) cv]; rfl)
  · rw [isVa_M] at cv
    have cv : isVa (hr t n (p + 1)) = true := by simpa using cv
    rw [tc_y (v := (p + 1, c + 1)) cv] at hre
    refine pk_bd (q_Mhere hw) ?_
    rintro r6 μ5 ⟨e5, hh6⟩
    have hh6 : r6 = hr t n (p + 1) := hh6
    have e5 : μ5 = μ2 := e5
    subst e5
    rw [hh6]
    refine pk_bvy (fun v7 e7 => pk_bd (mx_open h1 (hr_lt (cls_ne (by decide) cv)) hc hS (x := hr t n (p + 1)) (by unfold thk; decide) (by decide) (fun _ => ⟨cv, e7⟩)) ?_)
    rintro r9 μ8 ⟨e9, hM8, h8⟩
    have e9 : r9 = 1 := e9
    rw [if_neg (by rw [e9]; decide)]
    have hw8 : MwT t n (p + 2) μ8 := h8.1
    refine pk_bd (q_Mtakes (c := 61) (by decide) hw8) ?_
    rintro r12 μ11 ⟨hE11, ho⟩
    have hMM : Mh μ μ11 := (hE.mh.tr hM8).tr hE11.mh
    by_cases c1 : hr t n (p + 2) = 61
    · rw [if_pos c1] at ho
      obtain ⟨o1, o2⟩ : r12 = 1 ∧ MwT t n (p + 3) μ11 := ho
      rw [if_neg (by rw [o1]; decide)]
      refine pk_some ⟨hMM, Or.inr (Or.inr ⟨_, _, rfl, mx_me h8 hE11 o2, ?_⟩)⟩
      rw [cur_new, hre]
      have : tk t n 61 (.inr (p + 1 + 1, c + 1)) = .inr (p + 3, c + 1) := by
        show (if hr t n (p + 2) = 61 then _ else _) = _
        rw [if_pos c1]
      rw [this]; rfl
    · rw [if_neg c1] at ho
      obtain ⟨o1, o2⟩ : r12 = 0 ∧ Mf t n (p + 2) μ11 := ho
      rw [if_pos o1]
      refine pk_some ⟨hMM, Or.inl ⟨p + 2, rfl, o2, ?_⟩⟩
      rw [hre]
      have : tk t n 61 (.inr (p + 1 + 1, c + 1)) = .inl (p + 2) := by
        show (if hr t n (p + 2) = 61 then _ else _) = _
        rw [if_neg c1]
      rw [this]; rfl
