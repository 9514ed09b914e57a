def Rth5 (t : Nat → Int32) (n F b : Nat) (N0 : List Int32) (S : List Fw5) (v : Nat × Py) (μ : Mem) (r : Int32 × Mem) : Prop := Mh5 b μ r.2 ∧ ((∃ f, r.1 = 0 ∧ Mf t n f r.2 ∧ reP t n (20 - S.length) (cur5 N0 S) v = .inl f) ∨ (∃ v', r.1 = 1 ∧ Mx5 t n F b N0 S v' r.2 ∧ reP t n (20 - S.length) (cur5 N0 S) v = .inr v') ∨ (∃ g v', r.1 = 1 ∧ Mx5 t n F b N0 (g :: S) v' r.2 ∧ reP t n (20 - S.length) (cur5 N0 S) v = kfv t n (19 - S.length) g (reP t n (19 - S.length) (cur5 N0 (g :: S)) v')))
theorem rth5_fail {t : Nat → Int32} {n F b : Nat} {N0 : List Int32} {S : List Fw5} {v : Nat × Py} {μ μ1 : Mem} {p : Nat} (hM : Mh5 b μ μ1) (h : MwT t n p μ1) (he : reP t n (20 - S.length) (cur5 N0 S) v = .inl p) : pk (bd (p_X12_fails (μ1.1 0 4) μ1) (fun r9 μ8 => gd (isB r9) (some (r9, μ8)))) (Rth5 t n F b N0 S v μ) :=
  pk_mono (q_Mfailb h) (fun r hr => ⟨hM.tr hr.1.mh5, Or.inl ⟨p, hr.2.1, hr.2.2, he⟩⟩)
theorem rth5_open {t : Nat → Int32} {n F b : Nat} {N0 : List Int32} {S : List Fw5} {v : Nat × Py} {p : Nat} {T C : List Th3} {μ μ1 : Mem} {s w x k : Int32} (hM : Mh5 b μ μ1) (h : Mx5 t n F b N0 S (p, T, C) μ1) (hp : p < n) (hc : T.length < 80) (hS : S.length < 20) (ht : thk s) (hk : s ≠ 12 → k = bel s) (hx : s = 11 → isVa x = true ∧ w = x - 109) (hy : s = 12 → w = x - 97 + 1) (he : reP t n (20 - S.length) (cur5 N0 S) v = kfP t n (19 - S.length) T.length s x 0 (cur5 N0 S) 0 (reP t n (19 - S.length) (cur5 N0 S) (p + 1, T ++ [(s, w, k)], C))) : pk (bd (p_X12_layOpen s w k μ1) (fun r9 μ8 => gd (isB r9) (some (r9, μ8)))) (Rth5 t n F b N0 S v μ) := by
  refine pk_bd (mx5_open (g := 0) h hp hc hS ht hk hx hy) ?_
  rintro r q ⟨e, hq, hX⟩
  refine pk_gd (fun _ => pk_some ⟨hM.tr hq, Or.inr (Or.inr ⟨_, _, e, hX, ?_⟩)⟩)
  rw [cur5_new]; exact he
theorem reP_n {t : Nat → Int32} {n r p : Nat} {T C : List Th3} {N : List Int32} (hc : T.length < 80) (h : hr t n p = 45 ∨ isD (hr t n p) = true) : reP t n (r + 1) N (p, T, C) = bnd (rn t n p) (fun q => .inr (q, T ++ [((nvl t n p).1, (nvl t n p).2, 0)], C ++ [(0, (nvl t n p).1, (nvl t n p).2)])) := by
  show (if 80 ≤ T.length then _ else _) = _
  rw [if_neg (by omega)]
  exact if_pos h
theorem reP_v {t : Nat → Int32} {n r p : Nat} {T C : List Th3} {N : List Int32} (hc : T.length < 80) (h : ¬ (hr t n p = 45 ∨ isD (hr t n p) = true)) (hv : isVa (hr t n p) = true) : reP t n (r + 1) N (p, T, C) = if hr t n p ∈ N then .inr (p + 1, T ++ [(4, hr t n p - 109, 0)], C ++ [(1, Int32.ofNat (slt N (hr t n p)), 0)]) else .inl p := by
  show (if 80 ≤ T.length then _ else _) = _
  rw [if_neg (by omega)]
  exact (if_neg h).trans (if_pos hv)
theorem reP_c {t : Nat → Int32} {n r p : Nat} {T C : List Th3} {N : List Int32} (hc : T.length < 80) (h : ¬ (hr t n p = 45 ∨ isD (hr t n p) = true)) (hv : isVa (hr t n p) = false) (hl : isL (hr t n p) = true) : reP t n (r + 1) N (p, T, C) = callP t n (reP t n r N) (hr t n p) p (T, C) := by
  show (if 80 ≤ T.length then _ else _) = _
  rw [if_neg (by omega)]
  exact (if_neg h).trans ((if_neg (by rw [hv]; decide)).trans (if_pos hl))
theorem reP_g {t : Nat → Int32} {n r p : Nat} {T C : List Th3} {N : List Int32} (hc : T.length < 80) (h : ¬ (hr t n p = 45 ∨ isD (hr t n p) = true)) (hv : isVa (hr t n p) = false) (hl : isL (hr t n p) = false) : reP t n (r + 1) N (p, T, C) = rsP t n (reP t n r) N (hr t n p) p (T, C) := by
  show (if 80 ≤ T.length then _ else _) = _
  rw [if_neg (by omega)]
  exact (if_neg h).trans ((if_neg (by rw [hv]; decide)).trans (if_neg (by rw [hl]; decide)))
theorem reP_k {t : Nat → Int32} {n r p : Nat} {T C : List Th3} {N : List Int32} {x : Int32} (hc : T.length < 80) (e : hr t n p = x) (hx : (¬ (x = 45 ∨ isD x = true)) ∧ isVa x = false ∧ isL x = false) : reP t n (r + 1) N (p, T, C) = rsP t n (reP t n r) N x p (T, C) := by
  rw [reP_g hc (by rw [e]; exact hx.1) (by rw [e]; exact hx.2.1) (by rw [e]; exact hx.2.2), e]
theorem rth5_let {t : Nat → Int32} {n F b : Nat} {N0 : List Int32} {S : List Fw5} {p : Nat} {T C : List Th3} {μ : Mem} (h : Mx5 t n F b N0 S (p, T, C) μ) (hp : p < n) (hc : T.length < 80) (hS : S.length < 20) (e : hr t n p = 58) : pk (p_X12_readLet μ) (Rth5 t n F b N0 S (p, T, C) μ) := by
  have er : 20 - S.length = (19 - S.length) + 1 := by omega
  have hre : reP t n (20 - S.length) (cur5 N0 S) (p, T, C) = letP t n (reP t n (19 - S.length)) (cur5 N0 S) p (T, C) := by
    rw [er, reP_k hc e (by decide)]; rfl
  rw [p_X12_readLet_eq]
  refine pk_bvy (fun μ1 m1 => ?_)
  have hE : Me μ μ1 := by rw [m1]; exact Me.put (by omega) _
  have hw : MwT t n (p + 1) μ1 := by rw [m1]; exact mw_next h.1 hp
  have h1 := mx5_me h hE hw
  refine pk_bd (q_Mhere hw) ?_
  rintro r3 μ2 ⟨e2, hh⟩
  have e2 : μ2 = μ1 := e2
  subst e2
  have hh : r3 = hr t n (p + 1) := hh
  subst hh
  refine pk_ite (fun cv => ?_) (fun cv => ?_)
  · rw [isVa_M] at cv
    exact rth5_fail hE.mh5 hw (by rw [hre]; unfold letP; rw [if_neg (by rw [cv]; decide)])
  · rw [isVa_M] at cv
    have cv : isVa (hr t n (p + 1)) = true := by simpa using cv
    unfold letP at hre
    rw [if_pos cv] at hre
    refine pk_bd (q_Mhere hw) ?_
    rintro r6 μ5 ⟨e5, hh6⟩
    have hh6 : r6 = hr t n (p + 1) := hh6
    have e5 : μ5 = μ2 := e5
    subst e5
    rw [hh6]
    refine pk_bvy (fun v7 e7 => pk_bd (mx5_open (g := 0) h1 (hr_lt (cls_ne (by decide) cv)) hc hS (x := hr t n (p + 1)) (by unfold thk; decide) (by decide) (fun _ => ⟨cv, e7⟩) (fun e => absurd e (by decide))) ?_)
    rintro r9 μ8 ⟨e9, hM8, h8⟩
    have e9 : r9 = 1 := e9
    rw [if_neg (by rw [e9]; decide)]
    have hw8 : MwT t n (p + 2) μ8 := h8.1
    refine pk_bd (q_Mtakes (c := 61) (by decide) hw8) ?_
    rintro r12 μ11 ⟨hE11, ho⟩
    have hMM : Mh5 b μ μ11 := (hE.mh5.tr hM8).tr hE11.mh5
    by_cases c1 : hr t n (p + 2) = 61
    · rw [if_pos c1] at ho
      obtain ⟨o1, o2⟩ : r12 = 1 ∧ MwT t n (p + 3) μ11 := ho
      rw [if_neg (by rw [o1]; decide)]
      refine pk_some ⟨hMM, Or.inr (Or.inr ⟨_, _, rfl, mx5_me h8 hE11 o2, ?_⟩)⟩
      rw [cur5_new, hre]
      have : tkP t n 61 (.inr (p + 2, T ++ [(11, hr t n (p + 1) - 109, 2)], C)) = .inr (p + 3, T ++ [(11, hr t n (p + 1) - 109, 2)], C) := by
        show (if hr t n (p + 2) = 61 then _ else _) = _
        rw [if_pos c1]
      rw [this, e7]; rfl
    · rw [if_neg c1] at ho
      obtain ⟨o1, o2⟩ : r12 = 0 ∧ Mf t n (p + 2) μ11 := ho
      rw [if_pos o1]
      refine pk_some ⟨hMM, Or.inl ⟨p + 2, rfl, o2, ?_⟩⟩
      rw [hre]
      have : tkP t n 61 (.inr (p + 2, T ++ [(11, hr t n (p + 1) - 109, 2)], C)) = .inl (p + 2) := by
        show (if hr t n (p + 2) = 61 then _ else _) = _
        rw [if_neg c1]
      rw [this]; rfl
theorem rth5_call {t : Nat → Int32} {n F b : Nat} {N0 : List Int32} {S : List Fw5} {p : Nat} {T C : List Th3} {μ : Mem} (h : Mx5 t n F b N0 S (p, T, C) μ) (hp : p < n) (hc : T.length < 80) (hS : S.length < 20) (hn : ¬ (hr t n p = 45 ∨ isD (hr t n p) = true)) (hv : isVa (hr t n p) = false) (hl : isL (hr t n p) = true) : pk (p_X12_readCall (hr t n p) μ) (Rth5 t n F b N0 S (p, T, C) μ) := by
  have er : 20 - S.length = (19 - S.length) + 1 := by omega
  have hre : reP t n (20 - S.length) (cur5 N0 S) (p, T, C) = callP t n (reP t n (19 - S.length) (cur5 N0 S)) (hr t n p) p (T, C) := by rw [er]; exact reP_c hc hn hv hl
  rw [p_X12_readCall_eq]
  refine pk_bd (mx5_open (g := 0) h hp hc hS (x := hr t n p) (by unfold thk; decide) (fun e => absurd rfl e) (fun e => absurd e (by decide)) (fun _ => rfl)) ?_
  rintro r2 μ1 ⟨e2, hM1, h1⟩
  have e2 : r2 = 1 := e2
  rw [if_neg (by rw [e2]; decide)]
  have hw1 : MwT t n (p + 1) μ1 := h1.1
  refine pk_bd (q_Mtakes (c := 40) (by decide) hw1) ?_
  rintro r14 μ13 ⟨hE, ho⟩
  have hM : Mh5 b μ μ13 := hM1.tr hE.mh5
  by_cases c1 : hr t n (p + 1) = 40
  · rw [if_pos c1] at ho
    obtain ⟨o1, o2⟩ : r14 = 1 ∧ MwT t n (p + 2) μ13 := ho
    have h13 := mx5_me h1 hE o2
    have hre2 : reP t n (20 - S.length) (cur5 N0 S) (p, T, C) = if hr t n (p + 2) = 41 then cfin t n (hr t n p) T.length 0 (p + 2, T ++ [(12, hr t n p - 97 + 1, 0)], C) else agP t n (cfin t n (hr t n p) T.length) (reP t n (19 - S.length) (cur5 N0 S)) 4 1 (reP t n (19 - S.length) (cur5 N0 S) (p + 2, T ++ [(12, hr t n p - 97 + 1, 0)], C)) := by
      rw [hre]
      unfold callP
      have : tkP t n 40 (.inr (p + 1, T ++ [(12, hr t n p - 97 + 1, 0)], C)) = .inr (p + 2, T ++ [(12, hr t n p - 97 + 1, 0)], C) := by
        show (if hr t n (p + 1) = 40 then _ else _) = _
        rw [if_pos c1]
      rw [this]; rfl
    rw [if_neg (by rw [o1]; decide), p_X12_readCall_b30_eq, if_neg (by decide)]
    refine pk_bd (q_Mhere o2) ?_
    rintro r7 μ6 ⟨e6, hh6⟩
    have hh6 : r7 = hr t n (p + 2) := hh6
    have e6 : μ6 = μ13 := e6
    subst e6
    refine pk_ite (fun c2 => ?_) (fun c2 => ?_)
    · rw [hh6] at c2
      rw [if_pos c2] at hre2
      unfold cfin at hre2
      rw [if_pos c2] at hre2
      refine pk_bvy (fun μ10 m10 => pk_bvy (fun μ11 m11 => pk_gd (fun _ => pk_some ?_)))
      have hE10 : Me μ6 μ10 := by rw [m10]; exact Me.put (by omega) _
      have h10 := mx5_me h13 hE10 (by rw [m10]; exact mw_next o2 (hr_lt (by rw [c2]; decide)))
      have hT : Tl μ10 (cur5 N0 S) := by
        have := h10.2.2.2.2.2.2.1
        rw [cur5_new] at this; exact this
      obtain ⟨h11, hM11⟩ := mx5_shut h10 hT
      rw [← m11] at h11 hM11
      refine ⟨(hM.tr hE10.mh5).tr hM11, Or.inr (Or.inl ⟨(p + 3, (T ++ [(12, hr t n p - 97 + 1, 0)]).set T.length (12, hr t n p - 97 + 1, Int32.ofNat 0), C ++ [(13, (hr t n p - 97) * 6 + Int32.ofNat 0, Int32.ofNat 0)]), rfl, ?_, hre2⟩)⟩
      have e0 : (T ++ [(12, hr t n p - 97 + 1, 0)]).set T.length (12, hr t n p - 97 + 1, Int32.ofNat 0) = T ++ [(12, hr t n p - 97 + 1, 0)] := set_app
      rw [e0]; exact h11
    · rw [hh6] at c2
      rw [if_neg c2] at hre2
      refine pk_gd (fun _ => pk_some ⟨hM, Or.inr (Or.inr ⟨_, _, rfl, h13, ?_⟩)⟩)
      rw [cur5_new, hre2]; rfl
  · rw [if_neg c1] at ho
    obtain ⟨o1, o2⟩ : r14 = 0 ∧ Mf t n (p + 1) μ13 := ho
    rw [if_pos o1, p_X12_readCall_b29_eq, p_X12_readCall_b30_eq, if_pos rfl]
    refine pk_gd (fun _ => pk_some ⟨hM, Or.inl ⟨p + 1, rfl, o2, ?_⟩⟩)
    rw [hre]
    unfold callP
    have : tkP t n 40 (.inr (p + 1, T ++ [(12, hr t n p - 97 + 1, 0)], C)) = .inl (p + 1) := by
      show (if hr t n (p + 1) = 40 then _ else _) = _
      rw [if_neg c1]
    rw [this]; rfl
theorem nbgP {t : Nat → Int32} {n r p : Nat} {T C : List Th3} {N : List Int32} (h : ¬ bgs (hr t n p)) : reP t n r N (p, T, C) = .inl p := by
  cases r with
  | zero => rfl
  | succ r =>
    by_cases hc : 80 ≤ T.length
    · show (if 80 ≤ T.length then _ else _) = _
      rw [if_pos hc]
    unfold bgs at h
    have hv : isVa (hr t n p) = false := by
      cases e : isVa (hr t n p) with
      | false => rfl
      | true => exact absurd (Or.inr (Or.inl e)) h
    have hl : isL (hr t n p) = false := by
      cases e : isL (hr t n p) with
      | false => rfl
      | true => exact absurd (Or.inr (Or.inr (Or.inl e))) h
    rw [reP_g (by omega) (fun e => h (Or.inl e)) hv hl]
    generalize hr t n p = x at h
    have hs : s_X12_signOf x = -1 := by
      by_cases e : s_X12_signOf x = -1
      · exact e
      · exact absurd (Or.inr (Or.inr (Or.inr (Or.inl e)))) h
    have n1 : x ≠ 36 := fun e => by rw [e, s_X12_signOf_eq] at hs; exact absurd hs (by decide)
    have n2 : x ≠ 94 := fun e => by rw [e, s_X12_signOf_eq] at hs; exact absurd hs (by decide)
    have n3 : x ≠ 35 := fun e => by rw [e, s_X12_signOf_eq] at hs; exact absurd hs (by decide)
    have n4 : x ≠ 64 := fun e => by rw [e, s_X12_signOf_eq] at hs; exact absurd hs (by decide)
    have n5 : x ≠ 126 := fun e => by rw [e, s_X12_signOf_eq] at hs; exact absurd hs (by decide)
    have m1 : x ≠ 40 := fun e => h (by simp [e])
    have m2 : x ≠ 91 := fun e => h (by simp [e])
    have m3 : x ≠ 63 := fun e => h (by simp [e])
    have m4 : x ≠ 33 := fun e => h (by simp [e])
    have m5 : x ≠ 38 := fun e => h (by simp [e])
    have m6 : x ≠ 95 := fun e => h (by simp [e])
    have m7 : x ≠ 58 := fun e => h (by simp [e])
    unfold rsP
    rw [if_neg (by unfold isT1; simp [m4, n3, n1, n4, n2, n5]), if_neg m5, if_neg m1, if_neg m7, if_neg m3, if_neg m2, if_neg m6]
