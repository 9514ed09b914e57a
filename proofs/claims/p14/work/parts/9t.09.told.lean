theorem set_pre {T S : List Th3} {x : Th3} : (T ++ S).set T.length x = T ++ S.set 0 x := by rw [List.set_append_right _ _ (Nat.le_refl _), Nat.sub_self]
theorem Gd4.setT {p d : Nat} {T C : List Th3} {v : Nat × Py} (h : Gd4 p d T C v) (k : Nat) (x : Th3) : Gd4 p d T C (v.1 + k, v.2.1.set T.length x, v.2.2) := by
  obtain ⟨a1, ⟨S, a2⟩, a3, a4⟩ := h
  exact ⟨by show p + 1 ≤ v.1 + k; omega, ⟨S.set 0 x, by show v.2.1.set T.length x = _; rw [a2, set_pre]⟩, a3, by show v.2.2.length + d + 3 * p ≤ C.length + 3 * (v.1 + k); omega⟩
theorem Gd4.setC {p d i : Nat} {T C : List Th3} {v : Nat × Py} (h : Gd4 p d T C v) (hi : C.length ≤ i) (x : Th3) : Gd4 p d T C (v.1, v.2.1, v.2.2.set i x) := by
  obtain ⟨a1, a2, ⟨D, a3⟩, a4⟩ := h
  exact ⟨a1, a2, ⟨D.set (i - C.length) x, by show v.2.2.set i x = _; rw [a3, List.set_append_right _ _ hi]⟩, by show (v.2.2.set i x).length + d + 3 * p ≤ _; rw [List.length_set]; exact a4⟩
theorem Gd4.len {p d : Nat} {T C : List Th3} {v : Nat × Py} (h : Gd4 p d T C v) : C.length ≤ v.2.2.length := by
  obtain ⟨_, _, ⟨D, a3⟩, _⟩ := h
  rw [a3, List.length_append]; omega
theorem GdO.dn4 {p d d2 : Nat} {T C : List Th3} {v : Nat × Py} (h : Gd4 p d T C v) (hd : d2 ≤ d) : Gd4 p d2 T C v := ⟨h.1, h.2.1, h.2.2.1, by have := h.2.2.2; omega⟩
theorem cfin_gd {t : Nat → Int32} {n p d j : Nat} {l : Int32} {T C : List Th3} {v : Nat × Py} (h : Gd4 p (d + 1) T C v) : GdO p d T C (cfin t n l T.length j v) := by
  unfold cfin
  by_cases c : hr t n v.1 = 41
  · rw [if_pos c]
    exact (h.setT 1 _).ad _
  · rw [if_neg c]; trivial
theorem agP_gd {t : Nat → Int32} {n p d : Nat} {l : Int32} {T C : List Th3} {e : Nat × Py → Rd (Nat × Py)} (he : ∀ v, GwO v.1 v.2.1 v.2.2 (e v)) : ∀ (k j : Nat) (o : Rd (Nat × Py)), GdO p (d + 1) T C o → GdO p d T C (agP t n (cfin t n l T.length) e k j o) := by
  intro k
  induction k with
  | zero => intro j o h; exact h.b (fun v hv => cfin_gd hv)
  | succ k ih =>
    intro j o h
    refine h.b (fun v hv => ?_)
    by_cases c : hr t n v.1 = 44
    · rw [if_pos c]
      refine ih (j + 1) _ ?_
      have h1 : GdO p (d + 1) T C (.inr (v.1 + 1, v.2)) := ⟨by show p + 1 ≤ v.1 + 1; have := hv.1; omega, hv.2.1, hv.2.2.1, by have := hv.2.2.2; show v.2.2.length + (d + 1) + 3 * p ≤ C.length + 3 * (v.1 + 1); omega⟩
      exact h1.go he
    · rw [if_neg c]; exact cfin_gd hv
theorem callP_gd {t : Nat → Int32} {n : Nat} {e : Nat × Py → Rd (Nat × Py)} (he : ∀ v, GwO v.1 v.2.1 v.2.2 (e v)) (l : Int32) (p : Nat) (v : Py) : GdO p 0 v.1 v.2 (callP t n e l p v) := by
  unfold callP
  have h0 : GdO p 3 v.1 v.2 (.inr (p + 1, v.1 ++ [(12, l - 97 + 1, 0)], v.2)) := GdO.of (p1 := p + 1) (o := .inr _) (Nat.le_refl _) (by omega) (Gw.rf _ _ _)
  refine h0.tk.b (fun w hw => ?_)
  by_cases c : hr t n w.1 = 41
  · rw [if_pos c]; exact (cfin_gd hw).dn (by omega)
  · rw [if_neg c]
    have h1 : GdO p 3 v.1 v.2 (.inr w) := hw
    exact (agP_gd he 4 1 _ (h1.go he)).dn (by omega)
theorem signP_gd {t : Nat → Int32} {n : Nat} {e : Nat × Py → Rd (Nat × Py)} (he : ∀ v, GwO v.1 v.2.1 v.2.2 (e v)) (p : Nat) (v : Py) : GdO p 0 v.1 v.2 (signP t n e p v) := by
  unfold signP
  have h0 : GdO p 3 v.1 v.2 (e (p + 1, v.1 ++ [(5, 0, 2)], v.2)) := GdO.of (p1 := p + 1) (Nat.le_refl _) (by omega) (he _)
  refine h0.b (fun w hw => ?_)
  by_cases c : isSg (hr t n w.1) = true
  · rw [if_pos c]
    have h1 : GdO p 3 v.1 v.2 (.inr (w.1 + 1, w.2.1.set v.1.length (5, hr t n w.1, 2), w.2.2)) := hw.setT 1 _
    exact (((h1.go he).tk).ad _).dn (by omega)
  · rw [if_neg c]; trivial
theorem letP_gd {t : Nat → Int32} {n : Nat} {e : List Int32 → Nat × Py → Rd (Nat × Py)} (he : ∀ N v, GwO v.1 v.2.1 v.2.2 (e N v)) (N : List Int32) (p : Nat) (v : Py) : GdO p 0 v.1 v.2 (letP t n e N p v) := by
  unfold letP
  by_cases c : isVa (hr t n (p + 1)) = true
  · rw [if_pos c]
    have h0 : GdO p 3 v.1 v.2 (.inr (p + 2, v.1 ++ [(11, hr t n (p + 1) - 109, 2)], v.2)) := GdO.of (p1 := p + 2) (o := .inr _) (by omega) (by omega) (Gw.rf _ _ _)
    refine ((h0.tk.go (he N)).tk).b (fun w hw => ?_)
    have h1 : GdO p 2 v.1 v.2 (.inr (w.1, w.2.1, w.2.2 ++ [(12, Int32.ofNat N.length, 0)])) := hw.ad _
    exact (h1.go (he _)).dn (by omega)
  · rw [if_neg c]; trivial
theorem choP_gd {t : Nat → Int32} {n : Nat} {e : Nat × Py → Rd (Nat × Py)} (he : ∀ v, GwO v.1 v.2.1 v.2.2 (e v)) (p : Nat) (v : Py) : GdO p 0 v.1 v.2 (choP t n e p v) := by
  unfold choP
  have h0 : GdO p 3 v.1 v.2 (.inr (p + 1, v.1 ++ [(7, 0, 3)], v.2)) := GdO.of (p1 := p + 1) (o := .inr _) (by omega) (by omega) (Gw.rf _ _ _)
  refine ((h0.tk.go he).tk).b (fun w hw => ?_)
  have h1 : GdO p 2 v.1 v.2 (.inr (w.1, w.2.1, w.2.2 ++ [(6, 0, 0)])) := hw.ad _
  refine ((h1.go he).tk).b (fun x hx => ?_)
  have h2 : GdO p 1 v.1 v.2 (.inr (x.1, x.2.1, (x.2.2 ++ [(7, 0, 0)]).set w.2.2.length (6, Int32.ofNat (x.2.2.length + 1), 0))) := (hx.ad (7, 0, 0)).setC hw.len _
  refine ((h2.go he).tk).b (fun y hy => ?_)
  exact (hy.ad (8, 0, 0)).setC hx.len _
theorem pairP_gd {t : Nat → Int32} {n : Nat} {e : Nat × Py → Rd (Nat × Py)} (he : ∀ v, GwO v.1 v.2.1 v.2.2 (e v)) (p : Nat) (v : Py) : GdO p 0 v.1 v.2 (pairP t n e p v) := by
  unfold pairP
  have h0 : GdO p 3 v.1 v.2 (e (p + 1, v.1 ++ [(2, 0, 2)], v.2)) := GdO.of (p1 := p + 1) (by omega) (by omega) (he _)
  exact (((h0.tk.go he).tk).ad _).dn (by omega)
theorem putP_gd {t : Nat → Int32} {n : Nat} {e : Nat × Py → Rd (Nat × Py)} (he : ∀ v, GwO v.1 v.2.1 v.2.2 (e v)) (p : Nat) (v : Py) : GdO p 0 v.1 v.2 (putP t n e p v) := by
  unfold putP
  by_cases c : isPl (hr t n (p + 1)) = true
  · rw [if_pos c]
    have h0 : GdO p 3 v.1 v.2 (e (p + 2, v.1 ++ [(9, hr t n (p + 1) - 48, 1)], v.2)) := GdO.of (p1 := p + 2) (by omega) (by omega) (he _)
    exact (h0.ad _).dn (by omega)
  · rw [if_neg c]; trivial
theorem getP_gd {t : Nat → Int32} {n : Nat} (p : Nat) (v : Py) : GdO p 0 v.1 v.2 (getP t n p v) := by
  unfold getP
  by_cases c : isPl (hr t n (p + 1)) = true
  · rw [if_pos c]
    have h0 : Gd4 p 3 v.1 v.2 (p + 2, v.1 ++ [(10, hr t n (p + 1) - 48, 0)], v.2) := Gd4.of (p1 := p + 2) (by omega) (by omega) (Gw.rf _ _ _)
    exact GdO.dn4 (h0.ad _) (by omega)
  · rw [if_neg c]; trivial
theorem rsP_gd {t : Nat → Int32} {n : Nat} {e : List Int32 → Nat × Py → Rd (Nat × Py)} (he : ∀ N v, GwO v.1 v.2.1 v.2.2 (e N v)) (N : List Int32) (h : Int32) (p : Nat) (v : Py) : GdO p 0 v.1 v.2 (rsP t n e N h p v) := by
  unfold rsP
  split
  · have h0 : GdO p 3 v.1 v.2 (e N (p + 1, v.1 ++ [oneT h], v.2)) := GdO.of (p1 := p + 1) (by omega) (by omega) (he _ _)
    exact (h0.ad _).dn (by omega)
  split
  · exact putP_gd (he N) p v
  split
  · exact signP_gd (he N) p v
  split
  · exact letP_gd he N p v
  split
  · exact choP_gd (he N) p v
  split
  · exact pairP_gd (he N) p v
  split
  · exact getP_gd p v
  · trivial
theorem GdO.gw {p d : Nat} {T C : List Th3} {o : Rd (Nat × Py)} (h : GdO p d T C o) : GwO p T C o := by
  cases o with
  | inl f => trivial
  | inr v => exact Gd4.w h
theorem rn_lt {t : Nat → Int32} {n p q : Nat} (h : rn t n p = .inr q) : p + 1 ≤ q := by
  have hp : p ≤ nmp t n p := by unfold nmp; split <;> omega
  have h5 := dg_le t n 5 (nmp t n p)
  have h3 := dg_le t n 3 (dg t n 5 (nmp t n p) + 1)
  rw [rn_e] at h
  by_cases c1 : dg t n 5 (nmp t n p) = nmp t n p
  · rw [if_pos c1] at h; cases h
  rw [if_neg c1] at h
  by_cases c2 : hr t n (dg t n 5 (nmp t n p)) = 46
  · rw [if_pos c2] at h
    by_cases c3 : dg t n 3 (dg t n 5 (nmp t n p) + 1) = dg t n 5 (nmp t n p) + 1
    · rw [if_pos c3] at h; cases h
    · rw [if_neg c3] at h; cases h; omega
  · rw [if_neg c2] at h; cases h; omega
theorem reP_gd {t : Nat → Int32} {n : Nat} : ∀ (r : Nat) (N : List Int32) (v : Nat × Py), GdO v.1 0 v.2.1 v.2.2 (reP t n r N v) := by
  intro r
  induction r with
  | zero => intro N v; trivial
  | succ r ih =>
    intro N v
    have he : ∀ N v, GwO v.1 v.2.1 v.2.2 (reP t n r N v) := fun N v => (ih N v).gw
    unfold reP
    split
    · trivial
    split
    · cases e : rn t n v.1 with
      | inl f => trivial
      | inr q =>
        have hq := rn_lt e
        have h0 : Gd4 v.1 3 v.2.1 v.2.2 (q, v.2.1 ++ [((nvl t n v.1).1, (nvl t n v.1).2, 0)], v.2.2) := Gd4.of (p1 := q) hq (by omega) (Gw.rf _ _ _)
        exact GdO.dn4 (h0.ad _) (by omega)
    split
    · split
      · have h0 : Gd4 v.1 3 v.2.1 v.2.2 (v.1 + 1, v.2.1 ++ [(4, hr t n v.1 - 109, 0)], v.2.2) := Gd4.of (p1 := v.1 + 1) (by omega) (by omega) (Gw.rf _ _ _)
        exact GdO.dn4 (h0.ad _) (by omega)
      · trivial
    split
    · exact callP_gd (he N) _ _ _
    · exact rsP_gd he N _ _ _
theorem reP_gw {t : Nat → Int32} {n : Nat} (r : Nat) (N : List Int32) (v : Nat × Py) : GwO v.1 v.2.1 v.2.2 (reP t n r N v) := (reP_gd r N v).gw
