def Dq5 (b : Nat) (fr : Fw5) (S : List Fw5) (μ q : Mem) : Prop := (∀ i k, i ≠ 0 → i ≠ 17 → i ≠ 18 → i ≠ 20 → q.1 i k = μ.1 i k) ∧ (∀ k, k ≠ 4 → k ≠ 5 → k ≠ 6 → k ≠ 7 → q.1 0 k = μ.1 0 k) ∧ (∀ i, ¬ (i = b + fvi fr ∧ fvt fr = 5) → q.1 17 i = μ.1 17 i) ∧ (∀ i, ¬ (i = b + fvi fr ∧ fvt fr = 12) → q.1 18 i = μ.1 18 i) ∧ ∀ j, j ≠ S.length → q.1 20 j = μ.1 20 j
theorem Dq5.me {b : Nat} {fr : Fw5} {S : List Fw5} {μ q z : Mem} (h : Dq5 b fr S μ q) (e : Me q z) : Dq5 b fr S μ z := by
  obtain ⟨a, b, c, d, f⟩ := h
  exact ⟨fun i k h0 h1 h2 h3 => (e i k (fun x => h0 x.1)).trans (a i k h0 h1 h2 h3), fun k h4 h5 h6 h7 => (e 0 k (by omega)).trans (b k h4 h5 h6 h7), fun i hi => (e 17 i (by omega)).trans (c i hi), fun i hi => (e 18 i (by omega)).trans (d i hi), fun j hj => (e 20 j (by omega)).trans (f j hj)⟩
theorem Dq5.mh {b : Nat} {fr : Fw5} {S : List Fw5} {μ q : Mem} (h : Dq5 b fr S μ q) : Mh5 b μ q := ⟨fun i k a c => h.1 i k a (by omega) (by omega) (by omega), fun k hk => ⟨h.1 16 k (by decide) (by decide) (by decide) (by decide), h.2.2.1 k (by omega), h.2.2.2.1 k (by omega)⟩⟩
theorem Tc.me {b : Nat} {T : List Th3} {μ q : Mem} (h : Tc b T μ) (e : Me μ q) : Tc b T q := h.cong (fun i _ => ⟨e 16 i (by omega), e 17 i (by omega), e 18 i (by omega)⟩)
theorem Tc.put {b i : Nat} {T : List Th3} {μ q : Mem} {x : Th3} (h : Tc b T μ) (hi : i < T.length) (c : ∀ j, j ≠ b + i → q.1 16 j = μ.1 16 j ∧ q.1 17 j = μ.1 17 j ∧ q.1 18 j = μ.1 18 j) (c2 : q.1 16 (b + i) = x.1 ∧ q.1 17 (b + i) = x.2.1 ∧ q.1 18 (b + i) = x.2.2) : Tc b (T.set i x) q := by
  intro j y hy
  by_cases e : j = i
  · subst e
    rw [List.getElem?_set_self hi] at hy
    have hy : x = y := Option.some.inj hy
    rw [← hy]; exact c2
  · rw [List.getElem?_set_ne (fun x => e x.symm)] at hy
    obtain ⟨a, b', d⟩ := c (b + j) (by omega)
    rw [a, b', d]; exact h j y hy
theorem lt_of_some {T : List Th3} {i : Nat} {x : Th3} (h : T[i]? = some x) : i < T.length := by
  rcases Nat.lt_or_ge i T.length with e | e
  · exact e
  · rw [List.getElem?_eq_none e] at h; cases h
theorem mx5_pop {t : Nat → Int32} {n F b : Nat} {N0 : List Int32} {S : List Fw5} {fr : Fw5} {p0 p : Nat} {T C T2 C2 : List Th3} {μ q z : Mem} (h : Mx5 t n F b N0 (fr :: S) (p0, T, C) μ) (d : Dq5 b fr S μ q) (hw : MwT t n p q) (hl : T2.length = T.length) (h2 : ∀ j, j < fvi fr → T2[j]? = T[j]?) (hc : Tc b T2 q) (g : ∀ i k, i ≠ 0 → i ≠ 21 → z.1 i k = q.1 i k) (g0 : ∀ k, k ≠ 32 → z.1 0 k = q.1 0 k) (g32 : (z.1 0 32).toInt = (S.length : Int)) (hT : Tl z (cur5 N0 S)) : Mx5 t n F b N0 S (p, T2, C2) z ∧ Mh5 b μ z := by
  obtain ⟨_, ⟨h1, h2', h3⟩, ⟨h4, h5⟩, h6, h7, h8, _, _⟩ := h
  have h7 : S.length + 1 ≤ 20 := h7
  have h4 : (μ.1 0 28).toInt = ((b + T.length : Nat) : Int) := h4
  have h5 : T.length ≤ 80 := h5
  have d' := d
  obtain ⟨a, b', c, e, f⟩ := d'
  refine ⟨⟨mw_of hw (g0 3 (by decide)) (g0 4 (by decide)) (g0 5 (by decide)) (fun j => g 1 j (by decide) (by decide)), ⟨by rw [g0 27 (by decide), b' 27 (by decide) (by decide) (by decide) (by decide)]; exact h1, by rw [g 14 F (by decide) (by decide), a 14 F (by decide) (by decide) (by decide) (by decide)]; exact h2', h3⟩, ⟨by rw [g0 28 (by decide), b' 28 (by decide) (by decide) (by decide) (by decide)]; show _ = ((b + T2.length : Nat) : Int); rw [hl]; exact h4, by show T2.length ≤ 80; omega⟩, g32, by omega, ?_, hT, hc.cong (fun i _ => ⟨g 16 i (by decide) (by decide), g 17 i (by decide) (by decide), g 18 i (by decide) (by decide)⟩)⟩, d.mh.tr ⟨fun i k x y => g i k x (by omega), fun k _ => ⟨g 16 k (by decide) (by decide), g 17 k (by decide) (by decide), g 18 k (by decide) (by decide)⟩⟩⟩
  have hf : fvi fr < T.length := h8.1
  have hs : Sk5 N0 b T μ (fvi fr) S := h8.2.2.2.2.2.2.2
  show Sk5 N0 b T2 z T2.length S
  exact (hs.cong (T2 := T2) (q := z) h2 (fun j hj => ⟨by rw [g 19 j (by decide) (by decide), a 19 j (by decide) (by decide) (by decide) (by decide)], by rw [g 20 j (by decide) (by decide), f j (by omega)]⟩)).up (by omega)
def hup5 (fr : Fw5) (w : Int32) (g : Nat) : Fw5 := (fvi fr, fvt fr, w, fvh fr + 1, fvN fr, g)
def Fx5 (fr : Fw5) (w : Int32) (x : Th3) : Prop := x.1 = fvt fr ∧ (fvt fr = 11 → isVa w = true ∧ x.2.1 = w - 109) ∧ (fvt fr = 12 → x.2.1 = w - 97 + 1) ∧ (fvt fr ≠ 12 → x.2.2 = bel (fvt fr))
theorem mx5_upd {t : Nat → Int32} {n F b : Nat} {N0 : List Int32} {S : List Fw5} {fr : Fw5} {p0 p g' : Nat} {w : Int32} {T C T2 C2 : List Th3} {μ q z : Mem} (h : Mx5 t n F b N0 (fr :: S) (p0, T, C) μ) (d : Dq5 b fr S μ q) (hw : MwT t n p z) (g : ∀ i k, i ≠ 0 → i ≠ 21 → z.1 i k = q.1 i k) (g0 : ∀ k, k ≠ 4 → k ≠ 5 → k ≠ 6 → k ≠ 7 → z.1 0 k = q.1 0 k) (h20 : (q.1 20 S.length).toInt = ((fvh fr + 1 : Nat) : Int)) (hh : fvh fr + 1 ≤ hmx (fvt fr)) (hl : T2.length = T.length) (h2 : ∀ j, j < fvi fr → T2[j]? = T[j]?) (hc : Tc b T2 q) (hx : ∃ x, T2[fvi fr]? = some x ∧ Fx5 fr w x) (hT : Tl z (cur5 N0 (hup5 fr w g' :: S))) : Mx5 t n F b N0 (hup5 fr w g' :: S) (p, T2, C2) z ∧ Mh5 b μ z := by
  obtain ⟨_, ⟨h1, h2', h3⟩, ⟨h4, h5⟩, h6, h7, h8, _, _⟩ := h
  have h4 : (μ.1 0 28).toInt = ((b + T.length : Nat) : Int) := h4
  have h5 : T.length ≤ 80 := h5
  have d' := d
  obtain ⟨a, b', c, e, f⟩ := d'
  obtain ⟨s1, s2, s3, s4, s5, s6, s7, s8⟩ := h8
  have s1 : fvi fr < T.length := s1
  have s8 : Sk5 N0 b T μ (fvi fr) S := s8
  refine ⟨⟨hw, ⟨by rw [g0 27 (by decide) (by decide) (by decide) (by decide), b' 27 (by decide) (by decide) (by decide) (by decide)]; exact h1, by rw [g 14 F (by decide) (by decide), a 14 F (by decide) (by decide) (by decide) (by decide)]; exact h2', h3⟩, ⟨by rw [g0 28 (by decide) (by decide) (by decide) (by decide), b' 28 (by decide) (by decide) (by decide) (by decide)]; show _ = ((b + T2.length : Nat) : Int); rw [hl]; exact h4, by show T2.length ≤ 80; omega⟩, by rw [g0 32 (by decide) (by decide) (by decide) (by decide), b' 32 (by decide) (by decide) (by decide) (by decide)]; exact h6, h7, ⟨?_, ?_, ?_, s4, hx, hh, s7, ?_⟩, hT, hc.cong (fun i _ => ⟨g 16 i (by decide) (by decide), g 17 i (by decide) (by decide), g 18 i (by decide) (by decide)⟩)⟩, d.mh.tr ⟨fun i k x y => g i k x (by omega), fun k _ => ⟨g 16 k (by decide) (by decide), g 17 k (by decide) (by decide), g 18 k (by decide) (by decide)⟩⟩⟩
  · show fvi fr < T2.length; omega
  · rw [g 19 _ (by decide) (by decide), a 19 _ (by decide) (by decide) (by decide) (by decide)]; exact s2
  · rw [g 20 _ (by decide) (by decide)]; exact h20
  · exact s8.cong (T2 := T2) (q := z) h2 (fun j hj => ⟨by rw [g 19 j (by decide) (by decide), a 19 j (by decide) (by decide) (by decide) (by decide)], by rw [g 20 j (by decide) (by decide), f j (by omega)]⟩)
def Hm5 (t : Nat → Int32) (n F b : Nat) (N0 : List Int32) (μ : Mem) (o : Rd (Nat × Py)) (r : Int32 × Mem) : Prop := Mh5 b μ r.2 ∧ ((r.1 = 1 ∧ ∃ S v, Mx5 t n F b N0 S v r.2 ∧ o = ckP t n S (reP t n (20 - S.length) (cur5 N0 S) v)) ∨ (r.1 = 0 ∧ ((∃ f, Mf t n f r.2 ∧ o = .inl f) ∨ (∃ v, Mx5 t n F b N0 [] v r.2 ∧ o = .inr v))))
theorem Hm5.mh {t : Nat → Int32} {n F b : Nat} {N0 : List Int32} {μ q : Mem} {o : Rd (Nat × Py)} {r : Int32 × Mem} (h : Hm5 t n F b N0 q o r) (hM : Mh5 b μ q) : Hm5 t n F b N0 μ o r := ⟨hM.tr h.1, h.2⟩
theorem cur5_n {N0 : List Int32} {fr : Fw5} {S : List Fw5} (h : ¬ (fvt fr = 11 ∧ fvh fr = 1)) : cur5 N0 (fr :: S) = fvN fr := if_neg h
theorem hm5_shut {t : Nat → Int32} {n F b : Nat} {N0 : List Int32} {S : List Fw5} {fr : Fw5} {p0 p : Nat} {T C T2 C2 : List Th3} {μ q : Mem} {a1 : Int32} {K0 : Mem → Option (Int32 × Mem)} (ih : ∀ S v μ, Mx5 t n F b N0 S v μ → pk (K0 μ) (Hm5 t n F b N0 μ (ckP t n S (.inr v)))) (h : Mx5 t n F b N0 (fr :: S) (p0, T, C) μ) (d : Dq5 b fr S μ q) (hw : MwT t n p q) (ha : a1.toInt = ((b + fvi fr : Nat) : Int)) (h11 : fvt fr = 11 → fvh fr = 1) (hl : T2.length = T.length) (h2 : ∀ j, j < fvi fr → T2[j]? = T[j]?) (hc : Tc b T2 q) (hk : kfv t n (19 - S.length) fr (.inr (p0, T, C)) = .inr (p, T2, C2)) : pk (p_X12_hasMore_b167 K0 a1 (fvt fr) q) (Hm5 t n F b N0 μ (ckP t n (fr :: S) (.inr (p0, T, C)))) := by
  have e1 : (1 : Int32).toInt = 1 := by decide
  have ec : ckP t n (fr :: S) (.inr (p0, T, C)) = ckP t n S (.inr (p, T2, C2)) := by
    show ckP t n S (kfv t n _ fr (.inr (p0, T, C))) = _
    rw [hk]
  rw [ec]
  have h6 : (μ.1 0 32).toInt = (S.length : Int) + 1 := by rw [h.2.2.2.1]; simp
  have h7 : S.length + 1 ≤ 20 := h.2.2.2.2.1
  have hT := h.2.2.2.2.2.2.1
  have hTc : Tc b T μ := h.2.2.2.2.2.2.2
  have hsk := h.2.2.2.2.2.1
  have q32 : q.1 0 32 = μ.1 0 32 := d.2.1 32 (by decide) (by decide) (by decide) (by decide)
  have q21 : ∀ k, q.1 21 k = μ.1 21 k := fun k => d.1 21 k (by decide) (by decide) (by decide) (by decide)
  have hN : fvN fr = cur5 N0 S := hsk.2.2.2.2.2.2.1
  rw [p_X12_hasMore_b167_eq]
  refine pk_ite (fun c => ?_) (fun c => ?_)
  · obtain ⟨x, x0, x1, x2, _, _⟩ := hsk.2.2.2.2.1
    obtain ⟨v1, v2⟩ := x2 c
    have x0 : T[fvi fr]? = some x := x0
    have hcur : cur5 N0 (fr :: S) = fvw fr :: fvN fr := if_pos ⟨c, h11 c⟩
    rw [hcur] at hT
    refine pk_gd (fun _ => pk_bvy (fun v14 e14 => pk_gd (fun _ => pk_gd (fun _ => pk_bvy (fun μ15 e15 => ?_)))))
    have e14 : v14 = fvw fr - 109 := by
      rw [e14, tn_of ha, d.2.2.1 _ (fun x => by rw [c] at x; exact absurd x.2 (by decide)), (hTc _ _ x0).2.1]; exact v2
    rw [p_X12_hasMore_b188_eq]
    refine pk_bvy (fun μ13 e13 => ?_)
    have hr1 := isVa_r v1
    have hTz : Tl μ13 (cur5 N0 S) := by
      intro a ha'
      rw [← hN, e13, sF_i (by decide), e15, e14]
      by_cases hx : a = fvw fr
      · subst hx
        have h0 := hT (fvw fr) v1
        rw [List.count_cons_self] at h0
        have hhi := ti_hi (μ.1 21 (fvw fr - 109).toNatClampNeg)
        rw [sF_v, q21, ti_sub (by omega) (by omega), h0, e1]; omega
      · have hne : (a - 109).toNatClampNeg ≠ (fvw fr - 109).toNatClampNeg := fun e => hx (va_inj ha' v1 e)
        rw [sF_k hne, q21]
        have h0 := hT a ha'
        rw [List.count_cons_of_ne (Ne.symm hx)] at h0
        exact h0
    obtain ⟨hX, hM⟩ := mx5_pop (C2 := C2) h d hw hl h2 hc (z := μ13) (fun i k x y => by rw [e13, sF_i x, e15, sF_i y]) (fun k hk => by rw [e13, sF_k hk, e15, sF_i (by decide)]) (by rw [e13, sF_v, e15, sF_i (by decide), q32, ti_sub (by omega) (by omega), h6, e1]; omega) hTz
    exact pk_mono (ih S _ μ13 hX) (fun r hr => hr.mh hM)
  · have hcur : cur5 N0 (fr :: S) = fvN fr := cur5_n (fun x => c x.1)
    rw [hcur, hN] at hT
    rw [p_X12_hasMore_b188_eq]
    refine pk_bvy (fun μ13 e13 => ?_)
    obtain ⟨hX, hM⟩ := mx5_pop (C2 := C2) h d hw hl h2 hc (z := μ13) (fun i k x _ => by rw [e13, sF_i x]) (fun k hk => by rw [e13, sF_k hk]) (by rw [e13, sF_v, q32, ti_sub (by omega) (by omega), h6, e1]; omega) (fun a ha' => by rw [e13, sF_i (by decide), q21]; exact hT a ha')
    exact pk_mono (ih S _ μ13 hX) (fun r hr => hr.mh hM)
theorem hq5_148 {t : Nat → Int32} {n F b : Nat} {N0 : List Int32} {S : List Fw5} {fr : Fw5} {p0 : Nat} {T C T2 C2 : List Th3} {μ q : Mem} {a1 k0 : Int32} {K0 : Mem → Option (Int32 × Mem)} (ih : ∀ S v μ, Mx5 t n F b N0 S v μ → pk (K0 μ) (Hm5 t n F b N0 μ (ckP t n S (.inr v)))) (h : Mx5 t n F b N0 (fr :: S) (p0, T, C) μ) (d : Dq5 b fr S μ q) (hw : MwT t n p0 q) (ha : a1.toInt = ((b + fvi fr : Nat) : Int)) (h11 : fvt fr = 11 → fvh fr = 1) (hl : T2.length = T.length) (h2 : ∀ j, j < fvi fr → T2[j]? = T[j]?) (hc : Tc b T2 q) (hk : kfv t n (19 - S.length) fr (.inr (p0, T, C)) = if k0 = -1 then .inr (p0, T2, C2) else if hr t n p0 = k0 then .inr (p0 + 1, T2, C2) else .inl p0) : pk (p_X12_hasMore_b148 K0 a1 (fvt fr) k0 q) (Hm5 t n F b N0 μ (ckP t n (fr :: S) (.inr (p0, T, C)))) := by
  rw [p_X12_hasMore_b148_eq]
  refine pk_ite (fun c => ?_) (fun c => ?_)
  · rw [if_pos c] at hk
    exact hm5_shut ih h d hw ha h11 hl h2 hc hk
  · rw [if_neg c] at hk
    refine pk_bd (q_Mtakes (c := k0) c hw) ?_
    rintro r17 μ16 ⟨hE, ho⟩
    have dE := d.me hE
    by_cases c1 : hr t n p0 = k0
    · rw [if_pos c1] at ho hk
      obtain ⟨o1, o2⟩ : r17 = 1 ∧ MwT t n (p0 + 1) μ16 := ho
      rw [if_neg (by rw [o1]; decide)]
      exact hm5_shut ih h dE o2 ha h11 hl h2 (hc.me hE) hk
    · rw [if_neg c1] at ho hk
      obtain ⟨o1, o2⟩ : r17 = 0 ∧ Mf t n p0 μ16 := ho
      rw [if_pos o1]
      refine pk_some ⟨dE.mh, Or.inr ⟨rfl, Or.inl ⟨p0, o2, ?_⟩⟩⟩
      show ckP t n S (kfv t n _ fr (.inr (p0, T, C))) = _
      rw [hk, ckP_l]
theorem cur5_len {N0 : List Int32} {b : Nat} {T : List Th3} {μ : Mem} : ∀ {S : List Fw5} {top : Nat}, Sk5 N0 b T μ top S → (cur5 N0 S).length ≤ N0.length + S.length := by
  intro S
  induction S with
  | nil => intro top _; exact Nat.le_refl _
  | cons fr S ih =>
    intro top h
    have hN : fvN fr = cur5 N0 S := h.2.2.2.2.2.2.1
    have := ih h.2.2.2.2.2.2.2
    show (if fvt fr = 11 ∧ fvh fr = 1 then fvw fr :: fvN fr else fvN fr).length ≤ N0.length + (S.length + 1)
    by_cases c : fvt fr = 11 ∧ fvh fr = 1
    · rw [if_pos c, hN]; simp; omega
    · rw [if_neg c, hN]; omega
