def Dq (fr : Fw) (S : List Fw) (μ q : Mem) : Prop := (∀ i k, i ≠ 0 → i ≠ 17 → i ≠ 18 → i ≠ 20 → q.1 i k = μ.1 i k) ∧ (∀ k, k ≠ 4 → k ≠ 5 → k ≠ 6 → k ≠ 7 → q.1 0 k = μ.1 0 k) ∧ (∀ i, ¬ (i = fwo fr ∧ fwt fr = 5) → q.1 17 i = μ.1 17 i) ∧ (∀ i, ¬ (i = fwo fr ∧ fwt fr = 12) → q.1 18 i = μ.1 18 i) ∧ ∀ j, j ≠ S.length → q.1 20 j = μ.1 20 j
theorem Dq.me {fr : Fw} {S : List Fw} {μ q z : Mem} (h : Dq fr S μ q) (e : Me q z) : Dq fr S μ z := by
  obtain ⟨a, b, c, d, f⟩ := h
  exact ⟨fun i k h0 h1 h2 h3 => (e i k (fun x => h0 x.1)).trans (a i k h0 h1 h2 h3), fun k h4 h5 h6 h7 => (e 0 k (by omega)).trans (b k h4 h5 h6 h7), fun i hi => (e 17 i (by omega)).trans (c i hi), fun i hi => (e 18 i (by omega)).trans (d i hi), fun j hj => (e 20 j (by omega)).trans (f j hj)⟩
theorem Dq.mh {fr : Fw} {S : List Fw} {μ q : Mem} (h : Dq fr S μ q) : Mh μ q := fun i k a b => h.1 i k a (by omega) (by omega) (by omega)
theorem Dq.sk {fr : Fw} {S : List Fw} {N0 : List Int32} {μ q : Mem} (h : Dq fr S μ q) (hs : Sk N0 μ (fwo fr) S) : Sk N0 q (fwo fr) S := by
  obtain ⟨a, b, c, d, f⟩ := h
  exact hs.cong (fun i hi => ⟨a 16 i (by decide) (by decide) (by decide) (by decide), c i (by omega), d i (by omega)⟩) (fun j hj => ⟨a 19 j (by decide) (by decide) (by decide) (by decide), f j (by omega)⟩)
theorem mx_pop {t : Nat → Int32} {n F b : Nat} {N0 : List Int32} {S : List Fw} {fr : Fw} {v : Nat × Nat} {p : Nat} {μ q z : Mem} (h : Mx4 t n F b N0 (fr :: S) v μ) (d : Dq fr S μ q) (hw : MwT t n p q) (g : ∀ i k, i ≠ 0 → i ≠ 21 → z.1 i k = q.1 i k) (g0 : ∀ k, k ≠ 32 → z.1 0 k = q.1 0 k) (g32 : (z.1 0 32).toInt = (S.length : Int)) (hT : Tl z (cur N0 S)) : Mx4 t n F b N0 S (p, v.2) z ∧ Mh μ z := by
  obtain ⟨_, ⟨h1, h2, h3⟩, ⟨h4, h5⟩, h6, h7, h8, _⟩ := h
  have h7 : S.length + 1 ≤ 20 := h7
  have d' := d
  obtain ⟨a, b, c, e, f⟩ := d'
  refine ⟨⟨mw_of hw (g0 3 (by decide)) (g0 4 (by decide)) (g0 5 (by decide)) (fun j => g 1 j (by decide) (by decide)), ⟨by rw [g0 27 (by decide), b 27 (by decide) (by decide) (by decide) (by decide)]; exact h1, by rw [g 14 F (by decide) (by decide), a 14 F (by decide) (by decide) (by decide) (by decide)]; exact h2, h3⟩, ⟨by rw [g0 28 (by decide), b 28 (by decide) (by decide) (by decide) (by decide)]; exact h4, h5⟩, g32, by omega, ?_, hT⟩, d.mh.tr (fun i k x y => g i k x (by omega))⟩
  have hs := d.sk h8.2.2.2.2.2.2.2.2.2
  exact (hs.up (Nat.le_of_lt h8.1)).cong (fun i _ => ⟨g 16 i (by decide) (by decide), g 17 i (by decide) (by decide), g 18 i (by decide) (by decide)⟩) (fun j _ => ⟨g 19 j (by decide) (by decide), g 20 j (by decide) (by decide)⟩)
def hup (fr : Fw) : Fw := (fwo fr, fwt fr, fwn fr, fwh fr + 1, fwN fr)
theorem mx_upd {t : Nat → Int32} {n F b : Nat} {N0 : List Int32} {S : List Fw} {fr : Fw} {v : Nat × Nat} {p : Nat} {μ q z : Mem} (h : Mx4 t n F b N0 (fr :: S) v μ) (d : Dq fr S μ q) (hw : MwT t n p z) (g : ∀ i k, i ≠ 0 → i ≠ 21 → z.1 i k = q.1 i k) (g0 : ∀ k, k ≠ 4 → k ≠ 5 → k ≠ 6 → k ≠ 7 → z.1 0 k = q.1 0 k) (h20 : (q.1 20 S.length).toInt = ((fwh fr + 1 : Nat) : Int)) (hh : fwh fr + 1 ≤ hmx (fwt fr)) (h12 : fwt fr ≠ 12 → q.1 18 (fwo fr) = bel (fwt fr)) (hT : Tl z (cur N0 (hup fr :: S))) : Mx4 t n F b N0 (hup fr :: S) (p, v.2) z ∧ Mh μ z := by
  obtain ⟨_, ⟨h1, h2, h3⟩, ⟨h4, h5⟩, h6, h7, h8, _⟩ := h
  have d' := d
  obtain ⟨a, b, c, e, f⟩ := d'
  have hs := d.sk h8.2.2.2.2.2.2.2.2.2
  obtain ⟨s1, s2, s3, s4, s5, s6, s7, s8, s9, s10⟩ := h8
  refine ⟨⟨hw, ⟨by rw [g0 27 (by decide) (by decide) (by decide) (by decide), b 27 (by decide) (by decide) (by decide) (by decide)]; exact h1, by rw [g 14 F (by decide) (by decide), a 14 F (by decide) (by decide) (by decide) (by decide)]; exact h2, h3⟩, ⟨by rw [g0 28 (by decide) (by decide) (by decide) (by decide), b 28 (by decide) (by decide) (by decide) (by decide)]; exact h4, h5⟩, by rw [g0 32 (by decide) (by decide) (by decide) (by decide), b 32 (by decide) (by decide) (by decide) (by decide)]; exact h6, h7, ⟨s1, ?_, ?_, ?_, s5, ?_, ?_, hh, s9, ?_⟩, hT⟩, d.mh.tr (fun i k x y => g i k x (by omega))⟩
  · rw [g 19 _ (by decide) (by decide), a 19 _ (by decide) (by decide) (by decide) (by decide)]; exact s2
  · rw [g 20 _ (by decide) (by decide)]; exact h20
  · rw [g 16 _ (by decide) (by decide), a 16 _ (by decide) (by decide) (by decide) (by decide)]; exact s4
  · intro e11
    have e11 : fwt fr = 11 := e11
    refine ⟨(s6 e11).1, ?_⟩
    rw [g 17 _ (by decide) (by decide)]
    show q.1 17 (fwo fr) = _
    rw [c _ (fun x => by rw [e11] at x; exact absurd x.2 (by decide))]; exact (s6 e11).2
  · intro e12
    rw [g 18 _ (by decide) (by decide)]; exact h12 e12
  · exact hs.cong (fun i _ => ⟨g 16 i (by decide) (by decide), g 17 i (by decide) (by decide), g 18 i (by decide) (by decide)⟩) (fun j _ => ⟨g 19 j (by decide) (by decide), g 20 j (by decide) (by decide)⟩)
def Hm (t : Nat → Int32) (n F b : Nat) (N0 : List Int32) (μ : Mem) (o : Rd (Nat × Nat)) (r : Int32 × Mem) : Prop := Mh μ r.2 ∧ ((r.1 = 1 ∧ ∃ S v, Mx4 t n F b N0 S v r.2 ∧ o = ck t n S (re t n (20 - S.length) (cur N0 S) v)) ∨ (r.1 = 0 ∧ ((∃ f, Mf t n f r.2 ∧ o = .inl f) ∨ (∃ v, Mx4 t n F b N0 [] v r.2 ∧ o = .inr v))))
theorem Hm.mh {t : Nat → Int32} {n F b : Nat} {N0 : List Int32} {μ q : Mem} {o : Rd (Nat × Nat)} {r : Int32 × Mem} (h : Hm t n F b N0 q o r) (hM : Mh μ q) : Hm t n F b N0 μ o r := ⟨hM.tr h.1, h.2⟩
theorem cur_n {N0 : List Int32} {fr : Fw} {S : List Fw} (h : ¬ (fwt fr = 11 ∧ fwh fr = 1)) : cur N0 (fr :: S) = fwN fr := if_neg h
theorem hm_shut {t : Nat → Int32} {n F b : Nat} {N0 : List Int32} {S : List Fw} {fr : Fw} {v : Nat × Nat} {p : Nat} {μ q : Mem} {a1 : Int32} {K0 : Mem → Option (Int32 × Mem)} (ih : ∀ S v μ, Mx4 t n F b N0 S v μ → pk (K0 μ) (Hm t n F b N0 μ (ck t n S (.inr v)))) (h : Mx4 t n F b N0 (fr :: S) v μ) (d : Dq fr S μ q) (hw : MwT t n p q) (ha : a1.toInt = (fwo fr : Int)) (h11 : fwt fr = 11 → fwh fr = 1) (hk : kf t n (19 - S.length) (fwt fr) (fwn fr) (fwh fr) (fwN fr) (.inr v) = .inr (p, v.2)) : pk (p_X12_hasMore_b167 K0 a1 (fwt fr) q) (Hm t n F b N0 μ (ck t n (fr :: S) (.inr v))) := by
  have e1 : (1 : Int32).toInt = 1 := by decide
  have ec : ck t n (fr :: S) (.inr v) = ck t n S (.inr (p, v.2)) := by
    show ck t n S (kf t n _ _ _ _ _ (.inr v)) = _
    rw [hk]
  rw [ec]
  have h6 : (μ.1 0 32).toInt = (S.length : Int) + 1 := by rw [h.2.2.2.1]; simp
  have h7 : S.length + 1 ≤ 20 := h.2.2.2.2.1
  have hT := h.2.2.2.2.2.2
  have hsk := h.2.2.2.2.2.1
  have q32 : q.1 0 32 = μ.1 0 32 := d.2.1 32 (by decide) (by decide) (by decide) (by decide)
  have q21 : ∀ k, q.1 21 k = μ.1 21 k := fun k => d.1 21 k (by decide) (by decide) (by decide) (by decide)
  have hN : fwN fr = cur N0 S := hsk.2.2.2.2.2.2.2.2.1
  rw [p_X12_hasMore_b167_eq]
  refine pk_ite (fun c => ?_) (fun c => ?_)
  · obtain ⟨v1, v2⟩ := hsk.2.2.2.2.2.1 c
    have hcur : cur N0 (fr :: S) = fwn fr :: fwN fr := if_pos ⟨c, h11 c⟩
    rw [hcur] at hT
    refine pk_gd (fun _ => pk_bvy (fun v14 e14 => pk_gd (fun _ => pk_gd (fun _ => pk_bvy (fun μ15 e15 => ?_)))))
    have e14 : v14 = fwn fr - 109 := by
      rw [e14, tn_of ha, d.2.2.1 _ (fun x => by rw [c] at x; exact absurd x.2 (by decide))]; exact v2
    rw [p_X12_hasMore_b188_eq]
    refine pk_bvy (fun μ13 e13 => ?_)
    have hr1 := isVa_r v1
    have hTz : Tl μ13 (cur N0 S) := by
      intro a ha'
      rw [← hN, e13, sF_i (by decide), e15, e14]
      by_cases hx : a = fwn fr
      · subst hx
        have h0 := hT (fwn fr) v1
        rw [List.count_cons_self] at h0
        have hhi := ti_hi (μ.1 21 (fwn fr - 109).toNatClampNeg)
        rw [sF_v, q21, ti_sub (by omega) (by omega), h0, e1]; omega
      · have hne : (a - 109).toNatClampNeg ≠ (fwn fr - 109).toNatClampNeg := fun e => hx (va_inj ha' v1 e)
        rw [sF_k hne, q21]
        have h0 := hT a ha'
        rw [List.count_cons_of_ne (Ne.symm hx)] at h0
        exact h0
    obtain ⟨hX, hM⟩ := mx_pop h d hw (z := μ13) (fun i k x y => by rw [e13, sF_i x, e15, sF_i y]) (fun k hk => by rw [e13, sF_k hk, e15, sF_i (by decide)]) (by rw [e13, sF_v, e15, sF_i (by decide), q32, ti_sub (by omega) (by omega), h6, e1]; omega) hTz
    exact pk_mono (ih S _ μ13 hX) (fun r hr => hr.mh hM)
  · have hcur : cur N0 (fr :: S) = fwN fr := cur_n (fun x => c x.1)
    rw [hcur, hN] at hT
    rw [p_X12_hasMore_b188_eq]
    refine pk_bvy (fun μ13 e13 => ?_)
    obtain ⟨hX, hM⟩ := mx_pop h d hw (z := μ13) (fun i k x _ => by rw [e13, sF_i x]) (fun k hk => by rw [e13, sF_k hk]) (by rw [e13, sF_v, q32, ti_sub (by omega) (by omega), h6, e1]; omega) (fun a ha' => by rw [e13, sF_i (by decide), q21]; exact hT a ha')
    exact pk_mono (ih S _ μ13 hX) (fun r hr => hr.mh hM)
