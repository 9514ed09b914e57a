theorem dq5_20 {b : Nat} {fr : Fw5} {S : List Fw5} {μ q : Mem} {x : Int32} (e : q = sF μ 20 S.length x) : Dq5 b fr S μ q :=
  ⟨fun i k _ _ _ h => by rw [e, sF_i h], fun k _ _ _ _ => by rw [e, sF_i (by decide)], fun i _ => by rw [e, sF_i (by decide)], fun i _ => by rw [e, sF_i (by decide)], fun j hj => by rw [e, sF_k hj]⟩
theorem if_l {α : Type} {p : Prop} [Decidable p] {a b : α} (h : p) : a = if p then a else b := (if_pos h).symm
theorem q_Mmore5 {t : Nat → Int32} {n F b : Nat} {N0 : List Int32} (hN0 : N0.length ≤ 5) : ∀ (fu : Nat) (S : List Fw5) (v : Nat × Py) (μ : Mem), Mx5 t n F b N0 S v μ → pk (p_X12_hasMore_b0 fu μ) (Hm5 t n F b N0 μ (ckP t n S (.inr v))) := by
  have e0 : (0 : Int32).toInt = 0 := by decide
  have e1 : (1 : Int32).toInt = 1 := by decide
  have e5 : (5 : Int32).toInt = 5 := by decide
  intro fu
  induction fu with
  | zero => intro S v μ _ r e; rw [p_X12_hasMore_b0_z] at e; cases e
  | succ fu ih =>
    intro S v μ h
    obtain ⟨p0, T, C⟩ := v
    rw [p_X12_hasMore_b0_s]
    cases S with
    | nil =>
      have h6 : (μ.1 0 32).toInt = 0 := h.2.2.2.1
      rw [if_pos (by rw [ti_le, e0]; omega)]
      exact pk_some ⟨Mh5.rf, Or.inr ⟨rfl, Or.inr ⟨_, h, rfl⟩⟩⟩
    | cons fr S =>
      have h6 : (μ.1 0 32).toInt = (S.length : Int) + 1 := by rw [h.2.2.2.1]; simp
      have h7 : S.length + 1 ≤ 20 := h.2.2.2.2.1
      have hsk := h.2.2.2.2.2.1
      have hT80 : T.length ≤ 80 := h.2.2.1.2
      have hb5 : b ≤ 100000 := h.2.1.2.2
      obtain ⟨s1, s2, s3, s4, s5, s6, s7, s8⟩ := hsk
      obtain ⟨x, x0, x1, x2, x3, x4⟩ := s5
      have x0 : T[fvi fr]? = some x := x0
      have hi := lt_of_some x0
      have hT := h.2.2.2.2.2.2.1
      have hTc : Tc b T μ := h.2.2.2.2.2.2.2
      have ix : ((μ.1 0 32) - 1).toNatClampNeg = S.length := tn_of (by rw [ti_sub (by omega) (by omega), h6, e1]; omega)
      rw [if_neg (by rw [ti_le, e0]; omega)]
      refine pk_gd (fun _ => pk_bvy (fun v2 e2 => pk_bvy (fun v3 e3 => pk_gd (fun _ => pk_gd (fun _ => pk_bvy (fun μ4 e4 => pk_gd (fun _ => pk_bvy (fun v5 e5' => pk_gd (fun _ => pk_bvy (fun v6 e6 => ?_))))))))))
      rw [ix] at e2
      rw [e3, ix] at e4
      have ha : v2.toInt = ((b + fvi fr : Nat) : Int) := by rw [e2]; exact s2
      have hhb : fvh fr ≤ 4 := by
        have : hmx (fvt fr) ≤ 4 := by
          unfold hmx; split
          · omega
          · split
            · omega
            · split <;> omega
        have s6 : fvh fr ≤ hmx (fvt fr) := s6
        omega
      have d4 : Dq5 b fr S μ μ4 := dq5_20 e4
      have hc4 : Tc b T μ4 := hTc.cong (fun i _ => by rw [e4]; exact ⟨by rw [sF_i (by decide)], by rw [sF_i (by decide)], by rw [sF_i (by decide)]⟩)
      have h20 : (μ4.1 20 S.length).toInt = ((fvh fr + 1 : Nat) : Int) := by
        rw [e4, sF_v, ti_add (by omega) (by omega), s3, e1]; omega
      have h32 : μ4.1 0 32 = μ.1 0 32 := by rw [e4, sF_i (by decide)]
      have h5 : v5.toInt = ((fvh fr + 1 : Nat) : Int) := by rw [e5', h32, ix]; exact h20
      have e6 : v6 = fvt fr := by rw [e6, tn_of ha]; exact (hc4 _ _ x0).1.trans x1
      subst e6
      have w4 : MwT t n p0 μ4 := by rw [e4]; exact mw_of h.1 (by rw [sF_i (by decide)]) (by rw [sF_i (by decide)]) (by rw [sF_i (by decide)]) (fun j => by rw [sF_i (by decide)])
      have h18 : fvt fr ≠ 12 → μ4.1 18 (b + fvi fr) = bel (fvt fr) := fun e => (hc4 _ _ x0).2.2.trans (x4 e)
      refine pk_ite (fun c12 => ?_) (fun c12 => ?_)
      ·
        have hcu0 : cur5 N0 (fr :: S) = fvN fr := cur5_n (fun x => by have := x.1; rw [c12] at this; exact absurd this (by decide))
        have hkf : kfv t n (19 - S.length) fr (.inr (p0, T, C)) = agP t n (cfin t n (fvw fr) (fvi fr)) (reP t n (19 - S.length) (fvN fr)) (4 - fvh fr) (fvh fr + 1) (.inr (p0, T, C)) := by rw [kfv_e, c12]; rfl
        have shut : kfv t n (19 - S.length) fr (.inr (p0, T, C)) = cfin t n (fvw fr) (fvi fr) (fvh fr + 1) (p0, T, C) → pk (p_X12_hasMore_b85 (p_X12_hasMore_b0 fu) v2 v5 (fvt fr) μ4) (Hm5 t n F b N0 μ (ckP t n (fr :: S) (.inr (p0, T, C)))) := by
          intro hk
          rw [p_X12_hasMore_b85_eq, if_pos c12]
          refine pk_gd (fun _ => pk_bvy (fun μ25 e25 => ?_))
          rw [tn_of ha] at e25
          rw [p_X12_hasMore_b98_eq]
          refine pk_gd (fun _ => ?_)
          rw [if_pos (by rw [tn_of ha, e25, sF_v, ti_le]; omega), if_neg (by rw [c12]; decide), if_neg (by rw [c12]; decide), if_pos c12, p_X12_hasMore_b132_eq]
          have d25 : Dq5 b fr S μ μ25 := by
            obtain ⟨a, b, c, e, f⟩ := d4
            exact ⟨fun i k x y w u => by rw [e25, sF_i w]; exact a i k x y w u, fun k x y w u => by rw [e25, sF_i (by decide)]; exact b k x y w u, fun i hi => by rw [e25, sF_i (by decide)]; exact c i hi, fun i hi => by rw [e25, sF_k (fun ei => hi ⟨ei, c12⟩)]; exact e i hi, fun j hj => by rw [e25, sF_i (by decide)]; exact f j hj⟩
          have w25 : MwT t n p0 μ25 := by rw [e25]; exact mw_of w4 (by rw [sF_i (by decide)]) (by rw [sF_i (by decide)]) (by rw [sF_i (by decide)]) (fun j => by rw [sF_i (by decide)])
          have h5v : v5 = Int32.ofNat (fvh fr + 1) := ti_eq.mpr (by rw [h5]; exact (Int32.toInt_ofNat_of_lt (by omega)).symm)
          have hc25 : Tc b (T.set (fvi fr) (12, fvw fr - 97 + 1, Int32.ofNat (fvh fr + 1))) μ25 := hc4.put hi (fun j hj => by rw [e25]; exact ⟨by rw [sF_i (by decide)], by rw [sF_i (by decide)], by rw [sF_k hj]⟩) (by
            rw [e25]
            obtain ⟨y1, y2, _⟩ := hc4 _ _ x0
            exact ⟨by rw [sF_i (by decide)]; exact y1.trans (x1.trans c12), by rw [sF_i (by decide)]; exact y2.trans (x3 c12), by rw [sF_v]; exact h5v⟩)
          exact hq5_148 (T2 := T.set (fvi fr) (12, fvw fr - 97 + 1, Int32.ofNat (fvh fr + 1))) (C2 := C ++ [(13, (fvw fr - 97) * 6 + Int32.ofNat (fvh fr + 1), Int32.ofNat (fvh fr + 1))]) ih h d25 w25 ha (fun e => by rw [c12] at e; exact absurd e (by decide)) (List.length_set ..) (fun j hj => List.getElem?_set_ne (by omega)) hc25 (by rw [if_neg (by decide)]; exact hk)
        refine pk_bd (q_Mhere w4) ?_
        rintro r27 μ26 ⟨e, hh6⟩
        have hh6 : r27 = hr t n p0 := hh6
        have e : μ26 = μ4 := e
        subst e
        refine pk_ite (fun c44 => pk_ite (fun c5 => ?_) (fun c5 => ?_)) (fun c44 => ?_)
        · rw [ti_le, e5, h5] at c5
          refine shut ?_
          rw [hkf, show 4 - fvh fr = 0 by omega]; rfl
        · rw [ti_le, e5, h5] at c5
          rw [hh6] at c44
          refine pk_bvy (fun μ30 e30 => pk_some ?_)
          have w30 : MwT t n (p0 + 1) μ30 := by rw [e30]; exact mw_next w4 (hr_lt (by rw [c44]; decide))
          have hcu : cur5 N0 (hup5 fr (fvw fr) 0 :: S) = fvN fr := cur5_n (fun x => by have := x.1; rw [show fvt (hup5 fr (fvw fr) 0) = fvt fr from rfl, c12] at this; exact absurd this (by decide))
          rw [hcu0] at hT
          obtain ⟨hX, hM⟩ := mx5_upd (g' := 0) (w := fvw fr) (T2 := T) (C2 := C) h d4 w30 (fun i k x y => by rw [e30, sF_i x]) (fun k x y w u => by rw [e30, sF_k x]) h20 (by rw [c12]; show fvh fr + 1 ≤ 4; omega) rfl (fun _ _ => rfl) hc4 ⟨x, x0, x1, x2, x3, x4⟩ (fun a ha' => by rw [hcu, e30, sF_i (by decide), d4.1 21 _ (by decide) (by decide) (by decide) (by decide)]; exact hT a ha')
          refine ⟨hM, Or.inl ⟨rfl, _, _, hX, ?_⟩⟩
          rw [hcu, show 20 - (hup5 fr (fvw fr) 0 :: S).length = 19 - S.length by show 20 - (S.length + 1) = _; omega]
          show ckP t n S (kfv t n (19 - S.length) fr (.inr (p0, T, C))) = ckP t n S (kfv t n (19 - S.length) (hup5 fr (fvw fr) 0) (reP t n (19 - S.length) (fvN fr) (p0 + 1, T, C)))
          congr 1
          rw [hkf, kfv_h, show 4 - fvh fr = (4 - (fvh fr + 1)) + 1 by omega, c12]
          show (if hr t n p0 = 44 then agP t n (cfin t n (fvw fr) (fvi fr)) (reP t n (19 - S.length) (fvN fr)) (4 - (fvh fr + 1)) (fvh fr + 1 + 1) (reP t n (19 - S.length) (fvN fr) (p0 + 1, T, C)) else _) = _
          rw [if_pos c44]; rfl
        · rw [hh6] at c44
          refine shut ?_
          rw [hkf]
          cases e4' : 4 - fvh fr with
          | zero => rfl
          | succ k =>
            show (if hr t n p0 = 44 then _ else _) = _
            rw [if_neg c44]
      ·
        have hbe := h18 c12
        rw [p_X12_hasMore_b85_eq, if_neg c12, p_X12_hasMore_b98_eq]
        refine pk_gd (fun _ => ?_)
        rw [tn_of ha, hbe]
        have go : fvh fr + 1 ≤ hmx (fvt fr) → (fvt fr = 5 ∨ fvt fr = 2 ∨ fvt fr = 7 ∨ fvt fr = 11) → pk (bd (p_X12_goesOn v2 (fvt fr) μ4) (fun r23 μ22 => gd (isB r23) (some (r23, μ22)))) (Hm5 t n F b N0 μ (ckP t n (fr :: S) (.inr (p0, T, C)))) := fun a b => pk_bd (hm5_go hN0 h d4 w4 hc4 ha h20 a c12 b) (fun r q hq => pk_gd (fun _ => pk_some hq))
        have adt : ∀ (c : Int32) (x : Th3), adC x (tkP t n c (.inr (p0, T, C))) = if hr t n p0 = c then .inr (p0 + 1, T, C ++ [x]) else .inl p0 := fun c x => by
          by_cases cc : hr t n p0 = c
          · rw [tkP_y (v := (p0, T, C)) cc, if_pos cc]; rfl
          · rw [tkP_n (v := (p0, T, C)) cc, if_neg cc]; rfl
        rcases s4 with c | c | c | c | c | c | c | c
        · have hm : fvh fr ≤ 1 := by rw [c] at s6; exact s6
          have hb2 : (bel (fvt fr)).toInt = 2 := by rw [c]; decide
          refine pk_ite (fun cc => ?_) (fun cc => go (by rw [ti_le, hb2, h5] at cc; rw [c]; show fvh fr + 1 ≤ 1; omega) (Or.inl c))
          rw [ti_le, hb2, h5] at cc
          rw [if_pos c, p_X12_hasMore_b132_eq]
          refine hq5_148 (T2 := T) (C2 := C ++ [(2, fvw fr, 0)]) ih h d4 w4 ha (fun e => by rw [c] at e; exact absurd e (by decide)) rfl (fun _ _ => rfl) hc4 ?_
          rw [if_neg (by decide), kfv_e, c, show fvh fr = 1 by omega]
          exact adt 41 (2, fvw fr, 0)
        · have hm : fvh fr ≤ 1 := by rw [c] at s6; exact s6
          have hb2 : (bel (fvt fr)).toInt = 2 := by rw [c]; decide
          refine pk_ite (fun cc => ?_) (fun cc => go (by rw [ti_le, hb2, h5] at cc; rw [c]; show fvh fr + 1 ≤ 1; omega) (Or.inr (Or.inl c)))
          rw [ti_le, hb2, h5] at cc
          rw [if_neg (by rw [c]; decide), if_neg (by rw [c]; decide), if_neg (by rw [c]; decide), if_pos c]
          refine hq5_148 (T2 := T) (C2 := C ++ [(5, 0, 0)]) ih h d4 w4 ha (fun e => by rw [c] at e; exact absurd e (by decide)) rfl (fun _ _ => rfl) hc4 ?_
          rw [if_neg (by decide), kfv_e, c, show fvh fr = 1 by omega]
          exact adt 93 (5, 0, 0)
        · have hm : fvh fr ≤ 2 := by rw [c] at s6; exact s6
          have hb2 : (bel (fvt fr)).toInt = 3 := by rw [c]; decide
          refine pk_ite (fun cc => ?_) (fun cc => go (by rw [ti_le, hb2, h5] at cc; rw [c]; show fvh fr + 1 ≤ 2; omega) (Or.inr (Or.inr (Or.inl c))))
          rw [ti_le, hb2, h5] at cc
          rw [if_neg (by rw [c]; decide), if_pos c, p_X12_hasMore_b132_eq]
          refine hq5_148 (T2 := T) (C2 := (C ++ [(8, 0, 0)]).set (fvg fr) (7, Int32.ofNat (C.length + 1), 0)) ih h d4 w4 ha (fun e => by rw [c] at e; exact absurd e (by decide)) rfl (fun _ _ => rfl) hc4 ?_
          rw [if_neg (by decide), kfv_e, c, show fvh fr = 2 by omega]
          show bnd (tkP t n 41 (.inr (p0, T, C))) (chC (fvg fr)) = _
          by_cases cc : hr t n p0 = 41
          · rw [tkP_y (v := (p0, T, C)) cc, if_pos cc]; rfl
          · rw [tkP_n (v := (p0, T, C)) cc, if_neg cc]; rfl
        · have hm : fvh fr ≤ 1 := by rw [c] at s6; exact s6
          have hb2 : (bel (fvt fr)).toInt = 2 := by rw [c]; decide
          refine pk_ite (fun cc => ?_) (fun cc => go (by rw [ti_le, hb2, h5] at cc; rw [c]; show fvh fr + 1 ≤ 1; omega) (Or.inr (Or.inr (Or.inr c))))
          rw [ti_le, hb2, h5] at cc
          rw [if_neg (by rw [c]; decide), if_neg (by rw [c]; decide), if_neg (by rw [c]; decide), if_neg (by rw [c]; decide)]
          refine hq5_148 (T2 := T) (C2 := C) ih h d4 w4 ha (fun e => by omega) rfl (fun _ _ => rfl) hc4 ?_
          rw [if_pos rfl, kfv_e, c, show fvh fr = 1 by omega]; rfl
        · exact absurd c c12
        · have hm : fvh fr ≤ 0 := by rw [c] at s6; exact s6
          have hb2 : (bel (fvt fr)).toInt = 1 := by rw [c]; decide
          rw [if_pos (by rw [ti_le, hb2, h5]; omega), if_neg (by rw [c]; decide), if_neg (by rw [c]; decide), if_neg (by rw [c]; decide), if_neg (by rw [c]; decide)]
          refine hq5_148 (T2 := T) (C2 := C ++ [oneC (fvw fr)]) ih h d4 w4 ha (fun e => by rw [c] at e; exact absurd e (by decide)) rfl (fun _ _ => rfl) hc4 ?_
          rw [if_pos rfl, kfv_e, c]; rfl
        · have hm : fvh fr ≤ 0 := by rw [c] at s6; exact s6
          have hb2 : (bel (fvt fr)).toInt = 1 := by rw [c]; decide
          rw [if_pos (by rw [ti_le, hb2, h5]; omega), if_neg (by rw [c]; decide), if_neg (by rw [c]; decide), if_neg (by rw [c]; decide), if_neg (by rw [c]; decide)]
          refine hq5_148 (T2 := T) (C2 := C ++ [oneC (fvw fr)]) ih h d4 w4 ha (fun e => by rw [c] at e; exact absurd e (by decide)) rfl (fun _ _ => rfl) hc4 ?_
          rw [if_pos rfl, kfv_e, c]; rfl
        · have hm : fvh fr ≤ 0 := by rw [c] at s6; exact s6
          have hb2 : (bel (fvt fr)).toInt = 1 := by rw [c]; decide
          rw [if_pos (by rw [ti_le, hb2, h5]; omega), if_neg (by rw [c]; decide), if_neg (by rw [c]; decide), if_neg (by rw [c]; decide), if_neg (by rw [c]; decide)]
          refine hq5_148 (T2 := T) (C2 := C ++ [(10, fvw fr, 0)]) ih h d4 w4 ha (fun e => by rw [c] at e; exact absurd e (by decide)) rfl (fun _ _ => rfl) hc4 ?_
          rw [if_pos rfl, kfv_e, c]; rfl
def Ex5 (t : Nat → Int32) (n F b : Nat) (N0 : List Int32) (μ : Mem) (o : Rd (Nat × Py)) (r : Int32 × Mem) : Prop := Mh5 b μ r.2 ∧ (match o with | .inl f => r.1 = 0 ∧ Mf t n f r.2 | .inr v => r.1 = 1 ∧ Mx5 t n F b N0 [] v r.2)
theorem Ex5.mh {t : Nat → Int32} {n F b : Nat} {N0 : List Int32} {μ q : Mem} {o : Rd (Nat × Py)} {r : Int32 × Mem} (h : Ex5 t n F b N0 q o r) (hM : Mh5 b μ q) : Ex5 t n F b N0 μ o r := ⟨hM.tr h.1, h.2⟩
theorem q_Mexp5 {t : Nat → Int32} {n F b : Nat} {N0 : List Int32} (hN0 : N0.length ≤ 5) : ∀ (fu : Nat) (a : Int32) (S : List Fw5) (v : Nat × Py) (μ : Mem), ¬ a = 0 → Mx5 t n F b N0 S v μ → pk (p_X12_readExpression_b7 fu a μ) (Ex5 t n F b N0 μ (ckP t n S (reP t n (20 - S.length) (cur5 N0 S) v))) := by
  intro fu
  induction fu with
  | zero => intro a S v μ _ _ r e; rw [p_X12_readExpression_b7_z] at e; cases e
  | succ fu ih =>
    intro a S v μ h0 h
    rw [p_X12_readExpression_b7_s, if_neg h0]
    obtain ⟨p, T, C⟩ := v
    have more : ∀ S v μ, Mx5 t n F b N0 S v μ → pk (p_X12_readExpression_b57 (p_X12_readExpression_b7 fu) μ) (Ex5 t n F b N0 μ (ckP t n S (reP t n (20 - S.length) (cur5 N0 S) v))) := by
      intro S v μ h
      rw [p_X12_readExpression_b57_eq, p_X12_readExpression_b62_eq, if_pos h.1.2.1]
      exact ih 1 S v μ (by decide) h
    refine pk_bvy (fun v3 e3 => pk_bv (pk_bd (rth5_thing h) ?_))
    rintro r6 μ5 ⟨hM, ho⟩
    have hM : Mh5 b μ μ5 := hM
    rcases ho with ⟨f, o1, o2, o3⟩ | ⟨v', o1, o2, o3⟩ | ⟨g, v', o1, o2, o3⟩
    · have o1 : r6 = 0 := o1
      rw [if_pos o1, o3, ckP_l]
      exact pk_some ⟨hM, rfl, o2⟩
    · have o1 : r6 = 1 := o1
      have o2 : Mx5 t n F b N0 S v' μ5 := o2
      rw [if_neg (by rw [o1]; decide), if_pos (by rw [ti_le, e3, o2.2.2.2.1, h.2.2.2.1]; omega), p_X12_readExpression_b43_eq, if_pos rfl, o3, p_X12_hasMore_eq]
      refine pk_bd (q_Mmore5 hN0 FUEL S v' μ5 o2) ?_
      rintro r12 μ11 ⟨hM2, ho⟩
      have hM2 : Mh5 b μ5 μ11 := hM2
      generalize ckP t n S (.inr v') = oo at ho
      rcases ho with ⟨q1, S2, v2, q2, q3⟩ | ⟨q1, ⟨f, q2, q3⟩ | ⟨v2, q2, q3⟩⟩
      · have q1 : r12 = 1 := q1
        rw [if_neg (by rw [q1]; decide), q3]
        exact pk_mono (more S2 v2 μ11 q2) (fun r hr => hr.mh (hM.tr hM2))
      · have q1 : r12 = 0 := q1
        have q2 : Mf t n f μ11 := q2
        rw [if_pos q1, q3, p_X12_readExpression_b62_eq, if_neg (mf_bad q2)]
        exact pk_some ⟨hM.tr hM2, rfl, q2⟩
      · have q1 : r12 = 0 := q1
        have q2 : Mx5 t n F b N0 [] v2 μ11 := q2
        rw [if_pos q1, q3, p_X12_readExpression_b62_eq, if_pos q2.1.2.1]
        cases fu with
        | zero => intro r e; rw [p_X12_readExpression_b7_z] at e; cases e
        | succ fu =>
          rw [p_X12_readExpression_b7_s, if_pos rfl]
          exact pk_some ⟨hM.tr hM2, rfl, q2⟩
    · have o1 : r6 = 1 := o1
      have o2 : Mx5 t n F b N0 (g :: S) v' μ5 := o2
      have hl : (μ5.1 0 32).toInt = (S.length : Int) + 1 := by rw [o2.2.2.2.1]; simp
      have hS : S.length + 1 ≤ 20 := o2.2.2.2.2.1
      rw [if_neg (by rw [o1]; decide), if_neg (by rw [ti_le, e3, hl, h.2.2.2.1]; omega), p_X12_readExpression_b43_eq, if_neg (by decide), o3]
      have hh := more (g :: S) v' μ5 o2
      rw [show 20 - (g :: S).length = 19 - S.length by show 20 - (S.length + 1) = _; omega] at hh
      exact pk_mono hh (fun r hr => hr.mh hM)
theorem q_Mexpr5 {t : Nat → Int32} {n F b p : Nat} {N0 : List Int32} {C : List Th3} {μ : Mem} (hN0 : N0.length ≤ 5) (hw : MwT t n p μ) (h27 : (μ.1 0 27).toInt = (F : Int)) (h14 : (μ.1 14 F).toInt = (b : Int)) (hb : b ≤ 100000) (h28 : (μ.1 0 28).toInt = (b : Int)) (hT : Tl μ N0) : pk (p_X12_readExpression μ) (Ex5 t n F b N0 μ (reP t n 20 N0 (p, [], C))) := by
  have e0 : (0 : Int32).toInt = 0 := by decide
  rw [p_X12_readExpression_eq]
  refine pk_bvy (fun μ1 e1 => ?_)
  have g0 : ∀ k, k ≠ 32 → μ1.1 0 k = μ.1 0 k := fun k hk => by rw [e1, sF_k hk]
  have g : ∀ i k, i ≠ 0 → μ1.1 i k = μ.1 i k := fun i k hi => by rw [e1, sF_i hi]
  have h : Mx5 t n F b N0 [] (p, [], C) μ1 := ⟨mw_of hw (g0 3 (by decide)) (g0 4 (by decide)) (g0 5 (by decide)) (fun j => g 1 j (by decide)), ⟨by rw [g0 27 (by decide)]; exact h27, by rw [g 14 F (by decide)]; exact h14, hb⟩, ⟨by rw [g0 28 (by decide)]; exact h28, Nat.zero_le _⟩, by rw [e1, sF_v]; exact e0, Nat.zero_le _, trivial, fun a ha => by rw [g 21 _ (by decide)]; exact hT a ha, fun j x hx => by cases hx⟩
  exact pk_mono (q_Mexp5 hN0 FUEL 1 [] (p, [], C) μ1 (by decide) h) (fun r hr => hr.mh ⟨fun i k x _ => g i k x, fun k _ => ⟨g 16 k (by decide), g 17 k (by decide), g 18 k (by decide)⟩⟩)
