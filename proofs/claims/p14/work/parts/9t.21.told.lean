theorem tkP_y {α : Type} {t : Nat → Int32} {n : Nat} {c : Int32} {v : Nat × α} (h : hr t n v.1 = c) : tkP t n c (.inr v) = .inr (v.1 + 1, v.2) := by
  show (if hr t n v.1 = c then _ else _) = _
  rw [if_pos h]
theorem tkP_n {α : Type} {t : Nat → Int32} {n : Nat} {c : Int32} {v : Nat × α} (h : ¬ hr t n v.1 = c) : tkP t n c (.inr v) = .inl v.1 := by
  show (if hr t n v.1 = c then _ else _) = _
  rw [if_neg h]
theorem kfv_e {t : Nat → Int32} {n r : Nat} {fr : Fw5} {o : Rd (Nat × Py)} : kfv t n r fr o = kfP t n r (fvi fr) (fvt fr) (fvw fr) (fvh fr) (fvN fr) (fvg fr) o := rfl
theorem kfv_h {t : Nat → Int32} {n r g : Nat} {w : Int32} {fr : Fw5} {o : Rd (Nat × Py)} : kfv t n r (hup5 fr w g) o = kfP t n r (fvi fr) (fvt fr) w (fvh fr + 1) (fvN fr) g o := rfl
theorem hm5_go {t : Nat → Int32} {n F b : Nat} {N0 : List Int32} (hN0 : N0.length ≤ 5) {S : List Fw5} {fr : Fw5} {p0 : Nat} {T C : List Th3} {μ q : Mem} {a1 : Int32} (h : Mx5 t n F b N0 (fr :: S) (p0, T, C) μ) (d : Dq5 b fr S μ q) (hw : MwT t n p0 q) (hc : Tc b T q) (ha : a1.toInt = ((b + fvi fr : Nat) : Int)) (h20 : (q.1 20 S.length).toInt = ((fvh fr + 1 : Nat) : Int)) (hh : fvh fr + 1 ≤ hmx (fvt fr)) (hne : fvt fr ≠ 12) (hth : fvt fr = 5 ∨ fvt fr = 2 ∨ fvt fr = 7 ∨ fvt fr = 11) : pk (p_X12_goesOn a1 (fvt fr) q) (Hm5 t n F b N0 μ (ckP t n (fr :: S) (.inr (p0, T, C)))) := by
  have e1 : (1 : Int32).toInt = 1 := by decide
  have hsk := h.2.2.2.2.2.1
  have hT := h.2.2.2.2.2.2.1
  have h7 : S.length + 1 ≤ 20 := h.2.2.2.2.1
  have el : ∀ w g, 20 - (hup5 fr w g :: S).length = 19 - S.length := fun w g => by show 20 - (S.length + 1) = _; omega
  have q21 : ∀ k, q.1 21 k = μ.1 21 k := fun k => d.1 21 k (by decide) (by decide) (by decide) (by decide)
  obtain ⟨x, x0, x1, x2, x3, x4⟩ := hsk.2.2.2.2.1
  have x0 : T[fvi fr]? = some x := x0
  have hi := lt_of_some x0
  have comma : ∀ (C2 : List Th3) (g' : Nat) z, (hr t n p0 = 44 → kfv t n (19 - S.length) fr (.inr (p0, T, C)) = kfv t n (19 - S.length) (hup5 fr (fvw fr) g') (reP t n (19 - S.length) (cur5 N0 (hup5 fr (fvw fr) g' :: S)) (p0 + 1, T, C2))) → (¬ hr t n p0 = 44 → kfv t n (19 - S.length) fr (.inr (p0, T, C)) = .inl p0) → MwT t n p0 z → (∀ i k, i ≠ 0 → i ≠ 21 → z.1 i k = q.1 i k) → (∀ k, k ≠ 4 → k ≠ 5 → k ≠ 6 → k ≠ 7 → z.1 0 k = q.1 0 k) → Tl z (cur5 N0 (hup5 fr (fvw fr) g' :: S)) → pk (bd (p_X12_takes 44 z) (fun r9 μ8 => gd (isB r9) (some (r9, μ8)))) (Hm5 t n F b N0 μ (ckP t n (fr :: S) (.inr (p0, T, C)))) := by
    intro C2 g' z ky kn hz g g0 hTz
    refine pk_bd (q_Mtakes (c := 44) (by decide) hz) ?_
    rintro r9 μ8 ⟨hE, ho⟩
    have hMz : Mh5 b μ μ8 := (d.mh.tr ⟨fun i k x y => g i k x (by omega), fun k _ => ⟨g 16 k (by decide) (by decide), g 17 k (by decide) (by decide), g 18 k (by decide) (by decide)⟩⟩).tr hE.mh5
    by_cases c1 : hr t n p0 = 44
    · rw [if_pos c1] at ho
      obtain ⟨o1, o2⟩ : r9 = 1 ∧ MwT t n (p0 + 1) μ8 := ho
      obtain ⟨hX, _⟩ := mx5_upd (g' := g') (w := fvw fr) (T2 := T) (C2 := C2) h d o2 (fun i k x y => (hE i k (fun e => x e.1)).trans (g i k x y)) (fun k a b c e => (hE 0 k (by omega)).trans (g0 k a b c e)) h20 hh rfl (fun _ _ => rfl) hc ⟨x, x0, x1, x2, x3, x4⟩ (fun a ha' => by rw [hE 21 _ (by omega)]; exact hTz a ha')
      refine pk_gd (fun _ => pk_some ⟨hMz, Or.inl ⟨o1, _, _, hX, ?_⟩⟩)
      rw [el]
      show ckP t n S (kfv t n (19 - S.length) fr (.inr (p0, T, C))) = ckP t n S (kfv t n (19 - S.length) (hup5 fr (fvw fr) g') (reP t n (19 - S.length) (cur5 N0 (hup5 fr (fvw fr) g' :: S)) (p0 + 1, T, C2)))
      rw [ky c1]
    · rw [if_neg c1] at ho
      obtain ⟨o1, o2⟩ : r9 = 0 ∧ Mf t n p0 μ8 := ho
      refine pk_gd (fun _ => pk_some ⟨hMz, Or.inr ⟨o1, Or.inl ⟨p0, o2, ?_⟩⟩⟩)
      show ckP t n S (kfv t n (19 - S.length) fr (.inr (p0, T, C))) = _
      rw [kn c1, ckP_l]
  rw [p_X12_goesOn_eq]
  refine pk_ite (fun c5 => ?_) (fun c5 => pk_ite (fun c11 => ?_) (fun c11 => ?_))
  · have h0 : fvh fr = 0 := by rw [c5] at hh; have : fvh fr + 1 ≤ 1 := hh; omega
    refine pk_bd (q_Mhere hw) ?_
    rintro r12 μ11 ⟨e, hh6⟩
    have hh6 : r12 = hr t n p0 := hh6
    have e : μ11 = q := e
    subst e
    have hkk : kfv t n (19 - S.length) fr (.inr (p0, T, C)) = sgK t n (19 - S.length) (fvi fr) (fvN fr) (p0, T, C) := by rw [kfv_e, c5, h0]; rfl
    unfold sgK at hkk
    refine pk_ite (fun cs => ?_) (fun cs => ?_)
    · rw [isSg_M, hh6] at cs
      refine pk_bd (q_Mfails hw) ?_
      rintro r19 μ18 ⟨o1, hE, o2⟩
      refine pk_gd (fun _ => pk_some ⟨(d.me hE).mh, Or.inr ⟨o1, Or.inl ⟨p0, o2, ?_⟩⟩⟩)
      show ckP t n S (kfv t n _ fr (.inr (p0, T, C))) = _
      rw [hkk, if_neg (by rw [cs]; decide)]
      exact ckP_l S
    · rw [isSg_M, hh6] at cs
      have cs : isSg (hr t n p0) = true := by simpa using cs
      rw [if_pos cs] at hkk
      refine pk_bd (q_Mhere hw) ?_
      rintro r15 μ14 ⟨e, hh15⟩
      have hh15 : r15 = hr t n p0 := hh15
      have e : μ14 = μ11 := e
      subst e
      refine pk_gd (fun _ => pk_bvy (fun μ16 e16 => pk_bvy (fun μ17 e17 => pk_some ?_)))
      rw [tn_of ha, hh15] at e16
      have d16 : Dq5 b fr S μ μ16 := by
        obtain ⟨a, b, c, e, f⟩ := d
        exact ⟨fun i k x y w u => by rw [e16, sF_i y]; exact a i k x y w u, fun k x y w u => by rw [e16, sF_i (by decide)]; exact b k x y w u, fun i hi => by rw [e16, sF_k (fun ei => hi ⟨ei, c5⟩)]; exact c i hi, fun i hi => by rw [e16, sF_i (by decide)]; exact e i hi, fun j hj => by rw [e16, sF_i (by decide)]; exact f j hj⟩
      have w16 : MwT t n p0 μ16 := by rw [e16]; exact mw_of hw (by rw [sF_i (by decide)]) (by rw [sF_i (by decide)]) (by rw [sF_i (by decide)]) (fun j => by rw [sF_i (by decide)])
      have w17 : MwT t n (p0 + 1) μ17 := by rw [e17]; exact mw_next w16 (hr_lt (cls_ne (by decide) cs))
      have hcu : cur5 N0 (hup5 fr (hr t n p0) 0 :: S) = fvN fr := cur5_n (fun x => by have := x.1; rw [show fvt (hup5 fr (hr t n p0) 0) = fvt fr from rfl, c5] at this; exact absurd this (by decide))
      have hcu0 : cur5 N0 (fr :: S) = fvN fr := cur5_n (fun x => by have := x.1; rw [c5] at this; exact absurd this (by decide))
      rw [hcu0] at hT
      have hx16 : μ14.1 16 (b + fvi fr) = 5 ∧ μ14.1 18 (b + fvi fr) = 2 := by
        obtain ⟨y1, _, y3⟩ := hc _ _ x0
        refine ⟨y1.trans (x1.trans c5), y3.trans ((x4 hne).trans ?_)⟩
        rw [c5]; rfl
      have hc16 : Tc b (T.set (fvi fr) (5, hr t n p0, 2)) μ16 := hc.put hi (fun j hj => by rw [e16]; exact ⟨by rw [sF_i (by decide)], by rw [sF_k hj], by rw [sF_i (by decide)]⟩) (by rw [e16]; exact ⟨by rw [sF_i (by decide)]; exact hx16.1, by rw [sF_v], by rw [sF_i (by decide)]; exact hx16.2⟩)
      obtain ⟨hX, hM⟩ := mx5_upd (g' := 0) (w := hr t n p0) (C2 := C) h d16 w17 (fun i k x y => by rw [e17, sF_i x]) (fun k x y w u => by rw [e17, sF_k x]) (by rw [e16, sF_i (by decide)]; exact h20) hh (List.length_set ..) (fun j hj => List.getElem?_set_ne (by omega)) hc16 ⟨(5, hr t n p0, 2), List.getElem?_set_self hi, c5.symm, fun e => by rw [c5] at e; exact absurd e (by decide), fun e => absurd e hne, fun _ => by rw [c5]; rfl⟩ (fun a ha' => by rw [hcu, e17, sF_i (by decide), e16, sF_i (by decide), q21]; exact hT a ha')
      refine ⟨hM, Or.inl ⟨rfl, _, _, hX, ?_⟩⟩
      rw [el, hcu]
      show ckP t n S (kfv t n (19 - S.length) fr (.inr (p0, T, C))) = ckP t n S (kfv t n (19 - S.length) (hup5 fr (hr t n p0) 0) _)
      rw [hkk, kfv_h, c5, h0]; rfl
  · have h0 : fvh fr = 0 := by rw [c11] at hh; have : fvh fr + 1 ≤ 1 := hh; omega
    obtain ⟨v1, v2⟩ := x2 c11
    have hcu : cur5 N0 (hup5 fr (fvw fr) 0 :: S) = fvw fr :: fvN fr := if_pos ⟨c11, by show fvh fr + 1 = 1; omega⟩
    have hcu0 : cur5 N0 (fr :: S) = fvN fr := cur5_n (fun x => by omega)
    rw [hcu0] at hT
    refine pk_gd (fun _ => pk_bvy (fun v6 e6 => pk_gd (fun _ => pk_gd (fun _ => pk_bvy (fun μ7 e7 => ?_)))))
    have e6 : v6 = fvw fr - 109 := by
      rw [e6, tn_of ha, (hc _ _ x0).2.1]; exact v2
    refine comma (C ++ [(12, Int32.ofNat (fvN fr).length, 0)]) 0 μ7 (fun c1 => ?_) (fun c1 => ?_) (by rw [e7]; exact mw_of hw (by rw [sF_i (by decide)]) (by rw [sF_i (by decide)]) (by rw [sF_i (by decide)]) (fun j => by rw [sF_i (by decide)])) (fun i k x y => by rw [e7, sF_i y]) (fun k x y w u => by rw [e7, sF_i (by decide)]) ?_
    · rw [hcu, kfv_e, kfv_h, c11, h0]
      show bnd (tkP t n 44 (.inr (p0, T, C))) (leK t n (19 - S.length) (fvw fr) (fvN fr)) = reP t n (19 - S.length) (fvw fr :: fvN fr) (p0 + 1, T, C ++ [(12, Int32.ofNat (fvN fr).length, 0)])
      rw [tkP_y (v := (p0, T, C)) c1]; rfl
    · rw [kfv_e, c11, h0]
      show bnd (tkP t n 44 (.inr (p0, T, C))) (leK t n (19 - S.length) (fvw fr) (fvN fr)) = _
      rw [tkP_n (v := (p0, T, C)) c1]; rfl
    rw [hcu]
    intro a ha'
    rw [e7, e6]
    by_cases hx : a = fvw fr
    · subst hx
      have h00 := hT (fvw fr) v1
      have hb : ((fvN fr).count (fvw fr)) < 2147483647 := by
        have hl : (fvN fr).count (fvw fr) ≤ (fvN fr).length := List.count_le_length
        have h9 := cur5_len hsk.2.2.2.2.2.2.2
        have h10 : fvN fr = cur5 N0 S := hsk.2.2.2.2.2.2.1
        rw [← h10] at h9
        omega
      rw [List.count_cons_self, sF_v, q21, ti_add (by omega) (by omega), h00, e1]; omega
    · have hne' : (a - 109).toNatClampNeg ≠ (fvw fr - 109).toNatClampNeg := fun e => hx (va_inj ha' v1 e)
      rw [List.count_cons_of_ne (Ne.symm hx), sF_k hne', q21]
      exact hT a ha'
  · have hcu : ∀ g, cur5 N0 (hup5 fr (fvw fr) g :: S) = fvN fr := fun g => cur5_n (fun x => c11 x.1)
    have hcu0 : cur5 N0 (fr :: S) = fvN fr := cur5_n (fun x => c11 x.1)
    rw [hcu0] at hT
    have hTq : ∀ g, Tl q (cur5 N0 (hup5 fr (fvw fr) g :: S)) := fun g => by rw [hcu]; intro a ha'; rw [q21]; exact hT a ha'
    rcases hth with e | e | e | e
    · exact absurd e c5
    · have h0 : fvh fr = 0 := by rw [e] at hh; have : fvh fr + 1 ≤ 1 := hh; omega
      refine comma C 0 q (fun c1 => ?_) (fun c1 => ?_) hw (fun _ _ _ _ => rfl) (fun _ _ _ _ _ => rfl) (hTq 0)
      · rw [hcu, kfv_e, kfv_h, e, h0]
        show adC (5, 0, 0) (tkP t n 93 (bnd (tkP t n 44 (.inr (p0, T, C))) (reP t n (19 - S.length) (fvN fr)))) = adC (5, 0, 0) (tkP t n 93 (reP t n (19 - S.length) (fvN fr) (p0 + 1, T, C)))
        rw [tkP_y (v := (p0, T, C)) c1]; rfl
      · rw [kfv_e, e, h0]
        show adC (5, 0, 0) (tkP t n 93 (bnd (tkP t n 44 (.inr (p0, T, C))) (reP t n (19 - S.length) (fvN fr)))) = _
        rw [tkP_n (v := (p0, T, C)) c1]; rfl
    · have h0 : fvh fr + 1 ≤ 2 := by rw [e] at hh; exact hh
      rcases (show fvh fr = 0 ∨ fvh fr = 1 by omega) with h1 | h1
      · refine comma (C ++ [(6, 0, 0)]) C.length q (fun c1 => ?_) (fun c1 => ?_) hw (fun _ _ _ _ => rfl) (fun _ _ _ _ _ => rfl) (hTq _)
        · rw [hcu, kfv_e, kfv_h, e, h1]
          show bnd (tkP t n 44 (.inr (p0, T, C))) (chA t n (19 - S.length) (fvN fr)) = bnd (tkP t n 44 (reP t n (19 - S.length) (fvN fr) (p0 + 1, T, C ++ [(6, 0, 0)]))) (chB t n (19 - S.length) (fvN fr) C.length)
          rw [tkP_y (v := (p0, T, C)) c1]; rfl
        · rw [kfv_e, e, h1]
          show bnd (tkP t n 44 (.inr (p0, T, C))) (chA t n (19 - S.length) (fvN fr)) = _
          rw [tkP_n (v := (p0, T, C)) c1]; rfl
      · refine comma ((C ++ [(7, 0, 0)]).set (fvg fr) (6, Int32.ofNat (C.length + 1), 0)) C.length q (fun c1 => ?_) (fun c1 => ?_) hw (fun _ _ _ _ => rfl) (fun _ _ _ _ _ => rfl) (hTq _)
        · rw [hcu, kfv_e, kfv_h, e, h1]
          show bnd (tkP t n 44 (.inr (p0, T, C))) (chB t n (19 - S.length) (fvN fr) (fvg fr)) = bnd (tkP t n 41 (reP t n (19 - S.length) (fvN fr) (p0 + 1, T, (C ++ [(7, 0, 0)]).set (fvg fr) (6, Int32.ofNat (C.length + 1), 0)))) (chC C.length)
          rw [tkP_y (v := (p0, T, C)) c1]; rfl
        · rw [kfv_e, e, h1]
          show bnd (tkP t n 44 (.inr (p0, T, C))) (chB t n (19 - S.length) (fvN fr) (fvg fr)) = _
          rw [tkP_n (v := (p0, T, C)) c1]; rfl
    · exact absurd e c11
