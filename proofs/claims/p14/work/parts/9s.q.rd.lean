theorem hq_148 {t : Nat → Int32} {n F b : Nat} {N0 : List Int32} {S : List Fw} {fr : Fw} {v : Nat × Nat} {μ q : Mem} {a1 k0 : Int32} {K0 : Mem → Option (Int32 × Mem)} (ih : ∀ S v μ, Mx4 t n F b N0 S v μ → pk (K0 μ) (Hm t n F b N0 μ (ck t n S (.inr v)))) (h : Mx4 t n F b N0 (fr :: S) v μ) (d : Dq fr S μ q) (hw : MwT t n v.1 q) (ha : a1.toInt = (fwo fr : Int)) (h11 : fwt fr = 11 → fwh fr = 1) (hk : kf t n (19 - S.length) (fwt fr) (fwn fr) (fwh fr) (fwN fr) (.inr v) = if k0 = -1 then .inr v else tk t n k0 (.inr v)) : pk (p_X12_hasMore_b148 K0 a1 (fwt fr) k0 q) (Hm t n F b N0 μ (ck t n (fr :: S) (.inr v))) := by
  rw [p_X12_hasMore_b148_eq]
  refine pk_ite (fun c => ?_) (fun c => ?_)
  · rw [if_pos c] at hk
    exact hm_shut ih h d hw ha h11 hk
  · rw [if_neg c] at hk
    have hk : kf t n (19 - S.length) (fwt fr) (fwn fr) (fwh fr) (fwN fr) (.inr v) = if hr t n v.1 = k0 then .inr (v.1 + 1, v.2) else .inl v.1 := hk
    refine pk_bd (q_Mtakes (c := k0) c hw) ?_
    rintro r17 μ16 ⟨hE, ho⟩
    have dE := d.me hE
    by_cases c1 : hr t n v.1 = k0
    · rw [if_pos c1] at ho hk
      obtain ⟨o1, o2⟩ : r17 = 1 ∧ MwT t n (v.1 + 1) μ16 := ho
      rw [if_neg (by rw [o1]; decide)]
      exact hm_shut ih h dE o2 ha h11 hk
    · rw [if_neg c1] at ho hk
      obtain ⟨o1, o2⟩ : r17 = 0 ∧ Mf t n v.1 μ16 := ho
      rw [if_pos o1]
      refine pk_some ⟨dE.mh, Or.inr ⟨rfl, Or.inl ⟨v.1, o2, ?_⟩⟩⟩
      show ck t n S (kf t n _ _ _ _ _ (.inr v)) = _
      rw [hk, ck_l]
theorem isSg_M (c : Int32) : (s_X12_isSign c = 0) ↔ isSg c = false := by
  have : s_X12_isSign c = s_X0_isSign c := by rw [s_X12_isSign_eq, s_X0_isSign_eq]
  rw [this]; exact isSg_X c
theorem cur_len {N0 : List Int32} {μ : Mem} : ∀ {S : List Fw} {top : Nat}, Sk N0 μ top S → (cur N0 S).length ≤ N0.length + S.length := by
  intro S
  induction S with
  | nil => intro top _; exact Nat.le_refl _
  | cons fr S ih =>
    intro top h
    have hN : fwN fr = cur N0 S := h.2.2.2.2.2.2.2.2.1
    have := ih h.2.2.2.2.2.2.2.2.2
    show (if fwt fr = 11 ∧ fwh fr = 1 then fwn fr :: fwN fr else fwN fr).length ≤ N0.length + (S.length + 1)
    by_cases c : fwt fr = 11 ∧ fwh fr = 1
    · rw [if_pos c, hN]; simp; omega
    · rw [if_neg c, hN]; omega
theorem hm_go {t : Nat → Int32} {n F b : Nat} {N0 : List Int32} (hN0 : N0.length ≤ 5) {S : List Fw} {fr : Fw} {v : Nat × Nat} {μ q : Mem} {a1 : Int32} (h : Mx4 t n F b N0 (fr :: S) v μ) (d : Dq fr S μ q) (hw : MwT t n v.1 q) (ha : a1.toInt = (fwo fr : Int)) (h20 : (q.1 20 S.length).toInt = ((fwh fr + 1 : Nat) : Int)) (hh : fwh fr + 1 ≤ hmx (fwt fr)) (hne : fwt fr ≠ 12) (hth : fwt fr = 5 ∨ fwt fr = 2 ∨ fwt fr = 7 ∨ fwt fr = 11) : pk (p_X12_goesOn a1 (fwt fr) q) (Hm t n F b N0 μ (ck t n (fr :: S) (.inr v))) := by
  have e1 : (1 : Int32).toInt = 1 := by decide
  have hsk := h.2.2.2.2.2.1
  have hT := h.2.2.2.2.2.2
  have h7 : S.length + 1 ≤ 20 := h.2.2.2.2.1
  have el : 20 - (hup fr :: S).length = 19 - S.length := by show 20 - (S.length + 1) = _; omega
  have h18 : q.1 18 (fwo fr) = bel (fwt fr) := by rw [d.2.2.2.1 _ (fun x => hne x.2)]; exact hsk.2.2.2.2.2.2.1 hne
  have q21 : ∀ k, q.1 21 k = μ.1 21 k := fun k => d.1 21 k (by decide) (by decide) (by decide) (by decide)
  have comma : (fwt fr = 2 ∨ fwt fr = 7 ∨ fwt fr = 11) → ∀ z, MwT t n v.1 z → (∀ i k, i ≠ 0 → i ≠ 21 → z.1 i k = q.1 i k) → (∀ k, k ≠ 4 → k ≠ 5 → k ≠ 6 → k ≠ 7 → z.1 0 k = q.1 0 k) → Tl z (cur N0 (hup fr :: S)) → pk (bd (p_X12_takes 44 z) (fun r9 μ8 => gd (isB r9) (some (r9, μ8)))) (Hm t n F b N0 μ (ck t n (fr :: S) (.inr v))) := by
    intro h3 z hz g g0 hTz
    refine pk_bd (q_Mtakes (c := 44) (by decide) hz) ?_
    rintro r9 μ8 ⟨hE, ho⟩
    have hMz : Mh μ μ8 := (d.mh.tr (fun i k x y => g i k x (by omega))).tr hE.mh
    by_cases c1 : hr t n v.1 = 44
    · rw [if_pos c1] at ho
      obtain ⟨o1, o2⟩ : r9 = 1 ∧ MwT t n (v.1 + 1) μ8 := ho
      obtain ⟨hX, _⟩ := mx_upd h d o2 (fun i k x y => (hE i k (fun e => x e.1)).trans (g i k x y)) (fun k a b c e => (hE 0 k (by omega)).trans (g0 k a b c e)) h20 hh (fun _ => h18) (fun a ha' => by rw [hE 21 _ (by omega)]; exact hTz a ha')
      refine pk_gd (fun _ => pk_some ⟨hMz, Or.inl ⟨o1, _, _, hX, ?_⟩⟩)
      have htk : tk t n 44 (.inr v) = .inr (v.1 + 1, v.2) := by
        show (if hr t n v.1 = 44 then _ else _) = _
        rw [if_pos c1]
      rw [el]
      show ck t n S (kf t n (19 - S.length) (fwt fr) (fwn fr) (fwh fr) (fwN fr) (.inr v)) = ck t n S (kf t n (19 - S.length) (fwt fr) (fwn fr) (fwh fr + 1) (fwN fr) (re t n (19 - S.length) (cur N0 (hup fr :: S)) (v.1 + 1, v.2)))
      congr 1
      rcases h3 with e | e | e
      · have h0 : fwh fr = 0 := by rw [e] at hh; have : fwh fr + 1 ≤ 1 := hh; omega
        have hcu : cur N0 (hup fr :: S) = fwN fr := cur_n (fun x => by have := x.1; rw [show fwt (hup fr) = fwt fr from rfl, e] at this; exact absurd this (by decide))
        rw [hcu, e, h0]
        show tk t n 93 (bnd (tk t n 44 (.inr v)) (re t n (19 - S.length) (fwN fr))) = tk t n 93 (re t n (19 - S.length) (fwN fr) (v.1 + 1, v.2))
        rw [htk]; rfl
      · have h0 : fwh fr + 1 ≤ 2 := by rw [e] at hh; exact hh
        have hcu : cur N0 (hup fr :: S) = fwN fr := cur_n (fun x => by have := x.1; rw [show fwt (hup fr) = fwt fr from rfl, e] at this; exact absurd this (by decide))
        rw [hcu, e]
        rcases (show fwh fr = 0 ∨ fwh fr = 1 by omega) with h1 | h1
        · rw [h1]
          show tk t n 41 (bnd (tk t n 44 (bnd (tk t n 44 (.inr v)) (re t n (19 - S.length) (fwN fr)))) (re t n (19 - S.length) (fwN fr))) = tk t n 41 (bnd (tk t n 44 (re t n (19 - S.length) (fwN fr) (v.1 + 1, v.2))) (re t n (19 - S.length) (fwN fr)))
          rw [htk]; rfl
        · rw [h1]
          show tk t n 41 (bnd (tk t n 44 (.inr v)) (re t n (19 - S.length) (fwN fr))) = tk t n 41 (re t n (19 - S.length) (fwN fr) (v.1 + 1, v.2))
          rw [htk]; rfl
      · have h0 : fwh fr = 0 := by rw [e] at hh; have : fwh fr + 1 ≤ 1 := hh; omega
        have hcu : cur N0 (hup fr :: S) = fwn fr :: fwN fr := if_pos ⟨e, by show fwh fr + 1 = 1; omega⟩
        rw [hcu, e, h0]
        show bnd (tk t n 44 (.inr v)) (re t n (19 - S.length) (fwn fr :: fwN fr)) = re t n (19 - S.length) (fwn fr :: fwN fr) (v.1 + 1, v.2)
        rw [htk]; rfl
    · rw [if_neg c1] at ho
      obtain ⟨o1, o2⟩ : r9 = 0 ∧ Mf t n v.1 μ8 := ho
      refine pk_gd (fun _ => pk_some ⟨hMz, Or.inr ⟨o1, Or.inl ⟨v.1, o2, ?_⟩⟩⟩)
      have htk : tk t n 44 (.inr v) = .inl v.1 := by
        show (if hr t n v.1 = 44 then _ else _) = _
        rw [if_neg c1]
      show ck t n S (kf t n (19 - S.length) (fwt fr) (fwn fr) (fwh fr) (fwN fr) (.inr v)) = _
      have hkk : kf t n (19 - S.length) (fwt fr) (fwn fr) (fwh fr) (fwN fr) (.inr v) = .inl v.1 := by
        rcases h3 with e | e | e
        · have h0 : fwh fr = 0 := by rw [e] at hh; have : fwh fr + 1 ≤ 1 := hh; omega
          rw [e, h0]
          show tk t n 93 (bnd (tk t n 44 (.inr v)) (re t n (19 - S.length) (fwN fr))) = _
          rw [htk]; rfl
        · have h0 : fwh fr + 1 ≤ 2 := by rw [e] at hh; exact hh
          rw [e]
          rcases (show fwh fr = 0 ∨ fwh fr = 1 by omega) with h1 | h1
          · rw [h1]
            show tk t n 41 (bnd (tk t n 44 (bnd (tk t n 44 (.inr v)) (re t n (19 - S.length) (fwN fr)))) (re t n (19 - S.length) (fwN fr))) = _
            rw [htk]; rfl
          · rw [h1]
            show tk t n 41 (bnd (tk t n 44 (.inr v)) (re t n (19 - S.length) (fwN fr))) = _
            rw [htk]; rfl
        · have h0 : fwh fr = 0 := by rw [e] at hh; have : fwh fr + 1 ≤ 1 := hh; omega
          rw [e, h0]
          show bnd (tk t n 44 (.inr v)) (re t n (19 - S.length) (fwn fr :: fwN fr)) = _
          rw [htk]; rfl
      rw [hkk, ck_l]
  rw [p_X12_goesOn_eq]
  refine pk_ite (fun c5 => ?_) (fun c5 => pk_ite (fun c11 => ?_) (fun c11 => ?_))
  · have h0 : fwh fr = 0 := by rw [c5] at hh; have : fwh fr + 1 ≤ 1 := hh; omega
    refine pk_bd (q_Mhere hw) ?_
    rintro r12 μ11 ⟨e, hh6⟩
    have hh6 : r12 = hr t n v.1 := hh6
    have e : μ11 = q := e
    subst e
    have hkk : kf t n (19 - S.length) (fwt fr) (fwn fr) (fwh fr) (fwN fr) (.inr v) = tk t n 41 (bnd (tc t n isSg (.inr v)) (re t n (19 - S.length) (fwN fr))) := by rw [c5, h0]; rfl
    refine pk_ite (fun cs => ?_) (fun cs => ?_)
    · rw [isSg_M, hh6] at cs
      refine pk_bd (q_Mfails hw) ?_
      rintro r19 μ18 ⟨o1, hE, o2⟩
      refine pk_gd (fun _ => pk_some ⟨(d.me hE).mh, Or.inr ⟨o1, Or.inl ⟨v.1, o2, ?_⟩⟩⟩)
      show ck t n S (kf t n _ _ _ _ _ (.inr v)) = _
      rw [hkk, tc_n cs]
      exact ck_l S
    · rw [isSg_M, hh6] at cs
      have cs : isSg (hr t n v.1) = true := by simpa using cs
      refine pk_bd (q_Mhere hw) ?_
      rintro r15 μ14 ⟨e, hh15⟩
      have e : μ14 = μ11 := e
      subst e
      refine pk_gd (fun _ => pk_bvy (fun μ16 e16 => pk_bvy (fun μ17 e17 => pk_some ?_)))
      rw [tn_of ha] at e16
      have d16 : Dq fr S μ μ16 := by
        obtain ⟨a, b, c, e, f⟩ := d
        exact ⟨fun i k x y w u => by rw [e16, sF_i y]; exact a i k x y w u, fun k x y w u => by rw [e16, sF_i (by decide)]; exact b k x y w u, fun i hi => by rw [e16, sF_k (fun ei => hi ⟨ei, c5⟩)]; exact c i hi, fun i hi => by rw [e16, sF_i (by decide)]; exact e i hi, fun j hj => by rw [e16, sF_i (by decide)]; exact f j hj⟩
      have w16 : MwT t n v.1 μ16 := by rw [e16]; exact mw_of hw (by rw [sF_i (by decide)]) (by rw [sF_i (by decide)]) (by rw [sF_i (by decide)]) (fun j => by rw [sF_i (by decide)])
      have w17 : MwT t n (v.1 + 1) μ17 := by rw [e17]; exact mw_next w16 (hr_lt (cls_ne (by decide) cs))
      have hcu : cur N0 (hup fr :: S) = fwN fr := cur_n (fun x => by have := x.1; rw [show fwt (hup fr) = fwt fr from rfl, c5] at this; exact absurd this (by decide))
      have hcu0 : cur N0 (fr :: S) = fwN fr := cur_n (fun x => by have := x.1; rw [c5] at this; exact absurd this (by decide))
      rw [hcu0] at hT
      obtain ⟨hX, hM⟩ := mx_upd h d16 w17 (fun i k x y => by rw [e17, sF_i x]) (fun k x y w u => by rw [e17, sF_k x]) (by rw [e16, sF_i (by decide)]; exact h20) hh (fun _ => by rw [e16, sF_i (by decide)]; exact h18) (fun a ha' => by rw [hcu, e17, sF_i (by decide), e16, sF_i (by decide), q21]; exact hT a ha')
      refine ⟨hM, Or.inl ⟨rfl, _, _, hX, ?_⟩⟩
      rw [el, hcu]
      show ck t n S (kf t n (19 - S.length) (fwt fr) (fwn fr) (fwh fr) (fwN fr) (.inr v)) = ck t n S (kf t n (19 - S.length) (fwt fr) (fwn fr) (fwh fr + 1) (fwN fr) (re t n (19 - S.length) (fwN fr) (v.1 + 1, v.2)))
      congr 1
      rw [hkk, tc_y cs, c5, h0]; rfl
  · have h0 : fwh fr = 0 := by rw [c11] at hh; have : fwh fr + 1 ≤ 1 := hh; omega
    obtain ⟨v1, v2⟩ := hsk.2.2.2.2.2.1 c11
    have hcu : cur N0 (hup fr :: S) = fwn fr :: fwN fr := if_pos ⟨c11, by show fwh fr + 1 = 1; omega⟩
    have hcu0 : cur N0 (fr :: S) = fwN fr := cur_n (fun x => by omega)
    rw [hcu0] at hT
    refine pk_gd (fun _ => pk_bvy (fun v6 e6 => pk_gd (fun _ => pk_gd (fun _ => pk_bvy (fun μ7 e7 => ?_)))))
    have e6 : v6 = fwn fr - 109 := by
      rw [e6, tn_of ha, d.2.2.1 _ (fun x => by rw [c11] at x; exact absurd x.2 (by decide))]; exact v2
    refine comma (Or.inr (Or.inr c11)) μ7 (by rw [e7]; exact mw_of hw (by rw [sF_i (by decide)]) (by rw [sF_i (by decide)]) (by rw [sF_i (by decide)]) (fun j => by rw [sF_i (by decide)])) (fun i k x y => by rw [e7, sF_i y]) (fun k x y w u => by rw [e7, sF_i (by decide)]) ?_
    rw [hcu]
    intro a ha'
    rw [e7, e6]
    by_cases hx : a = fwn fr
    · subst hx
      have h00 := hT (fwn fr) v1
      have hb : ((fwN fr).count (fwn fr)) < 2147483647 := by
        have hl : (fwN fr).count (fwn fr) ≤ (fwN fr).length := List.count_le_length
        have h9 := cur_len hsk.2.2.2.2.2.2.2.2.2
        have h10 : fwN fr = cur N0 S := hsk.2.2.2.2.2.2.2.2.1
        rw [← h10] at h9
        omega
      rw [List.count_cons_self, sF_v, q21, ti_add (by omega) (by omega), h00, e1]; omega
    · have hne' : (a - 109).toNatClampNeg ≠ (fwn fr - 109).toNatClampNeg := fun e => hx (va_inj ha' v1 e)
      rw [List.count_cons_of_ne (Ne.symm hx), sF_k hne', q21]
      exact hT a ha'
  · have h3 : fwt fr = 2 ∨ fwt fr = 7 ∨ fwt fr = 11 := by
      rcases hth with e | e | e | e
      · exact absurd e c5
      · exact Or.inl e
      · exact Or.inr (Or.inl e)
      · exact absurd e c11
    have hcu : cur N0 (hup fr :: S) = fwN fr := cur_n (fun x => c11 x.1)
    have hcu0 : cur N0 (fr :: S) = fwN fr := cur_n (fun x => c11 x.1)
    rw [hcu0] at hT
    exact comma h3 q hw (fun _ _ _ _ => rfl) (fun _ _ _ _ _ => rfl) (by rw [hcu]; intro a ha'; rw [q21]; exact hT a ha')
