theorem q_prog12K {t : Nat → Int32} {n : Nat} {μ : Mem} (hs : Ms t n μ) : pk (p_X12_program μ) (fun r => Kn6 μ r.2 ∧ (∀ k, r.2.1 29 k = μ.1 29 k) ∧ (match rpgP t n 801 (0, [], []) with | .inl _ => Km6 μ r.2 | .inr _ => True)) := by
  rw [p_X12_program_eq]
  refine pk_bd (pk_both (q_Mprog5 hs) (y_X12_readProgram μ)) ?_
  rintro r2 μ1 ⟨hO, hY⟩
  have hY : Yz5 μ μ1 := hY
  obtain ⟨hm, hn⟩ := hY.km
  refine pk_bvy (fun μ3 m3 => ?_)
  cases ho : rpgP t n 801 (0, [], []) with
  | inl f =>
    rw [ho] at hO
    obtain ⟨o1, o2⟩ : r2 = 0 ∧ Mf t n f μ1 := hO
    rw [if_pos o1]
    exact pk_some ⟨⟨fun i k a b => by show μ3.1 i k = _; rw [m3, sF_i (by omega)]; exact hn.1 i k a b, fun k a b => by show μ3.1 0 k = _; rw [m3, sF_k (by omega)]; exact hn.2 k a b⟩, fun k => by show μ3.1 29 k = _; rw [m3, sF_i (by decide)]; exact hm.1 29 k (by omega), fun i k h => by show μ3.1 i k = _; rw [m3, sF_i (by omega)]; exact hm.1 i k h, by show μ3.1 0 17 = _; rw [m3, sF_k (by decide)]; exact hm.2.1, by show μ3.1 0 18 = _; rw [m3, sF_k (by decide)]; exact hm.2.2⟩
  | inr v =>
    rw [ho] at hO
    obtain ⟨o1, _⟩ : r2 = 1 ∧ ∃ p, p ≤ n ∧ Gz5 t n (p, v) μ1 := hO
    rw [if_neg (by rw [o1]; decide)]
    refine pk_bvy (fun μ5 m5 => pk_bvy (fun μ6 m6 => pk_bvy (fun μ7 m7 => ?_)))
    have g7 : ∀ i k, (25 ≤ i ∧ i ≤ 29) ∨ (i = 0 ∧ 42 ≤ k ∧ k ≤ 47) → μ7.1 i k = μ.1 i k := by
      intro i k h
      rcases h with h | ⟨e, h⟩
      · rw [m7, sF_i (by omega), m6, sF_i (by omega), m5, sF_i (by omega), m3, sF_i (by omega)]
        exact hY i k (by unfold Py5; omega)
      · rw [e, m7, sF_k (by omega), m6, sF_k (by omega), m5, sF_k (by omega), m3, sF_k (by omega)]
        exact hn.2 k h.1 h.2
    refine pk_bw (q_copy _ _ _ _ _ _) (fun μ8 h8 => pk_bw (q_copy _ _ _ _ _ _) (fun μ10 h10 => pk_bw (q_copy _ _ _ _ _ _) (fun μ12 h12 => pk_bw (q_copy _ _ _ _ _ _) (fun μ14 h14 => pk_bw (q_copy _ _ _ _ _ _) (fun μ16 h16 => pk_bw (q_copy _ _ _ _ _ _) (fun μ18 h18 => pk_bw (q_copy _ _ _ _ _ _) (fun μ20 h20 => pk_bw (q_copy _ _ _ _ _ _) (fun μ22 h22 => ?_))))))))
    rw [p_X12_layBehind_eq]
    refine pk_bw (pk_bv (q_behf _ _ _)) (fun μ24 h24 => pk_some ?_)
    have g24 : ∀ i k, (25 ≤ i ∧ i ≤ 29) ∨ (i = 0 ∧ 42 ≤ k ∧ k ≤ 47) → μ24.1 i k = μ.1 i k := fun i k h => by
      rw [h24 i k (by omega), h22 i k (by omega), h20 i k (by omega), h18 i k (by omega), h16 i k (by omega), h14 i k (by omega), h12 i k (by omega), h10 i k (by omega), h8 i k (by omega)]
      exact g7 i k h
    exact ⟨⟨fun i k a b => g24 i k (Or.inl (by omega)), fun k a b => g24 0 k (Or.inr ⟨rfl, a, b⟩)⟩, fun k => g24 29 k (Or.inl (by omega)), trivial⟩
theorem rd_0 : Rq5 μX0 μM0 := by
  refine ⟨rc_0, ug_0, Or.inl ⟨by decide, by decide⟩, by decide, ⟨[], ?_, ?_, by decide, fun i x hx => (by cases hx), by decide, Or.inl ⟨rfl, by decide, by decide⟩⟩, Or.inl ⟨by decide, by decide⟩, ⟨[], [], ?_, ⟨by decide, by decide, trivial⟩, Or.inl ⟨rfl, rfl⟩⟩, ?_⟩
  · show PL μX0 (sel 1 18) []
    rw [sel_18]
    exact ⟨⟨by decide, fun i x hx => (by cases hx)⟩, by decide, fun x hx => (by cases hx)⟩
  · show μX0.1 (sel 1 18) 3 = _
    rw [sel_18]; decide
  · show Pc5 μX0 [] []
    unfold Pc5
    show Kw [] ∧ Kt (sel 2 2) [] μX0 ∧ Fs5 (sel 2 2) [] μX0 ∧ Lc (sel 2 2) [] μX0 ∧ (μX0.1 (sel 2 2) 1).toInt = _ ∧ _
    rw [sel_22]
    refine ⟨⟨List.Pairwise.nil, fun x hx => (by cases hx)⟩, ⟨by decide, by decide, fun i hi => (by cases hi), fun k hk => Or.inr ⟨?_, ?_⟩⟩, trivial, ⟨by decide, fun i x hx => (by cases hx)⟩, by decide, by decide, by decide⟩
    · rintro ⟨x, hx, _⟩; cases hx
    · have : ∀ k, k < 72 → μX0.1 5 k = -1 := by decide
      exact this k hk
  · intro k hk
    have : ∀ k, k < 3 → μX0.1 137 k = μM0.1 29 k := by decide
    exact this k (by omega)
theorem rdq_program (μx μm : Mem) (h : Rq5 μx μm) : ok (p_X11_program μx) (fun q => ok (p_X12_program μm) (fun z => Rq5 q.2 z.2 ∧ q.1 = z.1)) := by
  obtain ⟨T, t1, t2, t3⟩ := h.1.T
  have hs : Ms (fun j => μx.1 1 j) T μm := ⟨t2, t3, fun j _ => (h.1.2.1 j).symm⟩
  have hR := h.1.2.2
  obtain ⟨h1, h2, h3, h4, h5, h6, h7⟩ := h.2
  obtain ⟨b1, b2⟩ := rfi_b hR
  obtain ⟨s6, _, s8, _⟩ := rfi_6 hR
  refine ok_imp ?_ (ok_pk (ok_pk (rcq_program μx μm h.1) (q_prog115 t1 t3)) (q_prog11F h1 h2))
  rintro q ⟨⟨q1, q2⟩, q3, q4, q5, q6⟩
  refine ok_imp ?_ (ok_pk (ok_pk q1 (q_prog125 hs)) (q_prog12K hs))
  rintro z ⟨⟨⟨z1, z2⟩, z3⟩, z4, z5, z6⟩
  refine ⟨⟨z1, q3, q4, ?_, h4.of hR (q5.2.2.2 6 (by omega) (by omega)) (fun i k a b => ?_) ⟨fun i k e => z4.1 i k (by omega) (by omega), fun k a b => z4.2 k a (by omega)⟩, h5.of (q5.2.2.2 8 (by omega) (by omega)) q5.2.1 (fun i k a b => ?_) z4, ?_, h7.of q5.2.2.1 z5⟩, z2⟩
  · cases ho : rpgP (fun j => μx.1 1 j) T 801 (0, [], []) with
    | inl f => rw [ho] at q2 z3; exact ti_eq.mpr (Eq.trans q2.2 (Eq.symm z3.2))
    | inr v => rw [ho] at q2 z3; exact Eq.trans q2.2.1 (Eq.symm z3.2.1)
  · rw [s6] at a b; exact q5.1 i k (by omega) (by omega)
  · rw [s8] at a b; exact q5.1 i k (by omega) (by omega)
  · cases ho : rpgP (fun j => μx.1 1 j) T 801 (0, [], []) with
    | inl f =>
      rw [ho] at q2 z3 z6
      have hk : Kp6 μx q.2 := by
        rcases q6 with e | e
        · have f1 : (q.2.1 0 2).toInt = (f : Int) := q2.2
          rw [e] at f1
          exact absurd f1 (by have : (-1 : Int32).toInt = -1 := by decide
                              omega)
        · exact e
      have z6 : Km6 μm z.2 := z6
      exact h6.of hk z6.2 (fun i k a b => z6.1 i k (by omega))
    | inr v =>
      rw [ho] at q2 z3
      exact ⟨v.1, v.2, q2.2.2, z3.2.2, Or.inr ⟨_, _, ho⟩⟩
theorem rdq_task (μx μm : Mem) (h : Rq5 μx μm) : ok (p_X11_task μx) (fun q => ok (p_X12_task μm) (fun z => Rq5 q.2 z.2 ∧ q.1 = z.1)) := by
  obtain ⟨T, t1, t2, t3⟩ := h.1.T
  have hs : Ms (fun j => μx.1 1 j) T μm := ⟨t2, t3, fun j _ => (h.1.2.1 j).symm⟩
  have hR := h.1.2.2
  obtain ⟨h1, h2, h3, h4, h5, h6, h7⟩ := h.2
  obtain ⟨b1, b2⟩ := rfi_b hR
  obtain ⟨s6, s7, s8, _⟩ := rfi_6 hR
  refine ok_imp ?_ (ok_pk (rcq_task μx μm h.1) (q_task11L t1 t3 hR))
  rintro q ⟨q1, q2, q3⟩
  refine ok_imp ?_ (ok_pk q1 (q_task12L hs))
  rintro z ⟨⟨z1, z2⟩, z3, z4⟩
  have hk := q2.kp h2
  have sw : Sw5 q.2 := by unfold Sw5; rw [hk.1, hk.2.1]; exact h2
  have pr := h6.of hk z3.2 (fun i k a b => z3.1 i k (by omega))
  have li := h7.of q2.2.1 (fun k => z3.1 29 k (by omega))
  refine ⟨⟨z1, q2.ug h1, sw, ?_, ?_, ?_, pr, li⟩, z2⟩
  · cases ho : rtL (fun j => μx.1 1 j) T with
    | inl f => rw [ho] at q3 z4; exact ti_eq.mpr (Eq.trans q3.2.1 (Eq.symm z4.2.1))
    | inr v => rw [ho] at q3 z4; exact Eq.trans q3.1 (Eq.symm z4.2.1)
  · cases ho : rtL (fun j => μx.1 1 j) T with
    | inl f =>
      rw [ho] at q3 z4
      obtain ⟨_, _, _, r, c⟩ := q3
      obtain ⟨_, _, kn⟩ := z4
      have kn : Kn6 μm z.2 := kn
      refine h4.of hR (r 6) (fun i k a b => c i k ?_ ?_ ?_) ⟨fun i k e => kn.1 i k (by omega) (by omega), fun k a b => kn.2 k a (by omega)⟩
      · rw [s6] at a b; rw [s7]; have := hR.1; omega
      · rw [s6] at a; omega
      · rw [s6] at b; omega
    | inr v =>
      obtain ⟨j, L⟩ := v
      rw [ho] at q3 z4
      obtain ⟨_, _, _, p, x, hx, key⟩ := q3
      obtain ⟨_, _, y42, y43, y44, y25, y45, _⟩ := z4
      have hxe : z.2.1 0 43 = x := ti_eq.mpr (by rw [y43, hx])
      exact ⟨L, p, by rw [key, y42, hxe, Int32.add_sub_cancel], y44, y25, y45, Or.inr ⟨_, _, j, ho, y42, y43⟩⟩
  · cases ho : rtL (fun j => μx.1 1 j) T with
    | inl f =>
      rw [ho] at q3 z4
      obtain ⟨_, _, e, r, c⟩ := q3
      obtain ⟨_, _, kn⟩ := z4
      have kn : Kn6 μm z.2 := kn
      refine h5.of (r 8) e (fun i k a b => c i k ?_ ?_ ?_) kn
      · rw [s8] at a b; rw [s7]; have := hR.1; omega
      · rw [s8] at a; omega
      · rw [s8] at b; have := hR.2; omega
    | inr v =>
      obtain ⟨j, L⟩ := v
      rw [ho] at q3 z4
      obtain ⟨_, e, _⟩ := q3
      obtain ⟨_, _, _, _, _, _, _, y47⟩ := z4
      exact Or.inl ⟨e, y47⟩
theorem rdq_values (μx μm : Mem) (h : Rq5 μx μm) : ok (p_X11_values μx) (fun q => ok (p_X12_values μm) (fun z => Rq5 q.2 z.2 ∧ q.1 = z.1)) := by
  obtain ⟨T, t1, t2, t3⟩ := h.1.T
  have hs : Ms (fun j => μx.1 1 j) T μm := ⟨t2, t3, fun j _ => (h.1.2.1 j).symm⟩
  have hR := h.1.2.2
  obtain ⟨h1, h2, h3, h4, h5, h6, h7⟩ := h.2
  obtain ⟨b1, b2⟩ := rfi_b hR
  obtain ⟨s6, s7, s8, s9⟩ := rfi_6 hR
  obtain ⟨L, p1, p2, p3, p4, p5, p6⟩ := h4
  have h4 : Ask5 μx μm := ⟨L, p1, p2, p3, p4, p5, p6⟩
  have hm8 : stc L ≤ 30 := Nat.le_trans (stc_le L) p1.2.1
  refine ok_imp ?_ (ok_pk (rc_values μx μm h.1) (q_val11L t1 t3 hR p1))
  rintro q ⟨q1, ⟨q2, qa, qr6, qr7⟩, q3⟩
  refine ok_imp ?_ (ok_pk q1 (q_val12L hs p5 hm8))
  rintro z ⟨z1, z3, za, zb, z4⟩
  have hk := q2.kp h2
  have sw : Sw5 q.2 := by unfold Sw5; rw [hk.1, hk.2.1]; exact h2
  have pr := h6.of hk z3.2 (fun i k a b => z3.1 i k (by omega))
  have li := h7.of q2.2.1 (fun k => z3.1 29 k (by omega))
  have as : Ask5 q.2 z.2 := h4.of hR qr6 (fun i k a b => by rw [s6] at a b; exact qa i k (by omega) (by omega)) ⟨zb, za⟩
  refine ⟨⟨z1, q2.ug h1, sw, ?_, as, ?_, pr, li⟩, ?_⟩
  · cases ho : rvL (fun j => μx.1 1 j) T (stc L) with
    | inl f => rw [ho] at q3 z4; exact ti_eq.mpr (Eq.trans q3.2.1 (Eq.symm z4.2.1))
    | inr V => rw [ho] at q3 z4; exact Eq.trans q3.1 (Eq.symm z4.2.1)
  · cases ho : rvL (fun j => μx.1 1 j) T (stc L) with
    | inl f =>
      rw [ho] at q3 z4
      obtain ⟨_, _, e, r, c⟩ := q3
      obtain ⟨_, _, kn⟩ := z4
      have kn : Kn6 μm z.2 := kn
      refine h5.of (r 8) e (fun i k a b => c i k ?_ ?_ ?_) kn
      · rw [s8] at a b; rw [s9]; have := hR.2; omega
      · rw [s8] at a; omega
      · rw [s8] at b; have := hR.2; omega
    | inr V =>
      rw [ho] at q3 z4
      obtain ⟨_, e, _, hV⟩ := q3
      obtain ⟨_, _, y47, y46, y27⟩ := z4
      exact Or.inr ⟨e, y47, V, _, _, stc L, ho, by rw [za 45 (by omega) (by omega)]; exact p5, hV, y46, y27⟩
  · cases ho : rvL (fun j => μx.1 1 j) T (stc L) with
    | inl f => rw [ho] at q3 z4; exact Eq.trans q3.1 (Eq.symm z4.1)
    | inr V => rw [ho] at q3 z4; exact ti_eq.mpr (Eq.trans q3.2.2.1 (Eq.symm z4.1))
theorem eqv {f g : Option (Int32 × Mem)} {R : Int32 × Mem → Int32 × Mem → Prop} {v : Int32} (h : ok f (fun q => ok g (fun z => R q z))) (hf : pk f (fun q => q.1 = v)) (hg : pk g (fun z => z.1 = v)) : ok f (fun q => ok g (fun z => R q z ∧ q.1 = z.1)) := by
  refine ok_imp ?_ (ok_pk h hf)
  rintro q ⟨q1, q2⟩
  refine ok_imp ?_ (ok_pk q1 hg)
  rintro z ⟨z1, z2⟩
  exact ⟨z1, q2.trans z2.symm⟩
theorem rd_fault (μx μm : Mem) (h : Rq5 μx μm) : ok (p_X11_fault μx) (fun q => ok (p_X12_fault μm) (fun z => Rq5 q.2 z.2)) := rdk h (rc_fault μx μm h.1) (u_X11_fault μx h.2.1) (w_X12_fault μm)
theorem rdq_fault (μx μm : Mem) (h : Rq5 μx μm) : ok (p_X11_fault μx) (fun q => ok (p_X12_fault μm) (fun z => Rq5 q.2 z.2 ∧ q.1 = z.1)) := eqv (rd_fault μx μm h) (v := μx.1 0 2) (by rw [p_X11_fault_eq]; exact pk_some rfl) (by rw [p_X12_fault_eq]; exact pk_some h.2.2.2.1.symm)
theorem rd_is (a1 : Int32) (μx μm : Mem) (h : Rq5 μx μm) : ok (p_X11_is a1 μx) (fun q => ok (p_X12_is a1 μm) (fun z => Rq5 q.2 z.2)) := rdk h (rc_is a1 μx μm h.1) (u_X11_is a1 μx h.2.1) (w_X12_is a1 μm)
theorem rdq_is (a1 : Int32) (μx μm : Mem) (h : Rq5 μx μm) : ok (p_X11_is a1 μx) (fun q => ok (p_X12_is a1 μm) (fun z => Rq5 q.2 z.2 ∧ q.1 = z.1)) := by
  obtain ⟨T, t1, t2, t3⟩ := h.1.T
  obtain ⟨h1, h2, h3, h4, h5, h6, h7⟩ := h.2
  obtain ⟨L, p1, p2, p3, p4, p5, p6⟩ := h4
  obtain ⟨G, C, g1, g2, g3⟩ := h6
  have l17 : μm.1 0 17 = μx.1 (sel 2 (μx.2.2 0 4)) 0 := ti_eq.mpr (by rw [g2.1, g1.2.1.1, map_len])
  have l18 : μm.1 0 18 = μx.1 (sel 2 (μx.2.2 0 4)) 1 := ti_eq.mpr (by rw [g2.2.1, g1.2.2.2.2.1])
  have st : ∀ K : Int32 × Mem → Option (Int32 × Mem), pk (bd (p_X2_stars (sel 1 (μx.2.2 0 6)) μx) (fun r μ => some (r, μ))) (fun q => q.1 = μm.1 0 45) := fun _ => pk_bd (q_stars p1.pm) (fun r μ hr => pk_some (ti_eq.mpr (by rw [p5]; exact hr.2)))
  by_cases c0 : a1 = 0
  · exact eqv (rd_is a1 μx μm h) (by rw [p_X11_is_eq, if_pos c0]; exact pk_some rfl) (by rw [p_X12_is_eq, if_pos c0]; exact pk_some l17)
  by_cases c1 : a1 = 1
  · exact eqv (rd_is a1 μx μm h) (by rw [p_X11_is_eq, if_neg c0, if_pos c1]; exact st some) (by rw [p_X12_is_eq, if_neg c0, if_pos c1]; exact pk_some rfl)
  by_cases c2 : a1 = 2
  · rcases h5 with ⟨e1, e2⟩ | ⟨e1, e2, _⟩
    · exact eqv (v := 0) (rd_is a1 μx μm h) (by rw [p_X11_is_eq, if_neg c0, if_neg c1, if_pos c2, if_pos e1]; exact pk_some rfl) (by rw [p_X12_is_eq, if_neg c0, if_neg c1, if_pos c2]; exact pk_some e2)
    · exact eqv (rd_is a1 μx μm h) (by rw [p_X11_is_eq, if_neg c0, if_neg c1, if_pos c2, if_neg (by rw [e1]; decide)]; exact st some) (by rw [p_X12_is_eq, if_neg c0, if_neg c1, if_pos c2]; exact pk_some e2)
  by_cases c3 : a1 = 3
  · exact eqv (rd_is a1 μx μm h) (by rw [p_X11_is_eq, if_neg c0, if_neg c1, if_neg c2, if_pos c3]; exact pk_some rfl) (by rw [p_X12_is_eq, if_neg c0, if_neg c1, if_neg c2, if_pos c3]; exact pk_gd (fun _ => pk_some (by rw [c3]; exact (h7 0 (by omega)).symm)))
  by_cases c4 : a1 = 4
  · exact eqv (rd_is a1 μx μm h) (by rw [p_X11_is_eq, if_neg c0, if_neg c1, if_neg c2, if_neg c3, if_pos c4]; exact pk_some rfl) (by rw [p_X12_is_eq, if_neg c0, if_neg c1, if_neg c2, if_neg c3, if_pos c4]; exact pk_gd (fun _ => pk_some (by rw [c4]; exact (h7 1 (by omega)).symm)))
  by_cases c5 : a1 = 5
  · exact eqv (rd_is a1 μx μm h) (by rw [p_X11_is_eq, if_neg c0, if_neg c1, if_neg c2, if_neg c3, if_neg c4, if_pos c5]; exact pk_some rfl) (by rw [p_X12_is_eq, if_neg c0, if_neg c1, if_neg c2, if_neg c3, if_neg c4, if_pos c5]; exact pk_gd (fun _ => pk_some (by rw [c5]; exact (h7 2 (by omega)).symm)))
  by_cases c6 : a1 = 6
  · exact eqv (rd_is a1 μx μm h) (by rw [p_X11_is_eq, if_neg c0, if_neg c1, if_neg c2, if_neg c3, if_neg c4, if_neg c5, if_pos c6]; exact pk_some rfl) (by rw [p_X12_is_eq, if_neg c0, if_neg c1, if_neg c2, if_neg c3, if_neg c4, if_neg c5, if_pos c6]; exact pk_some (ti_eq.mpr (by rw [t2, t1])))
  by_cases c7 : a1 = 7
  · exact eqv (rd_is a1 μx μm h) (by rw [p_X11_is_eq, if_neg c0, if_neg c1, if_neg c2, if_neg c3, if_neg c4, if_neg c5, if_neg c6, if_pos c7]; exact pk_some rfl) (by rw [p_X12_is_eq, if_neg c0, if_neg c1, if_neg c2, if_neg c3, if_neg c4, if_neg c5, if_neg c6, if_pos c7]; exact pk_some l18)
  · exact eqv (v := -1) (rd_is a1 μx μm h) (by rw [p_X11_is_eq, if_neg c0, if_neg c1, if_neg c2, if_neg c3, if_neg c4, if_neg c5, if_neg c6, if_neg c7]; exact pk_some rfl) (by rw [p_X12_is_eq, if_neg c0, if_neg c1, if_neg c2, if_neg c3, if_neg c4, if_neg c5, if_neg c6, if_neg c7]; exact pk_some rfl)
