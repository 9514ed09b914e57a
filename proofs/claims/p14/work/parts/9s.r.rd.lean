theorem dq_20 {fr : Fw} {S : List Fw} {μ q : Mem} {x : Int32} (e : q = sF μ 20 S.length x) : Dq fr S μ q :=
  ⟨fun i k _ _ _ h => by rw [e, sF_i h], fun k _ _ _ _ => by rw [e, sF_i (by decide)], fun i _ => by rw [e, sF_i (by decide)], fun i _ => by rw [e, sF_i (by decide)], fun j hj => by rw [e, sF_k hj]⟩
theorem q_Mmore {t : Nat → Int32} {n F b : Nat} {N0 : List Int32} (hN0 : N0.length ≤ 5) : ∀ (fu : Nat) (S : List Fw) (v : Nat × Nat) (μ : Mem), Mx4 t n F b N0 S v μ → pk (p_X12_hasMore_b0 fu μ) (Hm t n F b N0 μ (ck t n S (.inr v))) := by
  have e0 : (0 : Int32).toInt = 0 := by decide
  have e1 : (1 : Int32).toInt = 1 := by decide
  have e5 : (5 : Int32).toInt = 5 := by decide
  intro fu
  induction fu with
  | zero => intro S v μ _ r e; rw [p_X12_hasMore_b0_z] at e; cases e
  | succ fu ih =>
    intro S v μ h
    rw [p_X12_hasMore_b0_s]
    cases S with
    | nil =>
      have h6 : (μ.1 0 32).toInt = 0 := h.2.2.2.1
      rw [if_pos (by rw [ti_le, e0]; omega)]
      exact pk_some ⟨Mh.rf, Or.inr ⟨rfl, Or.inr ⟨v, h, rfl⟩⟩⟩
    | cons fr S =>
      have h6 : (μ.1 0 32).toInt = (S.length : Int) + 1 := by rw [h.2.2.2.1]; simp
      have h7 : S.length + 1 ≤ 20 := h.2.2.2.2.1
      have hsk := h.2.2.2.2.2.1
      obtain ⟨s1, s2, s3, s4, s5, s6, s7, s8, s9, s10⟩ := hsk
      have hT := h.2.2.2.2.2.2
      have ix : ((μ.1 0 32) - 1).toNatClampNeg = S.length := tn_of (by rw [ti_sub (by omega) (by omega), h6, e1]; omega)
      rw [if_neg (by rw [ti_le, e0]; omega)]
      refine pk_gd (fun _ => pk_bvy (fun v2 e2 => pk_bvy (fun v3 e3 => pk_gd (fun _ => pk_gd (fun _ => pk_bvy (fun μ4 e4 => pk_gd (fun _ => pk_bvy (fun v5 e5' => pk_gd (fun _ => pk_bvy (fun v6 e6 => ?_))))))))))
      rw [ix] at e2
      rw [e3, ix] at e4
      have ha : v2.toInt = (fwo fr : Int) := by rw [e2]; exact s2
      have hhb : fwh fr ≤ 4 := by
        have : hmx (fwt fr) ≤ 4 := by
          unfold hmx; split
          · omega
          · split
            · omega
            · split <;> omega
        omega
      have d4 : Dq fr S μ μ4 := dq_20 e4
      have h20 : (μ4.1 20 S.length).toInt = ((fwh fr + 1 : Nat) : Int) := by
        rw [e4, sF_v, ti_add (by omega) (by omega), s3, e1]; omega
      have h32 : μ4.1 0 32 = μ.1 0 32 := by rw [e4, sF_i (by decide)]
      have h5 : v5.toInt = ((fwh fr + 1 : Nat) : Int) := by rw [e5', h32, ix]; exact h20
      have e6 : v6 = fwt fr := by rw [e6, tn_of ha, e4, sF_i (by decide)]; exact s4
      subst e6
      have w4 : MwT t n v.1 μ4 := by rw [e4]; exact mw_of h.1 (by rw [sF_i (by decide)]) (by rw [sF_i (by decide)]) (by rw [sF_i (by decide)]) (fun j => by rw [sF_i (by decide)])
      have h18 : fwt fr ≠ 12 → μ4.1 18 (fwo fr) = bel (fwt fr) := fun e => by rw [e4, sF_i (by decide)]; exact s7 e
      refine pk_ite (fun c12 => ?_) (fun c12 => ?_)
      ·
        have h4 : fwh fr ≤ 4 := hhb
        have hcu0 : cur N0 (fr :: S) = fwN fr := cur_n (fun x => by have := x.1; rw [c12] at this; exact absurd this (by decide))
        have hkf : kf t n (19 - S.length) (fwt fr) (fwn fr) (fwh fr) (fwN fr) (.inr v) = tk t n 41 (mos t n (re t n (19 - S.length) (fwN fr)) (4 - fwh fr) (.inr v)) := by rw [c12]; rfl
        have shut : kf t n (19 - S.length) (fwt fr) (fwn fr) (fwh fr) (fwN fr) (.inr v) = tk t n 41 (.inr v) → pk (p_X12_hasMore_b85 (p_X12_hasMore_b0 fu) v2 v5 (fwt fr) μ4) (Hm t n F b N0 μ (ck t n (fr :: S) (.inr v))) := by
          intro hk
          rw [p_X12_hasMore_b85_eq, if_pos c12]
          refine pk_gd (fun _ => pk_bvy (fun μ25 e25 => ?_))
          rw [tn_of ha] at e25
          rw [p_X12_hasMore_b98_eq]
          refine pk_gd (fun _ => ?_)
          rw [if_pos (by rw [tn_of ha, e25, sF_v, ti_le]; omega), if_neg (by rw [c12]; decide), if_neg (by rw [c12]; decide), if_pos c12, p_X12_hasMore_b132_eq]
          have d25 : Dq fr S μ μ25 := by
            obtain ⟨a, b, c, e, f⟩ := d4
            exact ⟨fun i k x y w u => by rw [e25, sF_i w]; exact a i k x y w u, fun k x y w u => by rw [e25, sF_i (by decide)]; exact b k x y w u, fun i hi => by rw [e25, sF_i (by decide)]; exact c i hi, fun i hi => by rw [e25, sF_k (fun ei => hi ⟨ei, c12⟩)]; exact e i hi, fun j hj => by rw [e25, sF_i (by decide)]; exact f j hj⟩
          have w25 : MwT t n v.1 μ25 := by rw [e25]; exact mw_of w4 (by rw [sF_i (by decide)]) (by rw [sF_i (by decide)]) (by rw [sF_i (by decide)]) (fun j => by rw [sF_i (by decide)])
          exact hq_148 ih h d25 w25 ha (fun e => by rw [c12] at e; exact absurd e (by decide)) (by rw [if_neg (by decide)]; exact hk)
        refine pk_bd (q_Mhere w4) ?_
        rintro r27 μ26 ⟨e, hh6⟩
        have hh6 : r27 = hr t n v.1 := hh6
        have e : μ26 = μ4 := e
        subst e
        refine pk_ite (fun c44 => pk_ite (fun c5 => ?_) (fun c5 => ?_)) (fun c44 => ?_)
        · rw [ti_le, e5, h5] at c5
          refine shut ?_
          rw [hkf, show 4 - fwh fr = 0 by omega]; rfl
        · rw [ti_le, e5, h5] at c5
          rw [hh6] at c44
          refine pk_bvy (fun μ30 e30 => pk_some ?_)
          have w30 : MwT t n (v.1 + 1) μ30 := by rw [e30]; exact mw_next w4 (hr_lt (by rw [c44]; decide))
          have hcu : cur N0 (hup fr :: S) = fwN fr := cur_n (fun x => by have := x.1; rw [show fwt (hup fr) = fwt fr from rfl, c12] at this; exact absurd this (by decide))
          rw [hcu0] at hT
          obtain ⟨hX, hM⟩ := mx_upd h d4 w30 (fun i k x y => by rw [e30, sF_i x]) (fun k x y w u => by rw [e30, sF_k x]) h20 (by rw [c12]; show fwh fr + 1 ≤ 4; omega) (fun e => absurd c12 e) (fun a ha' => by rw [hcu, e30, sF_i (by decide), d4.1 21 _ (by decide) (by decide) (by decide) (by decide)]; exact hT a ha')
          refine ⟨hM, Or.inl ⟨rfl, _, _, hX, ?_⟩⟩
          rw [hcu, show 20 - (hup fr :: S).length = 19 - S.length by show 20 - (S.length + 1) = _; omega]
          show ck t n S (kf t n (19 - S.length) (fwt fr) (fwn fr) (fwh fr) (fwN fr) (.inr v)) = ck t n S (kf t n (19 - S.length) (fwt fr) (fwn fr) (fwh fr + 1) (fwN fr) (re t n (19 - S.length) (fwN fr) (v.1 + 1, v.2)))
          congr 1
          rw [hkf, show 4 - fwh fr = (4 - (fwh fr + 1)) + 1 by omega, mos_y c44, c12]; rfl
        · rw [hh6] at c44
          refine shut ?_
          rw [hkf, mos_n c44]
      ·
        have hbe := h18 c12
        rw [p_X12_hasMore_b85_eq, if_neg c12, p_X12_hasMore_b98_eq]
        refine pk_gd (fun _ => ?_)
        rw [tn_of ha, hbe]
        have go : fwh fr + 1 ≤ hmx (fwt fr) → (fwt fr = 5 ∨ fwt fr = 2 ∨ fwt fr = 7 ∨ fwt fr = 11) → pk (bd (p_X12_goesOn v2 (fwt fr) μ4) (fun r23 μ22 => gd (isB r23) (some (r23, μ22)))) (Hm t n F b N0 μ (ck t n (fr :: S) (.inr v))) := fun a b => pk_bd (hm_go hN0 h d4 w4 ha h20 a c12 b) (fun r q hq => pk_gd (fun _ => pk_some hq))
        rcases s5 with c | c | c | c | c | c | c | c
        · have hm : fwh fr ≤ 1 := by rw [c] at s8; exact s8
          have hb2 : (bel (fwt fr)).toInt = 2 := by rw [c]; decide
          refine pk_ite (fun cc => ?_) (fun cc => go (by rw [ti_le, hb2, h5] at cc; rw [c]; show fwh fr + 1 ≤ 1; omega) (Or.inl c))
          rw [ti_le, hb2, h5] at cc
          rw [if_pos c, p_X12_hasMore_b132_eq]
          exact hq_148 ih h d4 w4 ha (fun e => by rw [c] at e; exact absurd e (by decide)) (by rw [if_neg (by decide), c, show fwh fr = 1 by omega]; rfl)
        · have hm : fwh fr ≤ 1 := by rw [c] at s8; exact s8
          have hb2 : (bel (fwt fr)).toInt = 2 := by rw [c]; decide
          refine pk_ite (fun cc => ?_) (fun cc => go (by rw [ti_le, hb2, h5] at cc; rw [c]; show fwh fr + 1 ≤ 1; omega) (Or.inr (Or.inl c)))
          rw [ti_le, hb2, h5] at cc
          rw [if_neg (by rw [c]; decide), if_neg (by rw [c]; decide), if_neg (by rw [c]; decide), if_pos c]
          exact hq_148 ih h d4 w4 ha (fun e => by rw [c] at e; exact absurd e (by decide)) (by rw [if_neg (by decide), c, show fwh fr = 1 by omega]; rfl)
        · have hm : fwh fr ≤ 2 := by rw [c] at s8; exact s8
          have hb2 : (bel (fwt fr)).toInt = 3 := by rw [c]; decide
          refine pk_ite (fun cc => ?_) (fun cc => go (by rw [ti_le, hb2, h5] at cc; rw [c]; show fwh fr + 1 ≤ 2; omega) (Or.inr (Or.inr (Or.inl c))))
          rw [ti_le, hb2, h5] at cc
          rw [if_neg (by rw [c]; decide), if_pos c, p_X12_hasMore_b132_eq]
          exact hq_148 ih h d4 w4 ha (fun e => by rw [c] at e; exact absurd e (by decide)) (by rw [if_neg (by decide), c, show fwh fr = 2 by omega]; rfl)
        · have hm : fwh fr ≤ 1 := by rw [c] at s8; exact s8
          have hb2 : (bel (fwt fr)).toInt = 2 := by rw [c]; decide
          refine pk_ite (fun cc => ?_) (fun cc => go (by rw [ti_le, hb2, h5] at cc; rw [c]; show fwh fr + 1 ≤ 1; omega) (Or.inr (Or.inr (Or.inr c))))
          rw [ti_le, hb2, h5] at cc
          rw [if_neg (by rw [c]; decide), if_neg (by rw [c]; decide), if_neg (by rw [c]; decide), if_neg (by rw [c]; decide)]
          exact hq_148 ih h d4 w4 ha (fun e => by omega) (by rw [if_pos rfl, c, show fwh fr = 1 by omega]; rfl)
        · exact absurd c c12
        all_goals
          have hm : fwh fr ≤ 0 := by rw [c] at s8; exact s8
          have hb2 : (bel (fwt fr)).toInt = 1 := by rw [c]; decide
          rw [if_pos (by rw [ti_le, hb2, h5]; omega), if_neg (by rw [c]; decide), if_neg (by rw [c]; decide), if_neg (by rw [c]; decide), if_neg (by rw [c]; decide)]
          exact hq_148 ih h d4 w4 ha (fun e => by rw [c] at e; exact absurd e (by decide)) (by rw [if_pos rfl, c]; rfl)
