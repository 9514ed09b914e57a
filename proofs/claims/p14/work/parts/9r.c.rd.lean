def PoX (t : Nat → Int32) (n : Nat) (μ : Mem) (a : Nat) (o : Rd (Nat × Nat × Nat)) (q : Mem) : Prop := q.2.2 = μ.2.2 ∧ (∀ i k, i ≠ 16 → i ≠ a → q.1 i k = μ.1 i k) ∧ (match o with | .inl f => Xf t n f q | .inr (p, m, s) => Xw t n p q ∧ Pm q a m s)
theorem xw_of {t : Nat → Int32} {n p a : Nat} {μ q : Mem} (ha : a ≠ 16 ∧ a ≠ 1) (h : Xw t n p μ) (hq : ∀ i k, i ≠ a → q.1 i k = μ.1 i k) : Xw t n p q := by
  obtain ⟨⟨h1, h2, h3⟩, h4, h5, h6⟩ := h
  exact ⟨⟨by rw [hq _ _ (Ne.symm ha.1)]; exact h1, h2, fun j hj => by rw [hq _ _ (Ne.symm ha.2)]; exact h3 j hj⟩, by rw [hq _ _ (Ne.symm ha.1)]; exact h4, by rw [hq _ _ (Ne.symm ha.1)]; exact h5, h6⟩
theorem num_X (c : Int32) : (s_X4_isNumber c = 0) ↔ ¬ (c = 45 ∨ isD c = true) := by
  rw [s_X4_isNumber_eq]
  by_cases h : c = 45
  · rw [if_pos h]; exact ⟨fun e => absurd e (by decide), fun e => absurd (Or.inl h) e⟩
  · rw [if_neg h]
    by_cases h2 : s_X4_isDigit c = 0
    · rw [if_pos h2]
      have := (isD_X c).mp h2
      exact ⟨fun _ e => e.elim h (fun e => by rw [this] at e; exact absurd e (by decide)), fun _ => rfl⟩
    · rw [if_neg h2]
      have h3 : isD c = true := by
        cases hd : isD c with
        | true => rfl
        | false => exact absurd ((isD_X c).mpr hd) h2
      exact ⟨fun e => absurd e (by decide), fun e => absurd (Or.inr h3) e⟩
theorem kd_pair : s_X0_kind (8589934592 : Int64) ≠ 4 := by rw [s_X0_kind_eq]; decide
theorem kd_star : s_X0_kind (17179869184 : Int64) = 4 := by rw [s_X0_kind_eq]; decide
theorem kd_num {k : Int32} (b : Int32) (hk : k = 0 ∨ k = 1) : s_X0_kind (s_X0_make k b) ≠ 4 := by
  rcases hk with rfl | rfl
  · have h : s_X0_kind (s_X0_make 0 b) = 0 := by
      rw [s_X0_kind_eq, s_X0_make_eq]
      show ((x_make 0 b).toUInt64 >>> ((32 : Int32).toInt64.toUInt64 &&& Int64.toUInt64 63)).toInt64.toInt32 = 0
      have hk := b.toBitVec.isLt
      rw [x_make0, show ((32 : Int32).toInt64.toUInt64 &&& Int64.toUInt64 63) = ((nI 32).toInt64.toUInt64 &&& Int64.toUInt64 63) from rfl, wb_shr (by omega) (by decide), lN_i, show b.toBitVec.toNat / 2 ^ 32 = 0 by omega]
      rfl
    rw [h]; decide
  · have h : s_X0_kind (s_X0_make 1 b) = 1 := by
      rw [s_X0_kind_eq, s_X0_make_eq]; exact x_kind_make b
    rw [h]; decide
theorem q_Xnumk (μ : Mem) : pk (p_X4_readNumber μ) (fun r => s_X0_kind r.1 ≠ 4) := by
  have b52 : ∀ (a1 a2 : Int32) (q : Mem), pk (p_X4_readNumber_b52 a1 a2 q) (fun r => s_X0_kind r.1 ≠ 4) := by
    intro a1 a2 q
    rw [p_X4_readNumber_b52_eq]
    exact pk_ite (fun _ => pk_some (kd_num _ (Or.inl rfl))) (fun _ => pk_some (kd_num _ (Or.inl rfl)))
  have b95 : ∀ (fu : Nat) (a1 a2 a4 a5 : Int32) (q : Mem), pk (p_X4_readNumber_b95 fu a1 a2 a4 a5 q) (fun r => s_X0_kind r.1 ≠ 4) := by
    intro fu
    induction fu with
    | zero => intro a1 a2 a4 a5 q r e; rw [p_X4_readNumber_b95_z] at e; cases e
    | succ fu ih =>
      intro a1 a2 a4 a5 q
      rw [p_X4_readNumber_b95_s]
      refine pk_ite (fun _ => pk_ite (fun _ => ?_) (fun _ => ?_)) (fun _ => pk_bv (pk_bv (ih _ _ _ _ _)))
      · rw [p_X4_readNumber_b128_eq]; exact pk_bv (pk_bv (pk_some (kd_num _ (Or.inr rfl))))
      · rw [p_X4_readNumber_b128_eq]; exact pk_bv (pk_bv (pk_some (kd_num _ (Or.inr rfl))))
  have tt : ∀ {α : Type} (x : Option α), pk x (fun _ => True) := fun _ _ _ => trivial
  have b29 : ∀ (a1 : Int32) (q : Mem), pk (p_X4_readNumber_b29 a1 q) (fun r => s_X0_kind r.1 ≠ 4) := by
    intro a1 q
    rw [p_X4_readNumber_b29_eq]
    exact pk_bd (tt _) (fun _ _ _ => pk_bd (tt _) (fun _ _ _ => pk_ite (fun _ => b52 _ _ _) (fun _ => pk_bd (tt _) (fun _ _ _ => pk_ite (fun _ => pk_bv (pk_bv (pk_bd (tt _) (fun _ _ _ => b95 _ _ _ _ _ _)))) (fun _ => b52 _ _ _)))))
  rw [p_X4_readNumber_eq]
  refine pk_bd (tt _) (fun _ _ _ => pk_ite (fun _ => ?_) (fun _ => ?_))
  · rw [p_X4_readNumber_b14_eq]; exact pk_ite (fun _ => b29 _ _) (fun _ => pk_bv (b29 _ _))
  · rw [p_X4_readNumber_b14_eq]; exact pk_ite (fun _ => b29 _ _) (fun _ => pk_bv (b29 _ _))
theorem pk_both {α : Type} {o : Option α} {P Q : α → Prop} (h : pk o P) (h2 : pk o Q) : pk o (fun r => P r ∧ Q r) := fun r e => ⟨h r e, h2 r e⟩
theorem xf_of {t : Nat → Int32} {n p a : Nat} {μ q : Mem} (ha : a ≠ 16 ∧ a ≠ 1) (h : Xf t n p μ) (hq : ∀ i k, i ≠ a → q.1 i k = μ.1 i k) : Xf t n p q := by
  obtain ⟨⟨h1, h2, h3⟩, h4⟩ := h
  exact ⟨⟨by rw [hq _ _ (Ne.symm ha.1)]; exact h1, h2, fun j hj => by rw [hq _ _ (Ne.symm ha.2)]; exact h3 j hj⟩, by rw [hq _ _ (Ne.symm ha.1)]; exact h4⟩
theorem q_paddf {μ : Mem} (a : Nat) (tok z : Int64) : pk (p_X2_add a tok z μ) (fun q => q.2.2 = μ.2.2 ∧ (∀ i k, i ≠ a → q.1 i k = μ.1 i k)) := by
  rw [p_X2_add_eq]
  refine pk_ite (fun c => pk_some ⟨rfl, fun _ _ _ => rfl⟩) (fun c => pk_gd (fun _ => pk_bv (pk_gd (fun _ => pk_bv (pk_bv (pk_some ⟨?_, ?_⟩))))))
  · rw [sF_2, sL_3, sL_3]
  · intro i k hi
    rw [sF_i hi, sL_1, sL_1]
theorem q_Xpartf {t : Nat → Int32} {n f a : Nat} {a2 a3 : Int32} (k : Nat) {μ : Mem} (h : Xf t n f μ) : pk (pr_X4_readPart k a a2 a3 μ) (fun q => q = μ) := by
  cases k with
  | zero => intro r e; rw [pr_X4_readPart_z] at e; cases e
  | succ k =>
    rw [pr_X4_readPart_s, p_X4_readPart_eq]
    refine pk_bd q_Xwell ?_
    rintro r2 μ1 ⟨e, hw⟩
    have e : μ1 = μ := e
    subst e
    have hw : (r2 = 1 ∧ μ1.1 16 3 = -1) ∨ (r2 = 0 ∧ μ1.1 16 3 ≠ -1) := hw
    rcases hw with ⟨_, b⟩ | ⟨a, _⟩
    · exact absurd b (xf_bad h)
    · rw [if_pos a]; exact pk_some rfl
theorem rp_mono {t : Nat → Int32} {n sl : Nat} : ∀ {k p m s p1 m1 s1 : Nat}, rp t n sl k p m s = .inr (p1, m1, s1) → m + 0 ≤ m1 := by
  intro k
  induction k with
  | zero => intro p m s p1 m1 s1 h; exact absurd h (by unfold rp; simp)
  | succ k ih =>
    intro p m s p1 m1 s1 h
    unfold rp at h
    by_cases c : 30 ≤ m
    · rw [if_pos c] at h; cases h
    rw [if_neg c] at h
    by_cases c1 : hr t n p = 91
    · rw [if_pos c1] at h
      cases e : rp t n sl k (p + 1) (m + 1) s with
      | inl f => rw [e] at h; cases h
      | inr v =>
        obtain ⟨p2, m2, s2⟩ := v
        rw [e] at h
        have i1 := ih e
        dsimp only at h
        by_cases c2 : hr t n p2 = 44
        · rw [if_pos c2] at h
          cases e2 : rp t n sl k (p2 + 1) m2 s2 with
          | inl f => rw [e2] at h; cases h
          | inr v =>
            obtain ⟨p3, m3, s3⟩ := v
            rw [e2] at h
            have i2 := ih e2
            dsimp only at h
            by_cases c3 : hr t n p3 = 93
            · rw [if_pos c3] at h; cases h; omega
            · rw [if_neg c3] at h; cases h
        · rw [if_neg c2] at h; cases h
    · rw [if_neg c1] at h
      by_cases c2 : hr t n p = 45 ∨ isD (hr t n p) = true
      · rw [if_pos c2] at h
        cases e : rn t n p with
        | inl f => rw [e] at h; cases h
        | inr v => rw [e] at h; cases h; omega
      · rw [if_neg c2] at h
        by_cases c3 : hr t n p = 42 ∧ s < sl
        · rw [if_pos c3] at h; cases h; omega
        · rw [if_neg c3] at h; cases h
set_option maxHeartbeats 2000000 in
theorem q_Xpart {t : Nat → Int32} {n a sl : Nat} {a2 : Int32} (hs : sh 0 a = (0, 1)) (ha : a ≠ 16 ∧ a ≠ 1) (h2 : a2.toInt = (sl : Int)) : ∀ (k p m s : Nat) (a3 : Int32) (μ : Mem), a3.toInt ≤ (m : Int) → Xw t n p μ → Pm μ a m s → pk (pr_X4_readPart k a a2 a3 μ) (PoX t n μ a (rp t n sl k p m s)) := by
  have e1 : (1 : Int32).toInt = 1 := by decide
  have e30 : (30 : Int32).toInt = 30 := by decide
  intro k
  induction k with
  | zero => intro p m s a3 μ _ _ _ r e; rw [pr_X4_readPart_z] at e; cases e
  | succ k ih =>
    intro p m s a3 μ h3 hw hP
    rw [pr_X4_readPart_s, p_X4_readPart_eq]
    refine pk_bd q_Xwell ?_
    rintro r2 μ1 ⟨e, hw1⟩
    have e : μ1 = μ := e
    subst e
    have hw1 : (r2 = 1 ∧ μ1.1 16 3 = -1) ∨ (r2 = 0 ∧ μ1.1 16 3 ≠ -1) := hw1
    have r1 : r2 = 1 := by
      rcases hw1 with ⟨a, _⟩ | ⟨_, b⟩
      · exact a
      · exact absurd hw.2.1 b
    rw [if_neg (by rw [r1]; decide)]
    refine pk_bd (q_Xhere hw) ?_
    rintro r5 μ4 ⟨e, hh⟩
    have e : μ4 = μ1 := e
    subst e
    have hh : r5 = hr t n p := hh
    rw [hh]
    have hfail : pk (bw (p_X4_fail (μ4.1 16 2) μ4) (fun μ7 => some μ7)) (PoX t n μ4 a (.inl p)) := pk_bw (q_Xfail hw) (fun q hq => pk_some ⟨by rw [hq.1.1], fun i k hi _ => hq.1.2.2 i k hi, hq.2⟩)
    show pk _ (PoX t n μ4 a (if 30 ≤ m then .inl p else _))
    refine pk_ite (fun c => ?_) (fun c => ?_)
    · rw [ti_le, e30, hP.1] at c
      rw [if_pos (by omega)]; exact hfail
    · rw [ti_le, e30, hP.1] at c
      have hm : m < 30 := by omega
      rw [if_neg (show ¬ 30 ≤ m by omega), if_pos (by rw [ti_le, e30]; omega)]
      refine pk_ite (fun c1 => pk_bv ?_) (fun c1 => ?_)
      · rw [if_pos c1]
        have hp := hr_lt (t := t) (n := n) (p := p) (by rw [c1]; decide)
        have hw27 := xw_next hw hp
        have hE27 : Xe μ4 (sF μ4 16 2 (μ4.1 16 2 + 1)) := Xe.put (by decide) _
        refine pk_bw (q_padd hs (hP.xe ha.1 hE27) hm _ _) ?_
        rintro μ28 ⟨hP28, h28, h28'⟩
        rw [show st1 (8589934592 : Int64) = 0 from if_neg kd_pair, Nat.add_zero] at hP28
        have hw28 := xw_of ha hw27 h28'
        have f28 : μ28.2.2 = μ4.2.2 := by rw [h28]; rfl
        have g28 : ∀ i k, i ≠ 16 → i ≠ a → μ28.1 i k = μ4.1 i k := fun i k h1 h2 => by rw [h28' i k h2, hE27.2.2 i k h1]
        refine pk_bw (ih (p + 1) (m + 1) s _ μ28 (by rw [ti_add (by have := ti_lo a3; omega) (by have := ti_hi a3; omega), e1]; omega) hw28 hP28) ?_
        intro μ30 hO
        obtain ⟨f30, g30, hO⟩ := hO
        have f30' : μ30.2.2 = μ4.2.2 := by rw [f30, f28]
        have g30' : ∀ i k, i ≠ 16 → i ≠ a → μ30.1 i k = μ4.1 i k := fun i k h1 h2 => by rw [g30 i k h1 h2, g28 i k h1 h2]
        cases hrp : rp t n sl k (p + 1) (m + 1) s with
        | inl f =>
          rw [hrp] at hO
          have hO : Xf t n f μ30 := hO
          refine pk_bd (q_Xtakef 44 hO) ?_
          intro r33 μ32 e
          have e : μ32 = μ30 := e
          subst e
          refine pk_bw (q_Xpartf k hO) ?_
          intro μ34 e
          have e : μ34 = μ32 := e
          subst e
          refine pk_bd (q_Xtakef 93 hO) ?_
          intro r37 μ36 e
          have e : μ36 = μ34 := e
          subst e
          exact pk_some ⟨f30', g30', hO⟩
        | inr v =>
          obtain ⟨p1, m1, s1⟩ := v
          rw [hrp] at hO
          have hO : Xw t n p1 μ30 ∧ Pm μ30 a m1 s1 := hO
          show pk _ (PoX t n μ4 a (if hr t n p1 = 44 then _ else .inl p1))
          refine pk_bd (q_Xtake (c := 44) (by decide) hO.1) ?_
          rintro r33 μ32 ⟨hE32, hO32⟩
          have hE32 : Xe μ30 μ32 := hE32
          have f32 : μ32.2.2 = μ4.2.2 := by rw [hE32.1]; exact f30'
          have g32 : ∀ i k, i ≠ 16 → i ≠ a → μ32.1 i k = μ4.1 i k := fun i k h1 h2 => by rw [hE32.2.2 i k h1, g30' i k h1 h2]
          by_cases c2 : hr t n p1 = 44
          · rw [if_pos c2] at hO32
            have hO32 : Xw t n (p1 + 1) μ32 := hO32
            rw [if_pos c2]
            have hP32 := hO.2.xe ha.1 hE32
            have hm1 : m + 1 + 0 ≤ m1 := rp_mono hrp
            refine pk_bw (ih (p1 + 1) m1 s1 _ μ32 (by rw [ti_add (by have := ti_lo a3; omega) (by have := ti_hi a3; omega), e1]; omega) hO32 hP32) ?_
            intro μ34 hO34
            obtain ⟨f34, g34, hO34⟩ := hO34
            have f34' : μ34.2.2 = μ4.2.2 := by rw [f34, f32]
            have g34' : ∀ i k, i ≠ 16 → i ≠ a → μ34.1 i k = μ4.1 i k := fun i k h1 h2 => by rw [g34 i k h1 h2, g32 i k h1 h2]
            cases hrp2 : rp t n sl k (p1 + 1) m1 s1 with
            | inl f =>
              rw [hrp2] at hO34
              have hO34 : Xf t n f μ34 := hO34
              refine pk_bd (q_Xtakef 93 hO34) ?_
              intro r37 μ36 e
              have e : μ36 = μ34 := e
              subst e
              exact pk_some ⟨f34', g34', hO34⟩
            | inr v2 =>
              obtain ⟨p2, m2, s2⟩ := v2
              rw [hrp2] at hO34
              have hO34 : Xw t n p2 μ34 ∧ Pm μ34 a m2 s2 := hO34
              show pk _ (PoX t n μ4 a (if hr t n p2 = 93 then .inr (p2 + 1, m2, s2) else .inl p2))
              refine pk_bd (q_Xtake (c := 93) (by decide) hO34.1) ?_
              rintro r37 μ36 ⟨hE36, hO36⟩
              have hE36 : Xe μ34 μ36 := hE36
              refine pk_some ⟨by rw [hE36.1]; exact f34', fun i k h1 h2 => by rw [hE36.2.2 i k h1, g34' i k h1 h2], ?_⟩
              by_cases c3 : hr t n p2 = 93
              · rw [if_pos c3] at hO36 ⊢
                exact ⟨hO36, hO34.2.xe ha.1 hE36⟩
              · rw [if_neg c3] at hO36 ⊢
                exact hO36
          · rw [if_neg c2] at hO32
            have hO32 : Xf t n p1 μ32 := hO32
            rw [if_neg c2]
            refine pk_bw (q_Xpartf k hO32) ?_
            intro μ34 e
            have e : μ34 = μ32 := e
            subst e
            refine pk_bd (q_Xtakef 93 hO32) ?_
            intro r37 μ36 e
            have e : μ36 = μ34 := e
            subst e
            exact pk_some ⟨f32, g32, hO32⟩
      · rw [if_neg c1]
        refine pk_ite (fun c2 => ?_) (fun c2 => ?_)
        · rw [num_X] at c2
          rw [if_neg c2]
          refine pk_ite (fun c3 => ?_) (fun c3 => ?_)
          · refine pk_bd (q_stars hP) ?_
            rintro r16 μ15 ⟨e, hst⟩
            have e : μ15 = μ4 := e
            subst e
            have hst : r16.toInt = (s : Int) := hst
            refine pk_ite (fun c4 => ?_) (fun c4 => pk_bv ?_)
            · rw [ti_le, h2, hst] at c4
              rw [if_neg (fun h => by omega)]; exact hfail
            · rw [ti_le, h2, hst] at c4
              rw [if_pos ⟨c3, by omega⟩]
              have hp := hr_lt (t := t) (n := n) (p := p) (by rw [c3]; decide)
              have hE20 : Xe μ15 (sF μ15 16 2 (μ15.1 16 2 + 1)) := Xe.put (by decide) _
              refine pk_bw (q_padd hs (hP.xe ha.1 hE20) hm _ _) ?_
              rintro μ21 ⟨hP21, h21, h21'⟩
              rw [show st1 (17179869184 : Int64) = 1 from if_pos kd_star] at hP21
              exact pk_some ⟨by rw [h21]; rfl, fun i k h1 h2 => by rw [h21' i k h2, hE20.2.2 i k h1], xw_of ha (xw_next hw hp) h21', hP21⟩
          · rw [if_neg (fun h => c3 h.1)]; exact hfail
        · rw [num_X] at c2
          have c2 : hr t n p = 45 ∨ isD (hr t n p) = true := Classical.not_not.mp c2
          rw [if_pos c2]
          refine pk_bd (pk_both (q_Xnumber hw) (q_Xnumk μ4)) ?_
          rintro r24 μ23 ⟨⟨hE23, hO23⟩, hk⟩
          have hE23 : Xe μ4 μ23 := hE23
          have hk : s_X0_kind r24 ≠ 4 := hk
          cases hrn : rn t n p with
          | inl f =>
            rw [hrn] at hO23
            have hO23 : Xf t n f μ23 := hO23
            refine pk_bw (q_paddf a r24 0) ?_
            rintro μ25 ⟨h25, h25'⟩
            exact pk_some ⟨by rw [h25, hE23.1], fun i k h1 h2 => by rw [h25' i k h2, hE23.2.2 i k h1], xf_of ha hO23 h25'⟩
          | inr q =>
            rw [hrn] at hO23
            have hO23 : Xw t n q μ23 := hO23
            refine pk_bw (q_padd hs (hP.xe ha.1 hE23) hm r24 0) ?_
            rintro μ25 ⟨hP25, h25, h25'⟩
            rw [show st1 r24 = 0 from if_neg hk, Nat.add_zero] at hP25
            exact pk_some ⟨by rw [h25, hE23.1], fun i k h1 h2 => by rw [h25' i k h2, hE23.2.2 i k h1], xw_of ha hO23 h25', hP25⟩
