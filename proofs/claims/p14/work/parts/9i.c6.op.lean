theorem pk_bsq {α β : Type} {x : Option α} {f : α → Option β} {P : α → Prop} {Q : β → Prop} (hx : pk x P) (h : ∀ a, P a → pk (f a) Q) : pk (bs x f) Q := by
  intro r e
  cases hx2 : x with
  | none => rw [hx2] at e; cases e
  | some a => rw [hx2] at e; exact h a (hx a hx2) r e
theorem lm_isNan (x : Int32) : s_X12_isNan x = m_isNan x := by rw [s_X12_isNan_eq, m_isNan_eq]
theorem lm_isInf (x : Int32) : s_X12_isInfinite x = m_isInf x := by rw [s_X12_isInfinite_eq, m_isInf_eq]
theorem lm_bitsOf (b : UInt32) : s_X12_bitsOf b = m_bitsOf b := by
  rw [s_X12_bitsOf_eq, m_bitsOf_eq, s_Jxf58ca_floatToIntBits_5c35a_eq, m_f2ib_eq, s_Jxf58ca_isNaN_12338_eq, m_isNaNF_eq]
theorem lm_floatOf (x : Int32) : s_X12_floatOf 1 x = m_floatOf x := by
  rw [s_X12_floatOf_eq, if_pos rfl, m_floatOf_eq, lm_isNan]
theorem q_intOf (x : Int32) : pk (p_X12_intOf 1 x) (fun r => r = m_intOf x) := by
  rw [p_X12_intOf_eq, if_pos rfl, m_intOf_eq, lm_isNan]
  refine pk_ite (fun h => pk_gd (fun _ => pk_some ?_)) (fun h => pk_some ?_)
  · rw [if_pos h]
  · rw [if_neg h]
theorem q_isLess (x y : Int32) : pk (p_X12_isLess x y) (fun r => r = m_isLess x y) := by
  rw [p_X12_isLess_eq, m_isLess_eq, lm_isNan, lm_isNan]
  refine pk_ite (fun h => pk_ite (fun h2 => pk_gd (fun _ => pk_gd (fun _ => pk_ite (fun h3 => pk_some ?_) (fun h3 => pk_some ?_)))) (fun h2 => pk_some ?_)) (fun h => pk_some ?_)
  · rw [if_pos h, if_pos h2, if_pos h3]
  · rw [if_pos h, if_pos h2, if_neg h3]
  · rw [if_pos h, if_neg h2]
  · rw [if_neg h]
theorem q_isSame (x y : Int32) : pk (p_X12_isSame x y) (fun r => r = m_isSame x y) := by
  rw [p_X12_isSame_eq, m_isSame_eq, lm_isNan, lm_isNan]
  refine pk_ite (fun h => pk_ite (fun h2 => pk_gd (fun _ => pk_gd (fun _ => pk_ite (fun h3 => pk_some ?_) (fun h3 => pk_some ?_)))) (fun h2 => pk_some ?_)) (fun h => pk_some ?_)
  · rw [if_pos h, if_pos h2, if_pos h3]
  · rw [if_pos h, if_pos h2, if_neg h3]
  · rw [if_pos h, if_neg h2]
  · rw [if_neg h]
theorem lm_noN43 (x y : Int32) : s_X12_isNoNumber 43 x y = m_noN43 x y := by
  rw [s_X12_isNoNumber_eq, m_noN43_eq]
  simp only [lm_isNan, lm_isInf, s_X12_isNoNumber_b34_eq, s_X12_isNoNumber_b35_eq]
  repeat' split
  all_goals first | rfl | contradiction
theorem lm_noN45 (x y : Int32) : s_X12_isNoNumber 45 x y = m_noN45 x y := by
  rw [s_X12_isNoNumber_eq, m_noN45_eq]
  simp only [lm_isNan, lm_isInf, s_X12_isNoNumber_b34_eq, s_X12_isNoNumber_b35_eq]
  repeat' split
  all_goals first | rfl | contradiction
theorem lm_noN42 (x y : Int32) : s_X12_isNoNumber 42 x y = m_noN42 x y := by
  rw [s_X12_isNoNumber_eq, m_noN42_eq]
  simp only [lm_isNan, lm_isInf, s_X12_isNoNumber_b34_eq, s_X12_isNoNumber_b35_eq, s_X12_isNoNumber_b113_eq]
  repeat' split
  all_goals first | rfl | contradiction
theorem lm_noN47 (x y : Int32) : s_X12_isNoNumber 47 x y = m_noN47 x y := by
  rw [s_X12_isNoNumber_eq, m_noN47_eq]
  simp only [lm_isNan, lm_isInf, s_X12_isNoNumber_b34_eq, s_X12_isNoNumber_b35_eq]
  repeat' split
  all_goals first | rfl | contradiction
theorem q_br43 (x y : Int32) : pk (p_X12_brokens 43 x y) (fun r => r = m_br43 x y) := by
  rw [p_X12_brokens_eq, m_br43_eq, lm_noN43]
  refine pk_ite (fun h => pk_gd (fun _ => pk_bv (pk_gd (fun _ => pk_bv ?_)))) (fun h => pk_some ?_)
  · rw [if_neg (by decide), if_pos rfl, if_pos h]
    exact pk_gd (fun _ => pk_some (lm_bitsOf _))
  · rw [if_neg h]
theorem q_br45 (x y : Int32) : pk (p_X12_brokens 45 x y) (fun r => r = m_br45 x y) := by
  rw [p_X12_brokens_eq, m_br45_eq, lm_noN45]
  refine pk_ite (fun h => pk_gd (fun _ => pk_bv (pk_gd (fun _ => pk_bv ?_)))) (fun h => pk_some ?_)
  · rw [if_neg (by decide), if_neg (by decide), if_neg (by decide), if_pos rfl, if_pos h]
    exact pk_gd (fun _ => pk_some (lm_bitsOf _))
  · rw [if_neg h]
theorem q_br42 (x y : Int32) : pk (p_X12_brokens 42 x y) (fun r => r = m_br42 x y) := by
  rw [p_X12_brokens_eq, m_br42_eq, lm_noN42]
  refine pk_ite (fun h => pk_gd (fun _ => pk_bv (pk_gd (fun _ => pk_bv ?_)))) (fun h => pk_some ?_)
  · rw [if_pos rfl, if_pos h]
    exact pk_gd (fun _ => pk_some (lm_bitsOf _))
  · rw [if_neg h]
theorem q_br47 (x y : Int32) : pk (p_X12_brokens 47 x y) (fun r => r = m_br47 x y) := by
  rw [p_X12_brokens_eq, m_br47_eq, lm_noN47]
  refine pk_ite (fun h => pk_gd (fun _ => pk_bv (pk_gd (fun _ => pk_bv ?_)))) (fun h => pk_some ?_)
  · rw [if_neg (by decide), if_neg (by decide), if_neg (by decide), if_neg (by decide), if_pos h]
    exact pk_gd (fun _ => pk_some (lm_bitsOf _))
  · rw [if_neg h]
theorem q_give1 (s b : Int32) (μ : Mem) : pk (p_X12_give s b μ) (fun q => q.1 0 1 = b) := by
  rw [p_X12_give_eq]
  exact pk_bv (pk_bv (pk_some (sF_v ..)))
theorem q_op12 (a g d : Int32) (μ : Mem) : pk (p_X12_op a g d μ) (fun q => q.1 = if s_X12_isSign g = 0 then 0 else fop a g d) := by
  rw [p_X12_op_eq]
  refine pk_ite (fun h => pk_some ?_) (fun h => ?_)
  · rw [if_pos h]
  · rw [if_neg h]
    have gv : ∀ (s b : Int32), b = fop a g d → pk (bw (p_X12_give s b μ) (fun μ2 => some μ2)) (fun q => q.1 0 1 = fop a g d) := fun s b hb => pk_bw (q_give1 s b μ) (fun q hq => pk_some (by rw [hq, hb]))
    refine pk_bw (P := fun q => q.1 0 1 = fop a g d) ?_ (fun q hq => pk_some hq)
    rw [p_X12_join_eq, if_pos rfl, p_X12_join_b11_eq, p_X12_join_b16_eq, lm_floatOf, lm_floatOf]
    rw [s_X12_isSign_eq] at h
    by_cases h37 : g = 37
    · subst h37
      rw [if_pos rfl]
      refine pk_bsq (q_intOf d) (fun r hr => pk_ite (fun h0 => gv 0 0 ?_) (fun h0 => pk_bsq (q_intOf a) (fun r2 hr2 => pk_gd (fun _ => gv 0 _ ?_))))
      · rw [← eq37, m_ap37_eq, ← hr, if_pos h0]
      · rw [← eq37, m_ap37_eq, ← hr, if_neg h0, hr2]
    rw [if_neg h37]
    by_cases h60 : g = 60
    · subst h60
      rw [if_pos rfl, if_neg (by decide)]
      refine pk_bsq (q_isLess _ _) (fun r hr => pk_ite (fun h0 => gv 0 0 ?_) (fun h0 => gv 0 1 ?_))
      · rw [← eq60, m_ap60_eq, ← hr, if_pos h0]
      · rw [← eq60, m_ap60_eq, ← hr, if_neg h0]
    rw [if_neg h60]
    by_cases h61 : g = 61
    · subst h61
      rw [if_pos rfl, if_neg (by decide)]
      refine pk_bsq (q_isSame _ _) (fun r hr => pk_ite (fun h0 => gv 0 0 ?_) (fun h0 => gv 0 1 ?_))
      · rw [← eq61, m_ap61_eq, ← hr, if_pos h0]
      · rw [← eq61, m_ap61_eq, ← hr, if_neg h0]
    rw [if_neg h61, if_neg (by decide)]
    by_cases h43 : g = 43
    · subst h43
      exact pk_bsq (q_br43 _ _) (fun r hr => gv 1 r (by rw [← eq43, m_ap43_eq, hr]))
    by_cases h45 : g = 45
    · subst h45
      exact pk_bsq (q_br45 _ _) (fun r hr => gv 1 r (by rw [← eq45, m_ap45_eq, hr]))
    by_cases h42 : g = 42
    · subst h42
      exact pk_bsq (q_br42 _ _) (fun r hr => gv 1 r (by rw [← eq42, m_ap42_eq, hr]))
    by_cases h47 : g = 47
    · subst h47
      exact pk_bsq (q_br47 _ _) (fun r hr => gv 1 r (by rw [← eq47, m_ap47_eq, hr]))
    rw [if_neg h43, if_neg h45, if_neg h42, if_neg h47, if_neg h37, if_neg h60, if_neg h61] at h
    exact absurd rfl h
theorem q_op11 (a g d : Int32) (μ : Mem) : pk (p_X11_op a g d μ) (fun q => q.1 = if s_X12_isSign g = 0 then 0 else fop a g d) := by
  have hs : s_X0_isSign g = s_X12_isSign g := by rw [s_X0_isSign_eq, s_X12_isSign_eq]
  rw [p_X11_op_eq, hs]
  refine pk_ite (fun h => pk_some ?_) (fun h => pk_bv (pk_some ?_))
  · rw [if_pos h]
  · rw [if_neg h]; exact lx_op g a d (by rw [hs]; exact h)
theorem rbq_op (a1 a2 a3 : Int32) (μx μm : Mem) (h : Rb μx μm) : ok (p_X11_op a1 a2 a3 μx) (fun q => ok (p_X12_op a1 a2 a3 μm) (fun z => Rb q.2 z.2 ∧ q.1 = z.1)) := by
  refine ok_imp ?_ (ok_pk (rb_op a1 a2 a3 μx μm h) (q_op11 a1 a2 a3 μx))
  rintro q ⟨q1, q2⟩
  refine ok_imp ?_ (ok_pk q1 (q_op12 a1 a2 a3 μm))
  rintro z ⟨z1, z2⟩
  exact ⟨z1, by rw [q2, z2]⟩
