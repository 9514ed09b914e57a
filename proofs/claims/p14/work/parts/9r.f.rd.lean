def Ms (t : Nat → Int32) (n : Nat) (μ : Mem) : Prop := (μ.1 0 3).toInt = (n : Int) ∧ n ≤ 800 ∧ ∀ j, j < n → (μ.1 1 j) &&& 255 = t j
def MwT (t : Nat → Int32) (n p : Nat) (μ : Mem) : Prop := Ms t n μ ∧ μ.1 0 5 = -1 ∧ (μ.1 0 4).toInt = (p : Int) ∧ p ≤ n
def Mf (t : Nat → Int32) (n f : Nat) (μ : Mem) : Prop := Ms t n μ ∧ (μ.1 0 5).toInt = (f : Int)
def Me (μ q : Mem) : Prop := ∀ i k, ¬ (i = 0 ∧ (k = 4 ∨ k = 5 ∨ k = 6 ∨ k = 7)) → q.1 i k = μ.1 i k
theorem Me.rf {μ : Mem} : Me μ μ := fun _ _ _ => rfl
theorem Me.tr {μ q z : Mem} (h : Me μ q) (h2 : Me q z) : Me μ z := fun i k hi => (h2 i k hi).trans (h i k hi)
theorem Me.put {μ : Mem} {k : Nat} (hk : k = 4 ∨ k = 5 ∨ k = 6 ∨ k = 7) (v : Int32) : Me μ (sF μ 0 k v) := by
  intro i j hi
  by_cases e : i = 0
  · subst e
    rw [sF_k (show j ≠ k from fun e => hi ⟨rfl, by rw [e]; exact hk⟩)]
  · rw [sF_i e]
theorem Me.ms {t : Nat → Int32} {n : Nat} {μ q : Mem} (h : Me μ q) (hs : Ms t n μ) : Ms t n q := ⟨by rw [h 0 3 (by omega)]; exact hs.1, hs.2.1, fun j hj => by rw [h 1 j (by omega)]; exact hs.2.2 j hj⟩
def Mo (t : Nat → Int32) (n : Nat) (μ : Mem) (o : Rd Nat) (r : Int32 × Mem) : Prop := Me μ r.2 ∧ (match o with | .inl f => r.1 = 0 ∧ Mf t n f r.2 | .inr p => r.1 = 1 ∧ MwT t n p r.2)
theorem mf_bad {t : Nat → Int32} {n f : Nat} {μ : Mem} (h : Mf t n f μ) : ¬ μ.1 0 5 = -1 := by
  intro e
  have := h.2
  rw [e] at this
  have e1 : (-1 : Int32).toInt = -1 := by decide
  omega
theorem q_Mhere {t : Nat → Int32} {n p : Nat} {μ : Mem} (h : MwT t n p μ) : pk (p_X12_here μ) (fun r => r.2 = μ ∧ r.1 = hr t n p) := by
  obtain ⟨⟨h1, h2, h3⟩, h4, h5, h6⟩ := h
  rw [p_X12_here_eq]
  refine pk_ite (fun c2 => pk_some ⟨rfl, ?_⟩) (fun c2 => pk_gd (fun _ => pk_some ⟨rfl, ?_⟩))
  · rw [ti_le, h1, h5] at c2
    unfold hr; rw [if_neg (by omega)]
  · rw [ti_le, h1, h5] at c2
    unfold hr; rw [if_pos (by omega), tn_of h5]; exact h3 p (by omega)
theorem mw_next {t : Nat → Int32} {n p : Nat} {μ : Mem} (h : MwT t n p μ) (hp : p < n) : MwT t n (p + 1) (sF μ 0 4 (μ.1 0 4 + 1)) := by
  obtain ⟨h1, h4, h5, h6⟩ := h
  have e1 : (1 : Int32).toInt = 1 := by decide
  have h2 := h1.2.1
  refine ⟨(Me.put (by omega) _).ms h1, by rw [sF_k (by decide)]; exact h4, ?_, by omega⟩
  rw [sF_v, ti_add (by omega) (by omega), e1, h5]; omega
theorem q_Mfails {t : Nat → Int32} {n p : Nat} {μ : Mem} (h : MwT t n p μ) : pk (p_X12_fails (μ.1 0 4) μ) (fun r => r.1 = 0 ∧ Me μ r.2 ∧ Mf t n p r.2) := by
  rw [p_X12_fails_eq]
  exact pk_bv (pk_some ⟨rfl, Me.put (by omega) _, (Me.put (by omega) _).ms h.1, by rw [sF_v]; exact h.2.2.1⟩)
theorem q_Mfailb {t : Nat → Int32} {n p : Nat} {μ : Mem} (h : MwT t n p μ) : pk (bd (p_X12_fails (μ.1 0 4) μ) (fun r9 μ8 => gd (isB r9) (some (r9, μ8)))) (Mo t n μ (.inl p)) := pk_bd (q_Mfails h) (fun r q hq => pk_gd (fun _ => pk_some ⟨hq.2.1, hq.1, hq.2.2⟩))
theorem q_Mtakes {t : Nat → Int32} {n p : Nat} {μ : Mem} {c : Int32} (hc : c ≠ -1) (h : MwT t n p μ) : pk (p_X12_takes c μ) (Mo t n μ (if hr t n p = c then .inr (p + 1) else .inl p)) := by
  rw [p_X12_takes_eq]
  refine pk_bd (q_Mhere h) ?_
  rintro r2 μ1 ⟨e, hh⟩
  have e : μ1 = μ := e
  subst e
  have hh : r2 = hr t n p := hh
  refine pk_ite (fun c1 => pk_bv (pk_some ?_)) (fun c1 => ?_)
  · rw [hh] at c1
    rw [if_pos c1]
    exact ⟨Me.put (by omega) _, rfl, mw_next h (hr_lt (by rw [c1]; exact hc))⟩
  · rw [hh] at c1
    rw [if_neg c1]; exact q_Mfailb h
theorem isD_M (c : Int32) : (s_X12_isFigure c = 0) ↔ isD c = false := by
  have : s_X12_isFigure c = s_X4_isDigit c := by rw [s_X12_isFigure_eq, s_X4_isDigit_eq]
  rw [this]; exact isD_X c
theorem dg_pos {t : Nat → Int32} {n k p : Nat} : isD (hr t n p) = true ↔ dg t n (k + 1) p ≠ p := by
  rw [dg_s]
  cases h : isD (hr t n p) with
  | true => rw [if_pos rfl]; exact ⟨fun _ => by have := dg_le t n k (p + 1); omega, fun _ => rfl⟩
  | false => rw [if_neg (by decide)]; exact ⟨fun e => absurd e (by decide), fun e => absurd rfl e⟩
theorem q_Mdigits {t : Nat → Int32} {n k : Nat} {a1 a2 : Int32} (ha : a1.toInt = (k : Int)) (hk : k ≤ 5) {p : Nat} {μ : Mem} (h : MwT t n p μ) : pk (p_X12_digits a1 a2 μ) (fun r => Me μ r.2 ∧ MwT t n (dg t n k p) r.2) := by
  have e1 : (1 : Int32).toInt = 1 := by decide
  rw [p_X12_digits_eq]
  refine pk_bvy (fun v1 ev => ?_)
  have hv : v1.toInt = (p : Int) := by rw [ev]; exact h.2.2.1
  have loop : ∀ (fu j : Nat) (a3 : Int32) (μ2 : Mem), j ≤ k → Me μ μ2 → MwT t n (p + j) μ2 → dg t n (k - j) (p + j) = dg t n k p → pk (p_X12_digits_b8 fu a1 a3 v1 μ2) (fun r => Me μ r.2 ∧ MwT t n (dg t n k p) r.2) := by
    intro fu
    induction fu with
    | zero => intro j a3 μ2 _ _ _ _ r e; rw [p_X12_digits_b8_z] at e; cases e
    | succ fu ih =>
      intro j a3 μ2 hj hE hw hd
      have hn := hw.1.2.1
      have hpn := hw.2.2.2
      rw [p_X12_digits_b8_s]
      refine pk_bd (q_Mhere hw) ?_
      rintro r3 μ3 ⟨e, hh⟩
      have e : μ3 = μ2 := e
      subst e
      have hh : r3 = hr t n (p + j) := hh
      refine pk_ite (fun c => pk_some ⟨hE, ?_⟩) (fun c => ?_)
      · rw [isD_M, hh] at c
        have : dg t n (k - j) (p + j) = p + j := by
          cases h5 : k - j with
          | zero => rfl
          | succ d => rw [dg_s, if_neg (by rw [c]; decide)]
        rw [← hd, this]; exact hw
      · rw [isD_M, hh] at c
        have c : isD (hr t n (p + j)) = true := by simpa using c
        have hs : (μ3.1 0 4 - v1).toInt = (j : Int) := by rw [ti_sub (by have := hw.2.2.1; omega) (by have := hw.2.2.1; omega), hw.2.2.1, hv]; omega
        refine pk_ite (fun c2 => pk_some ⟨hE, ?_⟩) (fun c2 => ?_)
        · rw [ti_le, ha, hs] at c2
          have : k - j = 0 := by omega
          rw [this] at hd
          rw [← hd]; exact hw
        · rw [ti_le, ha, hs] at c2
          obtain ⟨d, hd'⟩ : ∃ d, k - j = d + 1 := ⟨k - j - 1, by omega⟩
          rw [hd', dg_s, if_pos c] at hd
          refine pk_bd (q_Mhere hw) ?_
          rintro r7 μ6 ⟨e, _⟩
          have e : μ6 = μ3 := e
          subst e
          exact pk_bv (pk_bv (ih (j + 1) _ _ (by omega) (hE.tr (Me.put (by omega) _)) (mw_next hw (hr_lt (isD_ne c))) (by rw [show k - (j + 1) = d by omega]; exact hd)))
  exact loop FUEL 0 a2 μ (by omega) Me.rf h rfl
theorem mw_put {t : Nat → Int32} {n p : Nat} {μ : Mem} (h : MwT t n p μ) {k : Nat} (hk : k = 6 ∨ k = 7) (v : Int32) : MwT t n p (sF μ 0 k v) := ⟨(Me.put (by omega) v).ms h.1, by rw [sF_k (by omega)]; exact h.2.1, by rw [sF_k (by omega)]; exact h.2.2.1, h.2.2.2⟩
set_option maxHeartbeats 1000000 in
theorem q_Mnumber {t : Nat → Int32} {n p : Nat} {μ : Mem} (h : MwT t n p μ) : pk (p_X12_readNumber μ) (Mo t n μ (rn t n p)) := by
  have e5 : (5 : Int32).toInt = ((5 : Nat) : Int) := by decide
  have e3 : (3 : Int32).toInt = ((3 : Nat) : Int) := by decide
  have b29 : ∀ (a1 : Int32) (p1 : Nat) (q : Mem), Me μ q → MwT t n p1 q → p1 = (if hr t n p = 45 then p + 1 else p) → pk (p_X12_readNumber_b29 a1 q) (Mo t n μ (rn t n p)) := by
    intro a1 p1 q hE hw hp1
    have hrn : rn t n p = (if dg t n 5 p1 = p1 then .inl p1 else if hr t n (dg t n 5 p1) = 46 then (if dg t n 3 (dg t n 5 p1 + 1) = dg t n 5 p1 + 1 then .inl (dg t n 5 p1 + 1) else .inr (dg t n 3 (dg t n 5 p1 + 1))) else .inr (dg t n 5 p1)) := by rw [hp1]; rfl
    rw [p_X12_readNumber_b29_eq]
    refine pk_bd (q_Mhere hw) ?_
    rintro r6 μ5 ⟨e, hh⟩
    have e : μ5 = q := e
    subst e
    have hh : r6 = hr t n p1 := hh
    refine pk_ite (fun c => ?_) (fun c => ?_)
    · rw [isD_M, hh] at c
      have hd : dg t n 5 p1 = p1 := by rw [dg_s, if_neg (by rw [c]; decide)]
      rw [hrn, if_pos hd]
      exact pk_mono (q_Mfailb hw) (fun r hr2 => ⟨hE.tr hr2.1, hr2.2⟩)
    · rw [isD_M, hh] at c
      have c : isD (hr t n p1) = true := by simpa using c
      have hd : dg t n 5 p1 ≠ p1 := dg_pos.mp c
      refine pk_bd (q_Mdigits (a2 := 0) e5 (by omega) hw) ?_
      rintro r9 μ8 ⟨hE8, hw8⟩
      have hE8 : Me μ5 μ8 := hE8
      have hw8 : MwT t n (dg t n 5 p1) μ8 := hw8
      have b71 : ∀ k0 : Int32, pk (p_X12_readNumber_b71 a1 r9 k0 (sF μ8 0 6 0)) (Mo t n μ (rn t n p)) := by
        intro k0
        rw [p_X12_readNumber_b71_eq]
        refine pk_bvy (fun μ12 e12 => ?_)
        have hw12 : MwT t n (dg t n 5 p1) μ12 := by rw [e12]; exact mw_put (mw_put hw8 (by omega) _) (by omega) _
        have hE12 : Me μ μ12 := by rw [e12]; exact ((hE.tr hE8).tr (Me.put (by omega) _)).tr (Me.put (by omega) _)
        refine pk_bd (q_Mhere hw12) ?_
        rintro r14 μ13 ⟨e, hh⟩
        have e : μ13 = μ12 := e
        subst e
        have hh : r14 = hr t n (dg t n 5 p1) := hh
        refine pk_ite (fun c1 => pk_bvy (fun μ16 e16 => ?_)) (fun c1 => pk_some ?_)
        · rw [hh] at c1
          have hw16 : MwT t n (dg t n 5 p1 + 1) μ16 := by rw [e16]; exact mw_next hw12 (hr_lt (by rw [c1]; decide))
          have hE16 : Me μ μ16 := by rw [e16]; exact hE12.tr (Me.put (by omega) _)
          refine pk_bd (q_Mhere hw16) ?_
          rintro r18 μ17 ⟨e, hh⟩
          have e : μ17 = μ16 := e
          subst e
          have hh : r18 = hr t n (dg t n 5 p1 + 1) := hh
          refine pk_ite (fun c2 => ?_) (fun c2 => pk_bvy (fun v20 e20 => ?_))
          · rw [isD_M, hh] at c2
            rw [hrn, if_neg hd, if_pos c1, if_pos (by rw [dg_s, if_neg (by rw [c2]; decide)])]
            exact pk_mono (q_Mfailb hw16) (fun r hr2 => ⟨hE16.tr hr2.1, hr2.2⟩)
          · rw [isD_M, hh] at c2
            have c2 : isD (hr t n (dg t n 5 p1 + 1)) = true := by simpa using c2
            rw [hrn, if_neg hd, if_pos c1, if_neg (dg_pos.mp c2)]
            refine pk_bd (q_Mdigits (a2 := r9) e3 (by omega) hw16) ?_
            rintro r22 μ21 ⟨hE21, hw21⟩
            have hE21 : Me μ17 μ21 := hE21
            have hw21 : MwT t n (dg t n 3 (dg t n 5 p1 + 1)) μ21 := hw21
            have b161 : ∀ k0 : UInt32, pk (p_X12_readNumber_b161 a1 r22 k0 μ21) (Mo t n μ (.inr (dg t n 3 (dg t n 5 p1 + 1)))) := by
              intro k0
              rw [p_X12_readNumber_b161_eq]
              refine pk_bv (pk_ite (fun _ => pk_gd (fun _ => pk_bv (pk_some ?_))) (fun _ => pk_gd (fun _ => pk_bv (pk_some ?_))))
              · exact ⟨((hE16.tr hE21).tr (Me.put (by omega) _)).tr (Me.put (by omega) _), rfl, mw_put (mw_put hw21 (by omega) _) (by omega) _⟩
              · exact ⟨((hE16.tr hE21).tr (Me.put (by omega) _)).tr (Me.put (by omega) _), rfl, mw_put (mw_put hw21 (by omega) _) (by omega) _⟩
            exact pk_ite (fun _ => b161 _) (fun _ => pk_ite (fun _ => b161 _) (fun _ => b161 _))
        · rw [hh] at c1
          rw [hrn, if_neg hd, if_neg c1]
          exact ⟨hE12, rfl, hw12⟩
      exact pk_bv (pk_ite (fun _ => b71 _) (fun _ => b71 _))
  rw [p_X12_readNumber_eq]
  refine pk_bd (q_Mhere h) ?_
  rintro r2 μ1 ⟨e, hh⟩
  have e : μ1 = μ := e
  subst e
  have hh : r2 = hr t n p := hh
  refine pk_ite (fun c => ?_) (fun c => ?_)
  · rw [hh] at c
    rw [p_X12_readNumber_b14_eq, if_neg (by decide)]
    exact pk_bv (b29 _ (p + 1) _ (Me.put (by omega) _) (mw_next h (hr_lt (by rw [c]; decide))) (by rw [if_pos c]))
  · rw [hh] at c
    rw [p_X12_readNumber_b14_eq, if_pos rfl]
    exact b29 _ p _ Me.rf h (by rw [if_neg c])
