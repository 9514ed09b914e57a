theorem q_Xnumber {t : Nat → Int32} {n p : Nat} {μ : Mem} (h : Xw t n p μ) : pk (p_X4_readNumber μ) (fun r => Xo t n μ (rn t n p) r.2) := by
  have e5 : (5 : Int32).toInt = ((5 : Nat) : Int) := by decide
  have e3 : (3 : Int32).toInt = ((3 : Nat) : Int) := by decide
  have b52 : ∀ (a1 a2 : Int32) (q : Mem) (o : Rd Nat), Xo t n μ o q → pk (p_X4_readNumber_b52 a1 a2 q) (fun r => Xo t n μ o r.2) := by
    intro a1 a2 q o hq
    rw [p_X4_readNumber_b52_eq]
    exact pk_ite (fun _ => pk_some hq) (fun _ => pk_some hq)
  have b95 : ∀ (fu : Nat) (a1 a2 a4 a5 : Int32) (q : Mem) (o : Rd Nat), Xo t n μ o q → pk (p_X4_readNumber_b95 fu a1 a2 a4 a5 q) (fun r => Xo t n μ o r.2) := by
    intro fu
    induction fu with
    | zero => intro a1 a2 a4 a5 q o _ r e; rw [p_X4_readNumber_b95_z] at e; cases e
    | succ fu ih =>
      intro a1 a2 a4 a5 q o hq
      rw [p_X4_readNumber_b95_s]
      refine pk_ite (fun _ => pk_ite (fun _ => ?_) (fun _ => ?_)) (fun _ => pk_bv (pk_bv (ih _ _ _ _ _ o hq)))
      · rw [p_X4_readNumber_b128_eq]; exact pk_bv (pk_bv (pk_some hq))
      · rw [p_X4_readNumber_b128_eq]; exact pk_bv (pk_bv (pk_some hq))
  have b29 : ∀ (a1 : Int32) (p1 : Nat) (q : Mem), Xe μ q → Xw t n p1 q → p1 = (if hr t n p = 45 then p + 1 else p) → pk (p_X4_readNumber_b29 a1 q) (fun r => Xo t n μ (rn t n p) r.2) := by
    intro a1 p1 q hE hw hp1
    have hrn : rn t n p = (if dg t n 5 p1 = p1 then .inl p1 else if hr t n (dg t n 5 p1) = 46 then (if dg t n 3 (dg t n 5 p1 + 1) = dg t n 5 p1 + 1 then .inl (dg t n 5 p1 + 1) else .inr (dg t n 3 (dg t n 5 p1 + 1))) else .inr (dg t n 5 p1)) := by rw [hp1]; rfl
    rw [p_X4_readNumber_b29_eq]
    refine pk_bd (q_Xdigits (a1 := 0) e5 (by omega) hw) ?_
    rintro r6 μ5 ⟨hE5, hO⟩
    have hE5 : Xe q μ5 := hE5
    by_cases hd : dg t n 5 p1 = p1
    · rw [if_pos hd] at hO
      have hO : Xf t n p1 μ5 := hO
      refine pk_bd q_Xwell ?_
      rintro r8 μ7 ⟨e, hw7⟩
      have e : μ7 = μ5 := e
      subst e
      have hw7 : (r8 = 1 ∧ μ7.1 16 3 = -1) ∨ (r8 = 0 ∧ μ7.1 16 3 ≠ -1) := hw7
      have r0 : r8 = 0 := by
        rcases hw7 with ⟨_, b⟩ | ⟨a, _⟩
        · exact absurd b (xf_bad hO)
        · exact a
      rw [if_pos r0]
      refine b52 _ _ _ _ ?_
      rw [hrn, if_pos hd]
      exact ⟨hE.tr hE5, hO⟩
    · rw [if_neg hd] at hO
      have hO : Xw t n (dg t n 5 p1) μ5 := hO
      refine pk_bd q_Xwell ?_
      rintro r8 μ7 ⟨e, hw7⟩
      have e : μ7 = μ5 := e
      subst e
      have hw7 : (r8 = 1 ∧ μ7.1 16 3 = -1) ∨ (r8 = 0 ∧ μ7.1 16 3 ≠ -1) := hw7
      have r1 : r8 = 1 := by
        rcases hw7 with ⟨a, _⟩ | ⟨_, b⟩
        · exact a
        · exact absurd hO.2.1 b
      rw [if_neg (by rw [r1]; decide)]
      refine pk_bd (q_Xhere hO) ?_
      rintro r12 μ11 ⟨e, hh⟩
      have e : μ11 = μ7 := e
      subst e
      have hh : r12 = hr t n (dg t n 5 p1) := hh
      refine pk_ite (fun c => pk_bv (pk_bv ?_)) (fun c => ?_)
      · rw [hh] at c
        have hw14 := xw_next hO (hr_lt (by rw [c]; decide))
        refine pk_bd (q_Xdigits (a1 := r6) e3 (by omega) hw14) ?_
        rintro r17 μ16 ⟨hE16, hO16⟩
        refine b95 _ _ _ _ _ _ _ ?_
        rw [hrn, if_neg hd, if_pos c]
        refine ⟨((hE.tr hE5).tr (Xe.put (by decide) _)).tr hE16, ?_⟩
        exact hO16
      · rw [hh] at c
        refine b52 _ _ _ _ ?_
        rw [hrn, if_neg hd, if_neg c]
        exact ⟨hE.tr hE5, hO⟩
  rw [p_X4_readNumber_eq]
  refine pk_bd (q_Xhere h) ?_
  rintro r2 μ1 ⟨e, hh⟩
  have e : μ1 = μ := e
  subst e
  have hh : r2 = hr t n p := hh
  refine pk_ite (fun c => ?_) (fun c => ?_)
  · rw [hh] at c
    rw [p_X4_readNumber_b14_eq, if_neg (by decide)]
    exact pk_bv (b29 _ (p + 1) _ (Xe.put (by decide) _) (xw_next h (hr_lt (by rw [c]; decide))) (by rw [if_pos c]))
  · rw [hh] at c
    rw [p_X4_readNumber_b14_eq, if_pos rfl]
    exact b29 _ p _ Xe.rf h (by rw [if_neg c])
noncomputable def st1 (x : Int64) : Nat := if s_X0_kind x = 4 then 1 else 0
noncomputable def sc (r : Nat → Int64) : Nat → Nat
  | 0 => 0
  | m + 1 => sc r m + st1 (r m)
theorem sc_s (r : Nat → Int64) (m : Nat) : sc r (m + 1) = sc r m + st1 (r m) := rfl
theorem sc_cong {r r2 : Nat → Int64} : ∀ m, (∀ i, i < m → r2 i = r i) → sc r2 m = sc r m := by
  intro m
  induction m with
  | zero => intro _; rfl
  | succ m ih =>
    intro h
    show sc r2 m + _ = sc r m + _
    rw [ih (fun i hi => h i (by omega)), h m (by omega)]
theorem sc_le (r : Nat → Int64) : ∀ m, sc r m ≤ m := by
  intro m
  induction m with
  | zero => exact Nat.le_refl _
  | succ m ih => rw [sc_s]; unfold st1; split <;> omega
def Pm (μ : Mem) (a m s : Nat) : Prop := (μ.1 a 2).toInt = (m : Int) ∧ m ≤ 30 ∧ sc (fun i => μ.2.1 (a + 1) i) m = s
theorem Pm.xe {μ q : Mem} {a m s : Nat} (ha : a ≠ 16) (h : Pm μ a m s) (hE : Xe μ q) : Pm q a m s := by
  obtain ⟨h1, h2, h3⟩ := h
  exact ⟨by rw [hE.2.2 a 2 ha]; exact h1, h2, by rw [hE.1]; exact h3⟩
theorem q_stars {μ : Mem} {a m s : Nat} (h : Pm μ a m s) : pk (p_X2_stars a μ) (fun r => r.2 = μ ∧ r.1.toInt = (s : Int)) := by
  have e0 : (0 : Int32).toInt = 0 := by decide
  have e1 : (1 : Int32).toInt = 1 := by decide
  obtain ⟨h1, h2, h3⟩ := h
  have loop : ∀ (fu i : Nat) (a1 a2 : Int32), a2.toInt = (i : Int) → i ≤ m → a1.toInt = (sc (fun i => μ.2.1 (a + 1) i) i : Int) → pk (p_X2_stars_b4 fu a a1 a2 μ) (fun r => r.2 = μ ∧ r.1.toInt = (s : Int)) := by
    intro fu
    induction fu with
    | zero => intro i a1 a2 _ _ _ r e; rw [p_X2_stars_b4_z] at e; cases e
    | succ fu ih =>
      intro i a1 a2 ha2 hi ha1
      have hl := sc_le (fun i => μ.2.1 (a + 1) i) i
      rw [p_X2_stars_b4_s]
      refine pk_ite (fun c => pk_some ⟨rfl, ?_⟩) (fun c => pk_gd (fun _ => ?_))
      · rw [ti_le, h1, ha2] at c
        have : i = m := by omega
        rw [this, h3] at ha1
        exact ha1
      · rw [ti_le, h1, ha2] at c
        rw [tn_of ha2]
        refine pk_ite (fun c2 => pk_bv ?_) (fun c2 => ?_)
        · rw [p_X2_stars_b28_eq]
          refine pk_bv (ih (i + 1) _ _ (by rw [ti_add (by omega) (by omega), e1, ha2]; omega) (by omega) ?_)
          rw [sc_s]; unfold st1
          rw [if_pos c2, ti_add (by omega) (by omega), e1, ha1]; omega
        · rw [p_X2_stars_b28_eq]
          refine pk_bv (ih (i + 1) _ _ (by rw [ti_add (by omega) (by omega), e1, ha2]; omega) (by omega) ?_)
          rw [sc_s]; unfold st1
          rw [if_neg c2, ha1]; rfl
  rw [p_X2_stars_eq]
  exact loop FUEL 0 0 0 e0 (by omega) e0
theorem cap30 {a : Nat} (h : sh 0 a = (0, 1)) : 30 ≤ (sh 0 (a + 1)).2 ∧ (sh 0 (a + 1)).2 ≤ 1000 := by
  have h1 := sh_all (P := fun i => !decide (sh 0 i = (0, 1)) || (decide (30 ≤ (sh 0 (i + 1)).2) && decide ((sh 0 (i + 1)).2 ≤ 1000))) (by decide +kernel) (sh_lt h (by simp))
  simpa [h] using h1
theorem q_padd {μ : Mem} {a m s : Nat} (hs : sh 0 a = (0, 1)) (h : Pm μ a m s) (hm : m < 30) (tok z : Int64) : pk (p_X2_add a tok z μ) (fun q => Pm q a (m + 1) (s + st1 tok) ∧ q.2.2 = μ.2.2 ∧ (∀ i k, i ≠ a → q.1 i k = μ.1 i k)) := by
  have e1 : (1 : Int32).toInt = 1 := by decide
  obtain ⟨h1, h2, h3⟩ := h
  obtain ⟨c1, c2⟩ := cap30 hs
  have hn : (μ.1 a 2).toNatClampNeg = m := tn_of h1
  rw [p_X2_add_eq]
  refine pk_ite (fun c => ?_) (fun c => pk_gd (fun _ => pk_bv (pk_gd (fun _ => pk_bv (pk_bv (pk_some ⟨⟨?_, by omega, ?_⟩, ?_, ?_⟩))))))
  · rw [ti_le, ti_len, h1] at c; omega
  · rw [sF_v, sL_1, sL_1, ti_add (by omega) (by omega), e1, h1]; omega
  · have hrow : ∀ i, (sF (sL (sL μ (a + 1) (μ.1 a 2).toNatClampNeg tok) (a + 2) ((sL μ (a + 1) (μ.1 a 2).toNatClampNeg tok).1 a 2).toNatClampNeg z) a 2 ((sL (sL μ (a + 1) (μ.1 a 2).toNatClampNeg tok) (a + 2) ((sL μ (a + 1) (μ.1 a 2).toNatClampNeg tok).1 a 2).toNatClampNeg z).1 a 2 + 1)).2.1 (a + 1) i = if i = m then tok else μ.2.1 (a + 1) i := by
      intro i
      rw [sF_2, sL_2, if_neg (by omega), sL_2, if_pos rfl, hn]
    rw [sc_s, sc_cong (r := fun i => μ.2.1 (a + 1) i) m (fun i hi => by rw [hrow, if_neg (by omega)]), h3, hrow m, if_pos rfl]
  · rw [sF_2, sL_3, sL_3]
  · intro i k hi
    rw [sF_i hi, sL_1, sL_1]
