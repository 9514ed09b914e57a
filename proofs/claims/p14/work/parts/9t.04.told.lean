noncomputable def rarL (t : Nat → Int32) (n : Nat) : Nat → Nat → Nat → List Tkn → Rd (Nat × Nat × List Tkn)
  | 0, j, p, L => .inr (p, j, L)
  | k + 1, j, p, L => if hr t n p = 44 then
      match rpL t n 8 50 (p + 1) L with
      | .inl f => .inl f
      | .inr (p1, L1) => rarL t n k (j + 1) p1 L1
    else .inr (p, j, L)
noncomputable def rasL (t : Nat → Int32) (n : Nat) : Rd (Nat × Nat × List Tkn) := if hr t n 2 = 41 then .inr (2, 0, []) else
  match rpL t n 8 50 2 [] with
  | .inl f => .inl f
  | .inr (p, L) => rarL t n 4 1 p L
def renL (t : Nat → Int32) (n : Nat) : Rd (Nat × Nat × List Tkn) → Rd (Nat × List Tkn)
  | .inl f => .inl f
  | .inr (p, j, L) => if hr t n p = 41 then (if p + 1 < n then .inl (p + 1) else .inr (j, L)) else .inl p
noncomputable def rtL (t : Nat → Int32) (n : Nat) : Rd (Nat × List Tkn) := if isL (hr t n 0) then (if hr t n 1 = 40 then renL t n (rasL t n) else .inl 1) else .inl 0
def ToL (t : Nat → Int32) (n : Nat) (μ : Mem) (a : Nat) (o : Rd (Nat × List Tkn)) (q : Mem) : Prop := Fa a μ q ∧ (match o with | .inl f => Xf t n f q | .inr (j, L) => q.1 16 3 = -1 ∧ PL q a L ∧ ∃ x : Int32, x.toInt = (j : Int) ∧ q.1 a 3 = (hr t n 0 - 97) * 6 + x)
theorem fa_ints {a : Nat} {μ q : Mem} (h1 : q.2 = μ.2) (h2 : ∀ i k, i ≠ a → q.1 i k = μ.1 i k) : Fa a μ q := ⟨by rw [h1], fun i k _ hi => h2 i k hi, fun i k _ _ => by rw [h1]⟩
set_option maxHeartbeats 2000000 in
theorem q_XtaskL {t : Nat → Int32} {n a : Nat} (hs : sh 0 a = (0, 1)) (ha : a ≠ 16 ∧ a ≠ 1) {μ : Mem} (hw : Xw t n 0 μ) : pk (p_X4_readTask a μ) (ToL t n μ a (rtL t n)) := by
  have e0 : (0 : Int32).toInt = 0 := by decide
  have e1 : (1 : Int32).toInt = 1 := by decide
  have e5 : (5 : Int32).toInt = 5 := by decide
  have e8 : (8 : Int32).toInt = ((8 : Nat) : Int) := by decide
  have b116 : ∀ (a3 : Int32) (q : Mem) (o : Rd (Nat × Nat × List Tkn)), Fa a μ q → (match o with | .inl f => Xf t n f q | .inr (p, j, L) => Xw t n p q ∧ PL q a L ∧ a3.toInt = (j : Int)) → pk (p_X4_readTask_b116 a (hr t n 0) a3 q) (ToL t n μ a (renL t n o)) := by
    intro a3 q o hF ho
    rw [p_X4_readTask_b116_eq]
    cases o with
    | inl f =>
      have ho : Xf t n f q := ho
      refine pk_bd (q_Xtakef 41 ho) ?_
      intro r13 μ12 e
      have e : μ12 = q := e
      subst e
      refine pk_bvy (fun μ14 e14 => ?_)
      have g14 : ∀ i k, i ≠ a → μ14.1 i k = μ12.1 i k := fun i k hi => by rw [e14, sF_i hi]
      have f14 : Fa a μ12 μ14 := fa_ints (by rw [e14]; rfl) g14
      refine pk_bw (q_Xend (.inl f) (xf_of ha ho g14)) ?_
      rintro μ15 ⟨hE, hq⟩
      exact pk_some ⟨(hF.tr f14).tr (Fa.xe hE), hq⟩
    | inr v =>
      obtain ⟨p, j, L⟩ := v
      obtain ⟨ho, hP, hj⟩ : Xw t n p q ∧ PL q a L ∧ a3.toInt = (j : Int) := ho
      refine pk_bd (q_Xtake (c := 41) (by decide) ho) ?_
      rintro r13 μ12 ⟨hE, hO⟩
      have hE : Xe q μ12 := hE
      refine pk_bvy (fun μ14 e14 => ?_)
      have g14 : ∀ i k, i ≠ a → μ14.1 i k = μ12.1 i k := fun i k hi => by rw [e14, sF_i hi]
      have f14 : Fa a μ μ14 := (hF.tr (Fa.xe hE)).tr (fa_ints (by rw [e14]; rfl) g14)
      have k14 : μ14.1 a 3 = (hr t n 0 - 97) * 6 + a3 := by rw [e14, sF_v]
      have hP14 : PL μ14 a L := by
        have h := hP.xe ha.1 hE
        rw [e14]
        exact ⟨⟨by rw [sF_k (by decide)]; exact h.1.1, fun i x hx => by rw [sF_2]; exact h.1.2 i x hx⟩, h.2⟩
      show pk _ (ToL t n μ a (if hr t n p = 41 then (if p + 1 < n then .inl (p + 1) else .inr (j, L)) else .inl p))
      by_cases c : hr t n p = 41
      · rw [if_pos c] at hO ⊢
        have hO : Xw t n (p + 1) μ12 := hO
        refine pk_bw (q_Xend (.inr (p + 1)) (xw_of ha hO g14)) ?_
        rintro μ15 ⟨hE15, hq⟩
        have hq : if p + 1 < n then Xf t n (p + 1) μ15 else Xw t n (p + 1) μ15 := hq
        refine pk_some ⟨f14.tr (Fa.xe hE15), ?_⟩
        by_cases c2 : p + 1 < n
        · rw [if_pos c2] at hq ⊢; exact hq
        · rw [if_neg c2] at hq ⊢; exact ⟨hq.2.1, hP14.xe ha.1 hE15, a3, hj, by rw [hE15.2.2 a 3 ha.1]; exact k14⟩
      · rw [if_neg c] at hO ⊢
        have hO : Xf t n p μ12 := hO
        refine pk_bw (q_Xend (.inl p) (xf_of ha hO g14)) ?_
        rintro μ15 ⟨hE15, hq⟩
        exact pk_some ⟨f14.tr (Fa.xe hE15), hq⟩
  have b71 : ∀ (fu j : Nat) (a3 : Int32) (q : Mem) (o : Rd (Nat × List Tkn)), a3.toInt = (j : Int) → 1 ≤ j → j ≤ 5 → Fa a μ q → (match o with | .inl f => Xf t n f q | .inr (p, L) => Xw t n p q ∧ PL q a L) → pk (p_X4_readTask_b71 fu a (hr t n 0) a3 q) (ToL t n μ a (renL t n (match o with | .inl f => .inl f | .inr (p, L) => rarL t n (5 - j) j p L))) := by
    intro fu
    induction fu with
    | zero => intro j a3 q o _ _ _ _ _ r e; rw [p_X4_readTask_b71_z] at e; cases e
    | succ fu ih =>
      intro j a3 q o h3 hj1 hj hF ho
      rw [p_X4_readTask_b71_s]
      refine pk_bd q_Xwell ?_
      rintro r23 μ22 ⟨e, hwl⟩
      have e : μ22 = q := e
      subst e
      have hwl : (r23 = 1 ∧ μ22.1 16 3 = -1) ∨ (r23 = 0 ∧ μ22.1 16 3 ≠ -1) := hwl
      cases o with
      | inl f =>
        have ho : Xf t n f μ22 := ho
        rw [if_pos (wl0 ho hwl)]
        exact b116 a3 μ22 (.inl f) hF ho
      | inr v =>
        obtain ⟨p, L⟩ := v
        have ho : Xw t n p μ22 ∧ PL μ22 a L := ho
        rw [if_neg (wl1 ho.1 hwl)]
        refine pk_bd (q_Xhere ho.1) ?_
        rintro r26 μ25 ⟨e, hh⟩
        have e : μ25 = μ22 := e
        subst e
        have hh : r26 = hr t n p := hh
        rw [hh]
        show pk _ (ToL t n μ a (renL t n (rarL t n (5 - j) j p L)))
        have stop : rarL t n (5 - j) j p L = .inr (p, j, L) → pk (p_X4_readTask_b116 a (hr t n 0) a3 μ25) (ToL t n μ a (renL t n (rarL t n (5 - j) j p L))) := by
          intro h; rw [h]; exact b116 a3 μ25 (.inr (p, j, L)) hF ⟨ho.1, ho.2, h3⟩
        refine pk_ite (fun c => pk_ite (fun c2 => ?_) (fun c2 => ?_)) (fun c => ?_)
        · rw [ti_le, e5, h3] at c2
          exact stop (by rw [show 5 - j = 0 by omega]; rfl)
        · rw [ti_le, e5, h3] at c2
          obtain ⟨d, hd⟩ : ∃ d, 5 - j = d + 1 := ⟨5 - j - 1, by omega⟩
          refine pk_bvy (fun μ29 e29 => ?_)
          have hE29 : Xe μ25 μ29 := by rw [e29]; exact Xe.put (by decide) _
          have hw29 : Xw t n (p + 1) μ29 := by rw [e29]; exact xw_next ho.1 (hr_lt (by rw [c]; decide))
          refine pk_bw (q_XpartL hs ha e8 50 (p + 1) L 0 μ29 (by omega) hw29 (ho.2.xe ha.1 hE29)) ?_
          rintro μ30 ⟨g1, g3⟩
          refine pk_bvy (fun v32 e32 => ?_)
          have hx := ih (j + 1) v32 μ30 (rpL t n 8 50 (p + 1) L) (by rw [e32, ti_add (by omega) (by omega), e1, h3]; omega) (by omega) (by omega) ((hF.tr (Fa.xe hE29)).tr g1) g3
          have er : rarL t n (5 - j) j p L = (match rpL t n 8 50 (p + 1) L with | .inl f => .inl f | .inr (p, L) => rarL t n (5 - (j + 1)) (j + 1) p L) := by
            rw [hd, show 5 - (j + 1) = d by omega]
            show (if hr t n p = 44 then _ else _) = _
            rw [if_pos c]
          rw [er]; exact hx
        · refine stop ?_
          cases h5 : 5 - j with
          | zero => rfl
          | succ d => show (if hr t n p = 44 then _ else _) = _; rw [if_neg c]
  rw [p_X4_readTask_eq]
  have hb : pk (p_X2_begin a 0 μ) (fun q => Xw t n 0 q ∧ PL q a [] ∧ Fa a μ q) := by
    rw [p_X2_begin_eq]
    refine pk_bvy (fun μ1 e1 => pk_bvy (fun μ2 e2 => pk_some ?_))
    have g : ∀ i k, i ≠ a → μ2.1 i k = μ.1 i k := fun i k hi => by rw [e2, sF_i hi, e1, sF_i hi]
    refine ⟨xw_of ha hw g, ⟨⟨?_, fun i x hx => by cases hx⟩, by simp, fun x hx => by cases hx⟩, fa_ints (by rw [e2, e1]; rfl) g⟩
    rw [e2, sF_k (by decide), e1, sF_v]; exact e0
  refine pk_bw hb ?_
  rintro μ1 ⟨h1w, h1P, h1F⟩
  refine pk_bd (q_Xhere h1w) ?_
  rintro r4 μ3 ⟨e, hh⟩
  have e : μ3 = μ1 := e
  subst e
  have hh : r4 = hr t n 0 := hh
  subst hh
  show pk _ (ToL t n μ a (if isL (hr t n 0) then _ else .inl 0))
  refine pk_ite (fun c => pk_bw (q_Xfail h1w) (fun q hq => pk_some ?_)) (fun c => pk_bvy (fun μ6 e6 => ?_))
  · rw [isL_X] at c
    rw [if_neg (by rw [c]; decide)]
    exact ⟨h1F.tr (Fa.xe hq.1), hq.2⟩
  · rw [isL_X] at c
    have c : isL (hr t n 0) = true := by simpa using c
    rw [if_pos c]
    have hE6 : Xe μ3 μ6 := by rw [e6]; exact Xe.put (by decide) _
    have hw6 : Xw t n 1 μ6 := by rw [e6]; exact xw_next h1w (hr_lt (isL_ne c))
    refine pk_bd (q_Xtake (c := 40) (by decide) hw6) ?_
    rintro r8 μ7 ⟨hE7, hO7⟩
    have hE7 : Xe μ3 μ7 := hE6.tr hE7
    have hF7 : Fa a μ μ7 := h1F.tr (Fa.xe hE7)
    refine pk_bd q_Xwell ?_
    rintro r10 μ9 ⟨e, hwl⟩
    have e : μ9 = μ7 := e
    subst e
    have hwl : (r10 = 1 ∧ μ9.1 16 3 = -1) ∨ (r10 = 0 ∧ μ9.1 16 3 ≠ -1) := hwl
    by_cases c1 : hr t n 1 = 40
    · rw [if_pos c1] at hO7 ⊢
      have hO7 : Xw t n 2 μ9 := hO7
      rw [if_neg (wl1 hO7 hwl)]
      refine pk_bd (q_Xhere hO7) ?_
      rintro r18 μ17 ⟨e, hh⟩
      have e : μ17 = μ9 := e
      subst e
      have hh : r18 = hr t n 2 := hh
      rw [hh]
      have hP7 := h1P.xe ha.1 hE7
      show pk _ (ToL t n μ a (renL t n (if hr t n 2 = 41 then .inr (2, 0, []) else _)))
      refine pk_ite (fun c2 => ?_) (fun c2 => ?_)
      · rw [if_pos c2]
        exact b116 0 μ17 (.inr (2, 0, [])) hF7 ⟨hO7, hP7, e0⟩
      · rw [if_neg c2]
        refine pk_bw (q_XpartL hs ha e8 50 2 [] 0 μ17 (by rw [e0]; simp) hO7 hP7) ?_
        rintro μ20 ⟨x1, x3⟩
        exact b71 FUEL 1 1 μ20 (rpL t n 8 50 2 []) e1 (by omega) (by omega) (hF7.tr x1) x3
    · rw [if_neg c1] at hO7 ⊢
      have hO7 : Xf t n 1 μ9 := hO7
      rw [if_pos (wl0 hO7 hwl)]
      exact b116 0 μ9 (.inl 1) hF7 hO7
noncomputable def rvs (t : Nat → Int32) (n : Nat) : Nat → Bool → Rd (Nat × List Tkn) → Rd (Nat × List Tkn)
  | 0, _, o => o
  | m + 1, b, o => rvs t n m false (bnd o (fun v => if b = true then rpL t n 0 50 v.1 v.2 else if hr t n v.1 = 44 then rpL t n 0 50 (v.1 + 1) v.2 else .inl v.1))
def rvf (n : Nat) (o : Rd (Nat × List Tkn)) : Rd (List Tkn) := bnd o (fun v => if v.1 < n then .inl v.1 else .inr v.2)
noncomputable def rvL (t : Nat → Int32) (n m : Nat) : Rd (List Tkn) := rvf n (rvs t n m true (.inr (0, [])))
theorem rvs_l {t : Nat → Int32} {n f : Nat} : ∀ (m : Nat) (b : Bool), rvs t n m b (.inl f) = .inl f := by
  intro m
  induction m with
  | zero => intro b; rfl
  | succ m ih => intro b; exact ih false
theorem q_XvaluesL {t : Nat → Int32} {n a m : Nat} {a2 : Int32} (hs : sh 0 a = (0, 1)) (ha : a ≠ 16 ∧ a ≠ 1) (h2 : a2.toInt = (m : Int)) (hm : m ≤ 30) {μ : Mem} (hw : Xw t n 0 μ) : pk (p_X4_readValues a a2 μ) (fun q => Fa a μ q ∧ (match rvL t n m with | .inl f => Xf t n f q | .inr L => q.1 16 3 = -1 ∧ PL q a L)) := by
  have e0 : (0 : Int32).toInt = 0 := by decide
  have e1 : (1 : Int32).toInt = 1 := by decide
  have ez : (0 : Int32).toInt = ((0 : Nat) : Int) := by decide
  have fin : ∀ (q : Mem) (o : Rd (Nat × List Tkn)), Fa a μ q → (match o with | .inl f => Xf t n f q | .inr (p, L) => Xw t n p q ∧ PL q a L) → pk (bw (p_X4_takeEnd q) (fun μ4 => some μ4)) (fun q => Fa a μ q ∧ (match rvf n o with | .inl f => Xf t n f q | .inr L => q.1 16 3 = -1 ∧ PL q a L)) := by
    intro q o hF ho
    cases o with
    | inl f =>
      refine pk_bw (q_Xend (.inl f) ho) ?_
      rintro μ15 ⟨hE, hq⟩
      exact pk_some ⟨hF.tr (Fa.xe hE), hq⟩
    | inr v =>
      obtain ⟨p, L⟩ := v
      have ho : Xw t n p q ∧ PL q a L := ho
      refine pk_bw (q_Xend (.inr p) ho.1) ?_
      rintro μ15 ⟨hE, hq⟩
      have hq : if p < n then Xf t n p μ15 else Xw t n p μ15 := hq
      refine pk_some ⟨hF.tr (Fa.xe hE), ?_⟩
      show (match (if p < n then .inl p else .inr L : Rd (List Tkn)) with | .inl f => Xf t n f μ15 | .inr L => μ15.1 16 3 = -1 ∧ PL μ15 a L)
      by_cases c : p < n
      · rw [if_pos c] at hq ⊢; exact hq
      · rw [if_neg c] at hq ⊢; exact ⟨hq.2.1, ho.2.xe ha.1 hE⟩
  have loop : ∀ (fu i : Nat) (a3 : Int32) (q : Mem) (o : Rd (Nat × List Tkn)), a3.toInt = (i : Int) → i ≤ m → Fa a μ q → (match o with | .inl f => Xf t n f q | .inr (p, L) => Xw t n p q ∧ PL q a L) → pk (p_X4_readValues_b7 fu a a2 a3 q) (fun q => Fa a μ q ∧ (match rvf n (rvs t n (m - i) (decide (i = 0)) o) with | .inl f => Xf t n f q | .inr L => q.1 16 3 = -1 ∧ PL q a L)) := by
    intro fu
    induction fu with
    | zero => intro i a3 q o _ _ _ _ r e; rw [p_X4_readValues_b7_z] at e; cases e
    | succ fu ih =>
      intro i a3 q o h3 hi hF ho
      rw [p_X4_readValues_b7_s]
      refine pk_ite (fun c => ?_) (fun c => ?_)
      · rw [ti_le, h2, h3] at c
        rw [show m - i = 0 by omega]
        exact fin q o hF ho
      rw [ti_le, h2, h3] at c
      obtain ⟨d, hd⟩ : ∃ d, m - i = d + 1 := ⟨m - i - 1, by omega⟩
      rw [hd]
      show pk _ (fun q => Fa a μ q ∧ (match rvf n (rvs t n d false (bnd o (fun v => if decide (i = 0) = true then rpL t n 0 50 v.1 v.2 else if hr t n v.1 = 44 then rpL t n 0 50 (v.1 + 1) v.2 else .inl v.1))) with | .inl f => Xf t n f q | .inr L => q.1 16 3 = -1 ∧ PL q a L))
      refine pk_bd q_Xwell ?_
      rintro r7 μ6 ⟨e, hwl⟩
      have e : μ6 = q := e
      subst e
      have hwl : (r7 = 1 ∧ μ6.1 16 3 = -1) ∨ (r7 = 0 ∧ μ6.1 16 3 ≠ -1) := hwl
      have next : ∀ (z : Mem) (o2 : Rd (Nat × List Tkn)), Fa a μ z → (match o2 with | .inl f => Xf t n f z | .inr (p, L) => Xw t n p z ∧ PL z a L) → pk (bv (a3 + 1) (fun v14 => p_X4_readValues_b7 fu a a2 v14 z)) (fun q => Fa a μ q ∧ (match rvf n (rvs t n d false o2) with | .inl f => Xf t n f q | .inr L => q.1 16 3 = -1 ∧ PL q a L)) := by
        intro z o2 hz ho2
        refine pk_bvy (fun v14 e14 => ?_)
        have := ih (i + 1) v14 z o2 (by rw [e14, ti_add (by omega) (by omega), e1, h3]; omega) (by omega) hz ho2
        rw [show m - (i + 1) = d by omega, decide_eq_false (show ¬ i + 1 = 0 by omega)] at this
        exact this
      cases o with
      | inl f =>
        have ho : Xf t n f μ6 := ho
        rw [if_pos (wl0 ho hwl), bnd_l, rvs_l]
        exact fin μ6 (.inl f) hF ho
      | inr v =>
        obtain ⟨p, L⟩ := v
        have ho : Xw t n p μ6 ∧ PL μ6 a L := ho
        rw [if_neg (wl1 ho.1 hwl)]
        show pk _ (fun q => Fa a μ q ∧ (match rvf n (rvs t n d false (if decide (i = 0) = true then rpL t n 0 50 p L else if hr t n p = 44 then rpL t n 0 50 (p + 1) L else .inl p)) with | .inl f => Xf t n f q | .inr L => q.1 16 3 = -1 ∧ PL q a L))
        refine pk_ite (fun c0 => ?_) (fun c0 => ?_)
        · rw [ti_le, e0, h3] at c0
          rw [if_pos (decide_eq_true (show i = 0 by omega)), p_X4_readValues_b30_eq]
          refine pk_bw (q_XpartL hs ha ez 50 p L 0 μ6 (by rw [e0]; omega) ho.1 ho.2) ?_
          rintro μ12 ⟨g1, g3⟩
          exact next μ12 _ (hF.tr g1) g3
        · rw [ti_le, e0, h3] at c0
          rw [if_neg (by rw [decide_eq_false (show ¬ i = 0 by omega)]; decide)]
          refine pk_bd (q_Xtake (c := 44) (by decide) ho.1) ?_
          rintro r16 μ15 ⟨hE, hO⟩
          have hE : Xe μ6 μ15 := hE
          rw [p_X4_readValues_b30_eq]
          by_cases c4 : hr t n p = 44
          · rw [if_pos c4] at hO ⊢
            have hO : Xw t n (p + 1) μ15 := hO
            refine pk_bw (q_XpartL hs ha ez 50 (p + 1) L 0 μ15 (by rw [e0]; omega) hO (ho.2.xe ha.1 hE)) ?_
            rintro μ12 ⟨g1, g3⟩
            exact next μ12 _ ((hF.tr (Fa.xe hE)).tr g1) g3
          · rw [if_neg c4] at hO ⊢
            have hO : Xf t n p μ15 := hO
            refine pk_bw (q_Xpartf 50 hO) ?_
            intro μ12 e
            have e : μ12 = μ15 := e
            subst e
            exact next μ12 (.inl p) (hF.tr (Fa.xe hE)) hO
  rw [p_X4_readValues_eq]
  have hb : pk (p_X2_begin a 0 μ) (fun q => Xw t n 0 q ∧ PL q a [] ∧ Fa a μ q) := by
    rw [p_X2_begin_eq]
    refine pk_bvy (fun μ1 e1 => pk_bvy (fun μ2 e2 => pk_some ?_))
    have g : ∀ i k, i ≠ a → μ2.1 i k = μ.1 i k := fun i k hi => by rw [e2, sF_i hi, e1, sF_i hi]
    refine ⟨xw_of ha hw g, ⟨⟨?_, fun i x hx => by cases hx⟩, by simp, fun x hx => by cases hx⟩, fa_ints (by rw [e2, e1]; rfl) g⟩
    rw [e2, sF_k (by decide), e1, sF_v]; exact e0
  refine pk_bw hb ?_
  rintro μ1 ⟨h1w, h1P, h1F⟩
  exact loop FUEL 0 0 μ1 (.inr (0, [])) e0 (Nat.zero_le _) h1F ⟨h1w, h1P⟩
