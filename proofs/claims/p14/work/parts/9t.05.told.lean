theorem rpL_st {t : Nat → Int32} {n sl : Nat} : ∀ (k k2 p : Nat) (L : List Tkn), 31 ≤ k + L.length → 31 ≤ k2 + L.length → rpL t n sl k p L = rpL t n sl k2 p L := by
  intro k
  induction k with
  | zero =>
    intro k2 p L h1 h2
    cases k2 with
    | zero => rfl
    | succ k2 => unfold rpL; rw [if_pos (by omega)]
  | succ k ih =>
    intro k2 p L h1 h2
    cases k2 with
    | zero => unfold rpL; rw [if_pos (by omega)]
    | succ k2 =>
      unfold rpL
      by_cases c : 30 ≤ L.length
      · rw [if_pos c, if_pos c]
      rw [if_neg c, if_neg c]
      by_cases c1 : hr t n p = 91
      · have el : (L ++ [((2 : Int32), (0 : Int32))]).length = L.length + 1 := by rw [List.length_append]; rfl
        rw [if_pos c1, if_pos c1, ih k2 (p + 1) (L ++ [(2, 0)]) (by omega) (by omega)]
        cases e : rpL t n sl k2 (p + 1) (L ++ [(2, 0)]) with
        | inl f => rfl
        | inr v =>
          obtain ⟨p1, L1⟩ := v
          have hm := rpL_mono e
          dsimp only
          rw [ih k2 (p1 + 1) L1 (by omega) (by omega)]
      · rw [if_neg c1, if_neg c1]
noncomputable def ctL (t : Nat → Int32) (n sl : Nat) : List Nat → Rd (Nat × List Tkn) → Rd (Nat × List Tkn)
  | [], o => o
  | x :: K, o =>
    let two : Rd (Nat × List Tkn) → Rd (Nat × List Tkn) := fun o2 => match o2 with
      | .inl f => .inl f
      | .inr (p, L) => if hr t n p = 93 then ctL t n sl K (.inr (p + 1, L)) else .inl p
    match o with
    | .inl f => .inl f
    | .inr (p, L) => if x = 0 then (if hr t n p = 44 then two (rpL t n sl 50 (p + 1) L) else .inl p) else two (.inr (p, L))
theorem ctL_l {t : Nat → Int32} {n sl f : Nat} : ∀ K : List Nat, ctL t n sl K (.inl f) = .inl f := by
  intro K
  cases K with
  | nil => rfl
  | cons x K => rfl
theorem ctL_1 {t : Nat → Int32} {n sl p : Nat} {L : List Tkn} {K : List Nat} : ctL t n sl (1 :: K) (.inr (p, L)) = if hr t n p = 93 then ctL t n sl K (.inr (p + 1, L)) else .inl p := rfl
theorem ctL_0 {t : Nat → Int32} {n sl p : Nat} {L : List Tkn} {K : List Nat} : ctL t n sl (0 :: K) (.inr (p, L)) = if hr t n p = 44 then ctL t n sl (1 :: K) (rpL t n sl 50 (p + 1) L) else .inl p := by
  show (if hr t n p = 44 then _ else _) = _
  by_cases c : hr t n p = 44
  · rw [if_pos c, if_pos c]
    cases rpL t n sl 50 (p + 1) L with
    | inl f => rfl
    | inr v => rfl
  · rw [if_neg c, if_neg c]
theorem ctL_open {t : Nat → Int32} {n sl p : Nat} {L : List Tkn} {K : List Nat} (hm : ¬ 30 ≤ L.length) (h : hr t n p = 91) : ctL t n sl K (rpL t n sl 50 p L) = ctL t n sl (0 :: K) (rpL t n sl 50 (p + 1) (L ++ [(2, 0)])) := by
  have el : (L ++ [((2 : Int32), (0 : Int32))]).length = L.length + 1 := by rw [List.length_append]; rfl
  have e : rpL t n sl 50 p L = (match rpL t n sl 49 (p + 1) (L ++ [(2, 0)]) with
      | .inl f => .inl f
      | .inr (p1, L1) => if hr t n p1 = 44 then
          match rpL t n sl 49 (p1 + 1) L1 with
          | .inl f => .inl f
          | .inr (p2, L2) => if hr t n p2 = 93 then .inr (p2 + 1, L2) else .inl p2
        else .inl p1) := by
    show (if 30 ≤ L.length then _ else if hr t n p = 91 then _ else _) = _
    rw [if_neg hm, if_pos h]
    rfl
  rw [e, rpL_st 49 50 (p + 1) (L ++ [(2, 0)]) (by omega) (by omega)]
  cases e1 : rpL t n sl 50 (p + 1) (L ++ [(2, 0)]) with
  | inl f => dsimp only; rw [ctL_l, ctL_l]
  | inr v =>
    obtain ⟨p1, L1⟩ := v
    have hm1 := rpL_mono e1
    dsimp only
    rw [ctL_0]
    by_cases c : hr t n p1 = 44
    · rw [if_pos c, if_pos c, rpL_st 49 50 (p1 + 1) L1 (by omega) (by omega)]
      cases e2 : rpL t n sl 50 (p1 + 1) L1 with
      | inl f => dsimp only; rw [ctL_l, ctL_l]
      | inr v =>
        obtain ⟨p2, L2⟩ := v
        dsimp only
        rw [ctL_1]
        by_cases c2 : hr t n p2 = 93
        · rw [if_pos c2, if_pos c2]
        · rw [if_neg c2, if_neg c2]; exact ctL_l K
    · rw [if_neg c, if_neg c]; exact ctL_l K
def MpL (μ : Mem) (L : List Tkn) : Prop := (μ.1 0 36).toInt = (L.length : Int) ∧ L.length ≤ 30 ∧ (μ.1 0 37).toInt = (stc L : Int) ∧ ∀ i x, L[i]? = some x → μ.1 22 i = x.1 ∧ μ.1 23 i = x.2
theorem MpL.of {μ q : Mem} {L : List Tkn} (h : MpL μ L) (h1 : q.1 0 36 = μ.1 0 36) (h2 : q.1 0 37 = μ.1 0 37) (h3 : ∀ i, q.1 22 i = μ.1 22 i) (h4 : ∀ i, q.1 23 i = μ.1 23 i) : MpL q L :=
  ⟨by rw [h1]; exact h.1, h.2.1, by rw [h2]; exact h.2.2.1, fun i x hx => by rw [h3, h4]; exact h.2.2.2 i x hx⟩
theorem MpL.me {μ q : Mem} {L : List Tkn} (h : MpL μ L) (e : Me μ q) : MpL q L := h.of (e 0 36 (by omega)) (e 0 37 (by omega)) (fun i => e 22 i (by omega)) (fun i => e 23 i (by omega))
theorem mw_all {t : Nat → Int32} {n p : Nat} {μ q : Mem} (h : MwT t n p μ) (h3 : q.1 0 3 = μ.1 0 3) (h4 : q.1 0 4 = μ.1 0 4) (h5 : q.1 0 5 = μ.1 0 5) (h1 : ∀ j, q.1 1 j = μ.1 1 j) : MwT t n p q :=
  ⟨⟨by rw [h3]; exact h.1.1, h.1.2.1, fun j hj => by rw [h1]; exact h.1.2.2 j hj⟩, by rw [h5]; exact h.2.1, by rw [h4]; exact h.2.2.1, h.2.2.2⟩
def McoL (t : Nat → Int32) (n sl : Nat) (L : List Tkn) (μ : Mem) (o : Rd (Nat × List Tkn)) (r : Int32 × Mem) : Prop :=
  Mg μ r.2 ∧ ((∃ f, Mf t n f r.2 ∧ o = .inl f) ∨ (∃ p, r.1.toInt = 0 ∧ MwT t n p r.2 ∧ MpL r.2 L ∧ o = .inr (p, L)) ∨ (∃ p K, r.1.toInt = ((K.length + 1 : Nat) : Int) ∧ K.length + 1 ≤ L.length ∧ MwT t n p r.2 ∧ MpL r.2 L ∧ ClT r.2 (1 :: K) ∧ o = ctL t n sl (1 :: K) (rpL t n sl 50 p L)))
theorem q_McloseL {t : Nat → Int32} {n sl : Nat} {L : List Tkn} : ∀ (fu : Nat) (K : List Nat) (p : Nat) (a2 : Int32) (μ : Mem), a2.toInt = (K.length : Int) → K.length ≤ L.length → MwT t n p μ → MpL μ L → ClT μ K → pk (p_X12_closeAll_b2 fu a2 μ) (McoL t n sl L μ (ctL t n sl K (.inr (p, L)))) := by
  have e0 : (0 : Int32).toInt = 0 := by decide
  have e1 : (1 : Int32).toInt = 1 := by decide
  have em1 : (-1 : Int32).toInt = -1 := by decide
  intro fu
  induction fu with
  | zero => intro K p a2 μ _ _ _ _ _ r e; rw [p_X12_closeAll_b2_z] at e; cases e
  | succ fu ih =>
    intro K p a2 μ h2 hK hw hP hC
    have hm30 := hP.2.1
    rw [p_X12_closeAll_b2_s]
    cases K with
    | nil =>
      rw [if_pos (by rw [ti_le, e0, h2]; simp)]
      exact pk_some ⟨Mg.rf, Or.inr (Or.inl ⟨p, e0, hw, hP, rfl⟩)⟩
    | cons x K =>
      simp only [List.length_cons] at h2 hK
      rw [if_neg (by rw [ti_le, e0, h2]; omega)]
      have t1 : (a2 - 1).toInt = (K.length : Int) := by rw [ti_sub (by omega) (by omega), e1, h2]; omega
      refine pk_bvy (fun v2 e2 => pk_gd (fun _ => pk_gd (fun _ => pk_bvy (fun μ3 e3 => pk_gd (fun _ => ?_)))))
      rw [← e2] at t1
      rw [tn_of t1] at e3
      rw [← e2, tn_of t1]
      obtain ⟨hx, hcx, hC'⟩ := hC
      have g3 : ∀ i k, i ≠ 24 → μ3.1 i k = μ.1 i k := fun i k hi => by rw [e3, sF_i hi]
      have hw3 : MwT t n p μ3 := mw_all hw (g3 _ _ (by decide)) (g3 _ _ (by decide)) (g3 _ _ (by decide)) (fun j => g3 _ _ (by decide))
      have hP3 : MpL μ3 L := hP.of (g3 _ _ (by decide)) (g3 _ _ (by decide)) (fun i => g3 _ _ (by decide)) (fun i => g3 _ _ (by decide))
      have hG3 : Mg μ μ3 := fun i k _ _ _ h24 => g3 i k h24
      have hx3 : (μ3.1 24 K.length).toInt = (x : Int) + 1 := by rw [e3, sF_v, ti_add (by omega) (by omega), e1, hcx]
      have hC3 : ClT μ3 K := hC'.cong (fun j hj => by rw [e3, sF_k (by omega)])
      rcases hx with rfl | rfl
      · rw [if_pos (ti_eq.mpr (by rw [hx3, e1]; rfl)), ctL_0]
        refine pk_bd (q_Mtakes (c := 44) (by decide) hw3) ?_
        rintro r10 μ9 ⟨hE9, hO9⟩
        have hE9 : Me μ3 μ9 := hE9
        refine pk_some ⟨hG3.tr hE9.mg, ?_⟩
        by_cases c : hr t n p = 44
        · rw [if_pos c] at hO9 ⊢
          refine Or.inr (Or.inr ⟨p + 1, K, by rw [h2], by omega, hO9.2, hP3.me hE9, ⟨Or.inr rfl, ?_, hC3.me hE9⟩, rfl⟩)
          show (μ9.1 24 K.length).toInt = _
          rw [hE9 24 _ (by omega), hx3]; rfl
        · rw [if_neg c] at hO9 ⊢
          exact Or.inl ⟨p, hO9.2, rfl⟩
      · rw [if_neg (fun e => by rw [ti_eq, hx3, e1] at e; omega), ctL_1]
        refine pk_bd (q_Mtakes (c := 93) (by decide) hw3) ?_
        rintro r6 μ5 ⟨hE5, hO5⟩
        have hE5 : Me μ3 μ5 := hE5
        by_cases c : hr t n p = 93
        · rw [if_pos c] at hO5 ⊢
          have hO5 : r6 = 1 ∧ MwT t n (p + 1) μ5 := hO5
          rw [if_neg (by rw [hO5.1]; decide)]
          refine pk_bvy (fun v8 e8 => ?_)
          refine pk_mono (ih K (p + 1) v8 μ5 (by rw [e8, ti_add (by omega) (by omega), em1, h2]; omega) (by omega) hO5.2 (hP3.me hE5) (hC3.me hE5)) ?_
          rintro r ⟨hg, hr2⟩
          exact ⟨(hG3.tr hE5.mg).tr hg, hr2⟩
        · rw [if_neg c] at hO5 ⊢
          have hO5 : r6 = 0 ∧ Mf t n p μ5 := hO5
          rw [if_pos hO5.1]
          exact pk_some ⟨hG3.tr hE5.mg, Or.inl ⟨p, hO5.2, rfl⟩⟩
theorem q_MlayL {t : Nat → Int32} {n p : Nat} {μ : Mem} {K : List Nat} {L : List Tkn} {x : Tkn} {a1 a2 : Int32} (h1 : a1 = x.1) (h2 : a2 = x.2) (hw : MwT t n p μ) (h36 : (μ.1 0 36).toInt = (L.length : Int)) (h37 : (μ.1 0 37).toInt = (stc (L ++ [x]) : Int)) (hL : ∀ i x, L[i]? = some x → μ.1 22 i = x.1 ∧ μ.1 23 i = x.2) (hm : L.length < 30) (hC : ClT μ K) : pk (p_X12_layRead a1 a2 μ) (fun q => Mg μ q ∧ MwT t n p q ∧ MpL q (L ++ [x]) ∧ ClT q K) := by
  have e1 : (1 : Int32).toInt = 1 := by decide
  rw [p_X12_layRead_eq]
  refine pk_gd (fun _ => pk_bvy (fun μ1 m1 => pk_gd (fun _ => pk_bvy (fun μ2 m2 => pk_bvy (fun μ3 m3 => pk_some ?_)))))
  have tn := tn_of h36
  have tn2 : (μ1.1 0 36).toNatClampNeg = L.length := by rw [m1, sF_i (by decide)]; exact tn
  have g : ∀ i k, i ≠ 22 → i ≠ 23 → ¬ (i = 0 ∧ k = 36) → μ3.1 i k = μ.1 i k := by
    intro i k h1 h2 h3
    by_cases e : i = 0
    · subst e
      rw [m3, sF_k (fun e => h3 ⟨rfl, e⟩), m2, sF_i h2, m1, sF_i h1]
    · rw [m3, sF_i e, m2, sF_i h2, m1, sF_i h1]
  have t36 : (μ3.1 0 36).toInt = (L.length : Int) + 1 := by
    rw [m3, sF_v, m2, sF_i (by decide), m1, sF_i (by decide), ti_add (by omega) (by omega), e1, h36]
  have t22 : ∀ i, μ3.1 22 i = if i = L.length then a1 else μ.1 22 i := by
    intro i; rw [m3, sF_i (by decide), m2, sF_i (by decide), m1, sF_1, if_pos rfl, tn]
  have t23 : ∀ i, μ3.1 23 i = if i = L.length then a2 else μ.1 23 i := by
    intro i; rw [m3, sF_i (by decide), m2, sF_1, if_pos rfl, tn2, m1, sF_i (by decide)]
  refine ⟨fun i k h1 h2 h3 _ => g i k h2 h3 (fun e => h1 ⟨e.1, by omega⟩), mw_all hw (g 0 3 (by decide) (by decide) (by decide)) (g 0 4 (by decide) (by decide) (by decide)) (g 0 5 (by decide) (by decide) (by decide)) (fun j => g 1 j (by decide) (by decide) (by omega)), ⟨by rw [t36, List.length_append]; rfl, by rw [List.length_append]; show L.length + 1 ≤ 30; omega, by rw [g 0 37 (by decide) (by decide) (by decide)]; exact h37, fun i y hy => ?_⟩, hC.cong (fun j _ => g 24 j (by decide) (by decide) (by omega))⟩
  rw [t22, t23]
  by_cases c : i = L.length
  · rw [if_pos c, if_pos c]
    rw [c, List.getElem?_append_right (Nat.le_refl _), Nat.sub_self] at hy
    have hy : x = y := Option.some.inj hy
    rw [← hy]; exact ⟨h1, h2⟩
  · rw [if_neg c, if_neg c]
    by_cases c2 : i < L.length
    · rw [List.getElem?_append_left c2] at hy; exact hL i y hy
    · rw [List.getElem?_eq_none (by rw [List.length_append]; show L.length + 1 ≤ i; omega)] at hy; cases hy
def MqL (t : Nat → Int32) (n : Nat) (μ : Mem) (o : Rd (Nat × List Tkn)) (r : Int32 × Mem) : Prop := Mg μ r.2 ∧ (match o with | .inl f => r.1 = 0 ∧ Mf t n f r.2 | .inr (p, L) => r.1 = 1 ∧ MwT t n p r.2 ∧ MpL r.2 L)
set_option maxHeartbeats 2000000 in
theorem q_MpartL {t : Nat → Int32} {n sl : Nat} {a1 : Int32} (ha : (a1 = 0 ∧ sl = 0) ∨ (a1 = 1 ∧ sl = 8)) {μ0 : Mem} {o : Rd (Nat × List Tkn)} : ∀ (fu : Nat) (K : List Nat) (p : Nat) (L : List Tkn) (a2 : Int32) (μ : Mem), a2.toInt = (K.length : Int) → K.length ≤ L.length → (sl = 8 → stc L ≤ 8) → Mg μ0 μ → MwT t n p μ → MpL μ L → ClT μ K → o = ctL t n sl K (rpL t n sl 50 p L) → pk (p_X12_readPart_b4 fu a1 a2 1 μ) (MqL t n μ0 o) := by
  have e0 : (0 : Int32).toInt = 0 := by decide
  have e1 : (1 : Int32).toInt = 1 := by decide
  have e8 : (8 : Int32).toInt = 8 := by decide
  have e30 : (30 : Int32).toInt = 30 := by decide
  have stop : ∀ (fu : Nat) (a2 : Int32) (μ : Mem), Mg μ0 μ → ((∃ f, Mf t n f μ ∧ o = .inl f) ∨ (∃ p L, MwT t n p μ ∧ MpL μ L ∧ o = .inr (p, L))) → pk (p_X12_readPart_b4 fu a1 a2 0 μ) (MqL t n μ0 o) := by
    intro fu a2 μ hg h
    cases fu with
    | zero => intro r e; rw [p_X12_readPart_b4_z] at e; cases e
    | succ fu =>
      rw [p_X12_readPart_b4_s, if_pos rfl]
      rcases h with ⟨f, h1, h2⟩ | ⟨p, L, h1, h2, h3⟩
      · rw [if_neg (mf_bad h1), h2]
        exact pk_some ⟨hg, rfl, h1⟩
      · rw [if_pos h1.2.1, h3]
        exact pk_some ⟨hg, rfl, h1, h2⟩
  intro fu
  induction fu with
  | zero => intro K p L a2 μ _ _ _ _ _ _ _ _ r e; rw [p_X12_readPart_b4_z] at e; cases e
  | succ fu ih =>
    intro K p L a2 μ h2 hK h8 hg hw hP hC ho
    have hm30 := hP.2.1
    have b177 : ∀ (q : Mem) (p1 : Nat) (L1 : List Tkn), Mg μ0 q → MwT t n p1 q → MpL q L1 → ClT q K → K.length ≤ L1.length → (sl = 8 → stc L1 ≤ 8) → o = ctL t n sl K (.inr (p1, L1)) → pk (p_X12_readPart_b177 (p_X12_readPart_b4 fu) a1 a2 q) (MqL t n μ0 o) := by
      intro q p1 L1 hgq hwq hPq hCq hKq h8q hoq
      rw [p_X12_readPart_b177_eq, p_X12_closeAll_eq]
      refine pk_bd (q_McloseL (sl := sl) FUEL K p1 a2 q h2 hKq hwq hPq hCq) ?_
      rintro r20 μ19 ⟨hg19, hc⟩
      have hg19 : Mg q μ19 := hg19
      have b199 : ((∃ f, Mf t n f μ19 ∧ o = .inl f) ∨ (∃ p L, MwT t n p μ19 ∧ MpL μ19 L ∧ o = .inr (p, L))) → pk (p_X12_readPart_b199 (p_X12_readPart_b4 fu) a1 r20 μ19) (MqL t n μ0 o) := by
        intro h
        rw [p_X12_readPart_b199_eq, p_X12_readPart_b200_eq]
        exact stop fu r20 μ19 (hgq.tr hg19) h
      rcases hc with ⟨f, f1, f2⟩ | ⟨p2, f1, f2, f3, f4⟩ | ⟨p2, K2, f1, f2, f3, f4, f5, f6⟩
      · have f1 : Mf t n f μ19 := f1
        have hx : o = .inl f := by rw [hoq, f2]
        exact pk_ite (fun _ => b199 (Or.inl ⟨f, f1, hx⟩)) (fun _ => pk_ite (fun c => absurd c (mf_bad f1)) (fun _ => b199 (Or.inl ⟨f, f1, hx⟩)))
      · have f1 : r20.toInt = 0 := f1
        rw [if_pos (by rw [ti_le, e0, f1]; omega)]
        exact b199 (Or.inr ⟨p2, L1, f2, f3, by rw [hoq, f4]⟩)
      · have f1 : r20.toInt = ((K2.length + 1 : Nat) : Int) := f1
        have f3 : MwT t n p2 μ19 := f3
        rw [if_neg (by rw [ti_le, e0, f1]; omega), if_pos f3.2.1, p_X12_readPart_b200_eq]
        exact ih (1 :: K2) p2 L1 r20 μ19 (by rw [f1]; rfl) f2 h8q (hgq.tr hg19) f3 f4 f5 (by rw [hoq, f6])
    have hfail : rpL t n sl 50 p L = .inl p → pk (bd (p_X12_fails (μ.1 0 4) μ) (fun r9 μ8 => gd (isB r9) (some (r9, μ8)))) (MqL t n μ0 o) := by
      intro h
      rw [h, ctL_l] at ho
      rw [ho]
      exact pk_mono (q_Mfailb hw) (fun r hr2 => ⟨hg.tr hr2.1.mg, hr2.2⟩)
    have hrp : rpL t n sl 50 p L = (if 30 ≤ L.length then .inl p
      else if hr t n p = 91 then
        (match rpL t n sl 49 (p + 1) (L ++ [(2, 0)]) with
        | .inl f => .inl f
        | .inr (p1, L1) => if hr t n p1 = 44 then
            match rpL t n sl 49 (p1 + 1) L1 with
            | .inl f => .inl f
            | .inr (p2, L2) => if hr t n p2 = 93 then .inr (p2 + 1, L2) else .inl p2
          else .inl p1)
      else if hr t n p = 45 ∨ isD (hr t n p) = true then
        (match rn t n p with
        | .inl f => .inl f
        | .inr q => .inr (q, L ++ [nvl t n p]))
      else if hr t n p = 42 ∧ stc L < sl then .inr (p + 1, L ++ [(3, 0)])
      else .inl p) := by
      rw [show (50 : Nat) = 49 + 1 from rfl]
      unfold rpL
      rfl
    have full : L.length = 30 → pk (bd (p_X12_fails (μ.1 0 4) μ) (fun r9 μ8 => gd (isB r9) (some (r9, μ8)))) (MqL t n μ0 o) := fun h => hfail (by rw [hrp, if_pos (by omega)])
    have is30 : (μ.1 0 36 = 30) ↔ L.length = 30 := by rw [ti_eq, hP.1, e30]; omega
    rw [p_X12_readPart_b4_s, if_neg (by decide)]
    refine pk_bd (q_Mhere hw) ?_
    rintro r4 μ3 ⟨e, hh⟩
    have e : μ3 = μ := e
    subst e
    have hh : r4 = hr t n p := hh
    have b51 : ∀ k0 : Int32, k0 = 0 → (hr t n p = 91 ∨ (hr t n p ≠ 91 ∧ (hr t n p = 45 ∨ isD (hr t n p) = true))) → pk (p_X12_readPart_b51 (p_X12_readPart_b4 fu) a1 a2 1 r4 k0 μ3) (MqL t n μ0 o) := by
      intro k0 hk hc
      rw [p_X12_readPart_b51_eq]
      refine pk_ite (fun c => full (is30.mp c)) (fun c => ?_)
      have hm : ¬ L.length = 30 := fun h => c (is30.mpr h)
      rw [if_pos hk, p_X12_readPart_b83_eq, hh]
      rcases hc with hc | ⟨hc, hc2⟩
      · rw [if_pos hc]
        refine pk_bvy (fun μ27 e27 => ?_)
        have hE27 : Me μ3 μ27 := by rw [e27]; exact Me.put (by omega) _
        have hw27 : MwT t n (p + 1) μ27 := by rw [e27]; exact mw_next hw (hr_lt (by rw [hc]; decide))
        have hP27 := hP.me hE27
        refine pk_bw (q_MlayL (K := K) (x := (2, 0)) rfl rfl hw27 hP27.1 (by rw [stc_app, stc_one, if_neg (by decide)]; exact hP27.2.2.1) hP27.2.2.2 (by omega) (hC.me hE27)) ?_
        rintro μ28 ⟨g28, w28, p28, c28⟩
        refine pk_gd (fun _ => pk_bvy (fun μ30 e30' => pk_bvy (fun v31 e31 => ?_)))
        rw [tn_of h2] at e30'
        have g30 : ∀ i k, i ≠ 24 → μ30.1 i k = μ28.1 i k := fun i k hi => by rw [e30', sF_i hi]
        have w30 : MwT t n (p + 1) μ30 := mw_all w28 (g30 _ _ (by decide)) (g30 _ _ (by decide)) (g30 _ _ (by decide)) (fun j => g30 _ _ (by decide))
        have el : (L ++ [((2 : Int32), (0 : Int32))]).length = L.length + 1 := by rw [List.length_append]; rfl
        refine ih (0 :: K) (p + 1) (L ++ [(2, 0)]) v31 μ30 (by rw [e31, ti_add (by omega) (by omega), e1, h2]; rfl) (by simp only [List.length_cons]; omega) (fun h => by rw [stc_app, stc_one, if_neg (by decide)]; exact h8 h) ((hg.tr hE27.mg).tr (g28.tr (fun i k _ _ _ h24 => g30 i k h24))) w30 (p28.of (g30 _ _ (by decide)) (g30 _ _ (by decide)) (fun i => g30 _ _ (by decide)) (fun i => g30 _ _ (by decide))) ⟨Or.inl rfl, by rw [e30', sF_v]; exact e0, c28.cong (fun j hj => by rw [e30', sF_k (by omega)])⟩ ?_
        rw [ho, ctL_open (by omega) hc]
      · rw [if_neg hc, if_pos hk]
        refine pk_bd (pk_both (q_Mnumber hw) (q_MnumV hw)) ?_
        rintro r15 μ14 ⟨⟨hE14, hO14⟩, hV⟩
        have hE14 : Me μ3 μ14 := hE14
        cases hrn : rn t n p with
        | inl f =>
          rw [hrn] at hO14
          have hO14 : r15 = 0 ∧ Mf t n f μ14 := hO14
          rw [if_pos hO14.1]
          have hx : rpL t n sl 50 p L = .inl f := by rw [hrp, if_neg (by omega), if_neg hc, if_pos hc2, hrn]
          rw [hx, ctL_l] at ho
          rw [ho]
          exact pk_some ⟨hg.tr hE14.mg, rfl, hO14.2⟩
        | inr q =>
          rw [hrn] at hO14
          have hO14 : r15 = 1 ∧ MwT t n q μ14 := hO14
          have hV : μ14.1 0 6 = (nvl t n p).1 ∧ μ14.1 0 7 = (nvl t n p).2 := hV q hrn
          rw [if_neg (by rw [hO14.1]; decide)]
          have hP14 := hP.me hE14
          have hn3 : ¬ (nvl t n p).1 = 3 := nvl_n3 t n p
          have hst : stc (L ++ [nvl t n p]) = stc L := by rw [stc_app, stc_one, if_neg hn3]; rfl
          have el : (L ++ [nvl t n p]).length = L.length + 1 := by rw [List.length_append]; rfl
          refine pk_bw (q_MlayL (K := K) (x := nvl t n p) hV.1 hV.2 hO14.2 hP14.1 (by rw [hst]; exact hP14.2.2.1) hP14.2.2.2 (by omega) (hC.me hE14)) ?_
          rintro μ17 ⟨g17, w17, p17, c17⟩
          refine b177 μ17 q (L ++ [nvl t n p]) ((hg.tr hE14.mg).tr g17) w17 p17 c17 (by omega) (fun h => by rw [hst]; exact h8 h) ?_
          rw [ho, hrp, if_neg (by omega), if_neg hc, if_pos hc2, hrn]
    have b29 : (hr t n p ≠ 42 ∨ a1 = 0) → pk (p_X12_readPart_b29 (p_X12_readPart_b4 fu) a1 a2 1 r4 μ3) (MqL t n μ0 o) := by
      intro hns
      rw [p_X12_readPart_b29_eq, p_X12_readPart_b30_eq, if_pos rfl, hh]
      refine pk_ite (fun c => ?_) (fun c => ?_)
      · rw [← hh]; exact b51 0 rfl (Or.inl c)
      · refine pk_bd (q_Mbegins hw) ?_
        rintro r38 μ37 ⟨e, hb⟩
        have e : μ37 = μ3 := e
        subst e
        have hb : r38 = 0 ↔ ¬ (hr t n p = 45 ∨ isD (hr t n p) = true) := hb
        refine pk_ite (fun c2 => ?_) (fun c2 => ?_)
        · have c2 := hb.mp c2
          refine hfail ?_
          rw [hrp]
          by_cases c3 : 30 ≤ L.length
          · rw [if_pos c3]
          · rw [if_neg c3, if_neg c, if_neg c2, if_neg ?_]
            rintro ⟨x1, x2⟩
            rcases hns with hns | hns
            · exact hns x1
            · rcases ha with ⟨_, y⟩ | ⟨y, _⟩
              · omega
              · rw [hns] at y; exact absurd y (by decide)
        · have c2 : hr t n p = 45 ∨ isD (hr t n p) = true := Classical.byContradiction (fun h => c2 (hb.mpr h))
          rw [← hh]; exact b51 0 rfl (Or.inr ⟨c, c2⟩)
    refine pk_ite (fun c => pk_ite (fun c2 => b29 (Or.inr c2)) (fun c2 => ?_)) (fun c => b29 (Or.inl (by rw [← hh]; exact c)))
    rw [hh] at c
    have hsl : sl = 8 := by
      rcases ha with ⟨x, _⟩ | ⟨_, y⟩
      · exact absurd x c2
      · exact y
    have h8' := h8 hsl
    rw [p_X12_readPart_b30_eq, if_neg (by decide), p_X12_readPart_b51_eq]
    refine pk_ite (fun c3 => full (is30.mp c3)) (fun c3 => ?_)
    have hm : ¬ L.length = 30 := fun h => c3 (is30.mpr h)
    rw [if_neg (by decide)]
    have hn91 : ¬ hr t n p = 91 := by rw [c]; decide
    have hnum : ¬ (hr t n p = 45 ∨ isD (hr t n p) = true) := by rw [c]; decide
    refine pk_ite (fun c4 => hfail ?_) (fun c4 => ?_)
    · rw [ti_eq, hP.2.2.1, e8] at c4
      rw [hrp, if_neg (by omega), if_neg hn91, if_neg hnum, if_neg (by omega)]
    · rw [ti_eq, hP.2.2.1, e8] at c4
      rw [p_X12_readPart_b83_eq, hh, if_neg hn91, if_neg (by decide)]
      refine pk_bvy (fun μ23 e23 => pk_bvy (fun μ24 e24 => ?_))
      have hE23 : Me μ3 μ23 := by rw [e23]; exact Me.put (by omega) _
      have hw23 : MwT t n (p + 1) μ23 := by rw [e23]; exact mw_next hw (hr_lt (by rw [c]; decide))
      have g24 : ∀ i k, ¬ (i = 0 ∧ k = 37) → μ24.1 i k = μ23.1 i k := by
        intro i k h
        by_cases e : i = 0
        · subst e; rw [e24, sF_k (fun e => h ⟨rfl, e⟩)]
        · rw [e24, sF_i e]
      have hP23 := hP.me hE23
      have hw24 : MwT t n (p + 1) μ24 := mw_all hw23 (g24 _ _ (by decide)) (g24 _ _ (by decide)) (g24 _ _ (by decide)) (fun j => g24 _ _ (by omega))
      have hst : stc (L ++ [((3 : Int32), (0 : Int32))]) = stc L + 1 := by rw [stc_app, stc_one, if_pos rfl]
      have el : (L ++ [((3 : Int32), (0 : Int32))]).length = L.length + 1 := by rw [List.length_append]; rfl
      have hsl2 := stc_le L
      have t37 : (μ24.1 0 37).toInt = (stc (L ++ [((3 : Int32), (0 : Int32))]) : Int) := by rw [hst, e24, sF_v, ti_add (by have := hP23.2.2.1; omega) (by have := hP23.2.2.1; omega), e1, hP23.2.2.1]; rfl
      refine pk_bw (q_MlayL (K := K) (x := (3, 0)) rfl rfl hw24 (by rw [g24 _ _ (by decide)]; exact hP23.1) t37 (fun i y hy => by rw [g24 22 i (by omega), g24 23 i (by omega)]; exact hP23.2.2.2 i y hy) (by omega) ((hC.me hE23).cong (fun j _ => g24 24 j (by omega)))) ?_
      rintro μ25 ⟨g25, w25, p25, c25⟩
      have hG24 : Mg μ23 μ24 := fun i k h1 _ _ _ => g24 i k (fun e => h1 ⟨e.1, by omega⟩)
      refine b177 μ25 (p + 1) (L ++ [(3, 0)]) ((hg.tr hE23.mg).tr (hG24.tr g25)) w25 p25 c25 (by omega) (fun _ => by omega) ?_
      rw [ho, hrp, if_neg (by omega), if_neg hn91, if_neg hnum, if_pos ⟨c, by omega⟩]
theorem q_MreadpartL {t : Nat → Int32} {n sl p : Nat} {L : List Tkn} {a1 : Int32} (ha : (a1 = 0 ∧ sl = 0) ∨ (a1 = 1 ∧ sl = 8)) {μ : Mem} (h8 : sl = 8 → stc L ≤ 8) (hw : MwT t n p μ) (hP : MpL μ L) : pk (p_X12_readPart a1 μ) (MqL t n μ (rpL t n sl 50 p L)) := by
  rw [p_X12_readPart_eq]
  exact q_MpartL ha FUEL [] p L 0 μ (by decide) (Nat.zero_le _) h8 Mg.rf hw hP trivial rfl
