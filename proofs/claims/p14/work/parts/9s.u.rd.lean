def Kr (μ : Mem) : List Ky → Prop
  | [] => True
  | x :: K => μ.1 11 K.length = x.1 - 97 + 1 ∧ (μ.1 12 K.length).toInt = (x.2 : Int) ∧ Kr μ K
theorem Kr.cong {μ q : Mem} : ∀ {K : List Ky}, Kr μ K → (∀ j, j < K.length → q.1 11 j = μ.1 11 j ∧ q.1 12 j = μ.1 12 j) → Kr q K := by
  intro K
  induction K with
  | nil => intro _ _; trivial
  | cons x K ih =>
    intro h c
    have d := c K.length (by simp)
    exact ⟨by rw [d.1]; exact h.1, by rw [d.2]; exact h.2.1, ih h.2.2 (fun j hj => c j (by simp; omega))⟩
theorem kr_mem {μ : Mem} {l : Int32} {m : Nat} : ∀ {K : List Ky}, Kr μ K → ((∃ k, k < K.length ∧ μ.1 11 k = l - 97 + 1 ∧ (μ.1 12 k).toInt = (m : Int)) ↔ (l, m) ∈ K) := by
  intro K
  induction K with
  | nil =>
    intro _
    constructor
    · rintro ⟨k, hk, _⟩; cases hk
    · intro h; cases h
  | cons x K ih =>
    rintro ⟨h1, h2, h3⟩
    have ih := ih h3
    rw [List.mem_cons]
    constructor
    · rintro ⟨k, hk, a, b⟩
      have hk : k < K.length + 1 := hk
      by_cases c : k = K.length
      · left
        rw [c, h1] at a
        rw [c, h2] at b
        have e1 := (Int32.sub_left_inj 97).mp ((Int32.add_left_inj 1).mp a)
        exact Prod.ext e1.symm (by show m = x.2; omega)
      · exact Or.inr (ih.mp ⟨k, by omega, a, b⟩)
    · rintro (e | e)
      · refine ⟨K.length, by simp, ?_, ?_⟩
        · rw [h1, ← e]
        · rw [h2, ← e]
      · obtain ⟨k, hk, a, b⟩ := ih.mpr e
        exact ⟨k, by simp; omega, a, b⟩
theorem q_Mnew {F : Nat} {μ : Mem} {a1 a2 : Int32} (h27 : (μ.1 0 27).toInt = (F : Int)) : pk (p_X12_isNew a1 a2 μ) (fun r => r.2 = μ ∧ (r.1 = 0 ↔ ∃ k, k < F ∧ μ.1 11 k = a1 ∧ μ.1 12 k = a2)) := by
  have e0 : (0 : Int32).toInt = 0 := by decide
  have e1 : (1 : Int32).toInt = 1 := by decide
  have hhi := ti_hi (μ.1 0 27)
  have loop : ∀ (fu i : Nat) (a3 : Int32), a3.toInt = (i : Int) → i ≤ F → (∀ k, k < i → ¬ (μ.1 11 k = a1 ∧ μ.1 12 k = a2)) → pk (p_X12_isNew_b2 fu a1 a2 a3 μ) (fun r => r.2 = μ ∧ (r.1 = 0 ↔ ∃ k, k < F ∧ μ.1 11 k = a1 ∧ μ.1 12 k = a2)) := by
    intro fu
    induction fu with
    | zero => intro i a3 _ _ _ r e; rw [p_X12_isNew_b2_z] at e; cases e
    | succ fu ih =>
      intro i a3 h3 hi hk
      rw [p_X12_isNew_b2_s, tn_of h3]
      have go : i < F → ¬ (μ.1 11 i = a1 ∧ μ.1 12 i = a2) → pk (p_X12_isNew_b32 (p_X12_isNew_b2 fu) a1 a2 a3 μ) (fun r => r.2 = μ ∧ (r.1 = 0 ↔ ∃ k, k < F ∧ μ.1 11 k = a1 ∧ μ.1 12 k = a2)) := by
        intro hF hne
        rw [p_X12_isNew_b32_eq]
        refine pk_bv (ih (i + 1) _ (by rw [ti_add (by omega) (by omega), h3, e1]; omega) (by omega) (fun k hk' => ?_))
        by_cases c : k = i
        · rw [c]; exact hne
        · exact hk k (by omega)
      refine pk_ite (fun c => ?_) (fun c => pk_gd (fun _ => pk_ite (fun c1 => pk_gd (fun _ => pk_ite (fun c2 => ?_) (fun c2 => ?_))) (fun c1 => ?_)))
      · rw [ti_le, h27, h3] at c
        refine pk_some ⟨rfl, fun e => absurd e (show ¬ (1 : Int32) = 0 by decide), ?_⟩
        rintro ⟨k, hkF, a, b⟩
        exact absurd ⟨a, b⟩ (hk k (by omega))
      · rw [ti_le, h27, h3] at c
        exact pk_some ⟨rfl, fun _ => ⟨i, by omega, c1, c2⟩, fun _ => rfl⟩
      · rw [ti_le, h27, h3] at c
        exact go (by omega) (fun x => c2 x.2)
      · rw [ti_le, h27, h3] at c
        exact go (by omega) (fun x => c1 x.1)
  rw [p_X12_isNew_eq]
  exact loop FUEL 0 0 e0 (by omega) (fun k hk => by omega)
def Gz4 (t : Nat → Int32) (n : Nat) (v : Nat × List Ky) (μ : Mem) : Prop := MwT t n v.1 μ ∧ (μ.1 0 27).toInt = (v.2.length : Int) ∧ Kr μ v.2 ∧ (0 ≤ (μ.1 0 28).toInt ∧ (μ.1 0 28).toInt ≤ 80 * (v.2.length : Int)) ∧ v.2.length ≤ v.1
def Gp4 (t : Nat → Int32) (n : Nat) (o : Rd (Nat × List Ky)) (r : Int32 × Mem) : Prop := match o with | .inl f => r.1 = 0 ∧ Mf t n f r.2 | .inr v => r.1 = 1 ∧ Gz4 t n v r.2
theorem q_Mfun {t : Nat → Int32} {n p : Nat} {K : List Ky} {μ : Mem} (h : Gz4 t n (p, K) μ) : pk (p_X12_readFunction μ) (Gp4 t n (rf t n K p)) := by
  have e1 : (1 : Int32).toInt = 1 := by decide
  obtain ⟨hw, h27, hK, ⟨h28a, h28b⟩, hlp⟩ := h
  have hw : MwT t n p μ := hw
  have h27 : (μ.1 0 27).toInt = (K.length : Int) := h27
  have hK : Kr μ K := hK
  have h28b : (μ.1 0 28).toInt ≤ 80 * (K.length : Int) := h28b
  have hlp : K.length ≤ p := hlp
  have hpn : p ≤ n := hw.2.2.2
  have hn8 : n ≤ 800 := hw.1.2.1
  rw [p_X12_readFunction_eq]
  refine pk_bvy (fun v1 ev1 => pk_bd (q_Mhere hw) ?_)
  rintro r3 μ2 ⟨e, hh⟩
  have hh : r3 = hr t n p := hh
  have e : μ2 = μ := e
  subst e
  refine pk_ite (fun c => ?_) (fun c => ?_)
  · rw [isL_M, hh] at c
    have er : rf t n K p = .inl p := by unfold rf; rw [if_neg (by rw [c]; decide)]
    rw [er]
    exact pk_mono (q_Mfailb hw) (fun r hr => ⟨hr.2.1, hr.2.2⟩)
  rw [isL_M, hh] at c
  have hL : isL (hr t n p) = true := by simpa using c
  have er : rf t n K p = bnd (tkn t n 41 (rnl t n (tkn t n 40 (.inr (p + 1, []))))) (rfe t n K p) := by unfold rf; rw [if_pos hL]
  rw [er]
  refine pk_bd (q_Mhere hw) ?_
  rintro r6 μ5 ⟨e, hh6⟩
  have hh6 : r6 = hr t n p := hh6
  have e : μ5 = μ2 := e
  subst e
  refine pk_bvy (fun v7 e7 => pk_bvy (fun μ8 m8 => pk_gd (fun _ => pk_bvy (fun μ9 m9 => ?_))))
  rw [hh6] at e7
  have E8 : Me μ5 μ8 := by rw [m8]; exact Me.put (by omega) _
  have w8 : MwT t n (p + 1) μ8 := by rw [m8]; exact mw_next hw (hr_lt (isL_ne hL))
  have z27 : (μ8.1 0 27).toInt = (K.length : Int) := by rw [E8 0 27 (by omega)]; exact h27
  rw [tn_of z27] at m9
  have w9 : MwT t n (p + 1) μ9 := by rw [m9]; exact mw_of w8 (by rw [sF_i (by decide)]) (by rw [sF_i (by decide)]) (by rw [sF_i (by decide)]) (fun j => by rw [sF_i (by decide)])
  obtain ⟨b, hb⟩ : ∃ b : Nat, (μ5.1 0 28).toInt = (b : Int) := ⟨(μ5.1 0 28).toInt.toNat, by omega⟩
  have I9 : (μ9.1 0 27).toInt = (K.length : Int) ∧ (μ9.1 0 28).toInt = (b : Int) ∧ (μ9.1 14 K.length).toInt = (b : Int) ∧ Kr μ9 K := by
    refine ⟨by rw [m9, sF_i (by decide)]; exact z27, by rw [m9, sF_i (by decide), E8 0 28 (by omega)]; exact hb, by rw [m9, sF_v, E8 0 28 (by omega)]; exact hb, hK.cong (fun j _ => ⟨by rw [m9, sF_i (by decide), E8 11 _ (by omega)], by rw [m9, sF_i (by decide), E8 12 _ (by omega)]⟩)⟩
  have Ime : ∀ {x z : Mem}, Me x z → ((x.1 0 27).toInt = (K.length : Int) ∧ (x.1 0 28).toInt = (b : Int) ∧ (x.1 14 K.length).toInt = (b : Int) ∧ Kr x K) → ((z.1 0 27).toInt = (K.length : Int) ∧ (z.1 0 28).toInt = (b : Int) ∧ (z.1 14 K.length).toInt = (b : Int) ∧ Kr z K) := by
    rintro x z e ⟨a1, a2, a3, a4⟩
    exact ⟨by rw [e 0 27 (by omega)]; exact a1, by rw [e 0 28 (by omega)]; exact a2, by rw [e 14 _ (by omega)]; exact a3, a4.cong (fun j _ => ⟨e 11 _ (by omega), e 12 _ (by omega)⟩)⟩
  refine pk_bd (q_Mtakes (c := 40) (by decide) w9) ?_
  rintro r11 μ10 ⟨E10, ho⟩
  by_cases c40 : hr t n (p + 1) = 40
  rotate_left
  · rw [if_neg c40] at ho
    obtain ⟨o1, o2⟩ : r11 = 0 ∧ Mf t n (p + 1) μ10 := ho
    rw [if_pos o1]
    have : tkn t n 40 (.inr (p + 1, [])) = .inl (p + 1) := by
      show (if hr t n (p + 1) = 40 then _ else _) = _
      rw [if_neg c40]
    rw [this]
    exact pk_some ⟨rfl, o2⟩
  rw [if_pos c40] at ho
  obtain ⟨o1, w10⟩ : r11 = 1 ∧ MwT t n (p + 2) μ10 := ho
  rw [if_neg (by rw [o1]; decide)]
  have ht40 : tkn t n 40 (.inr (p + 1, [])) = .inr (p + 2, []) := by
    show (if hr t n (p + 1) = 40 then _ else _) = _
    rw [if_pos c40]
  have hlen : ∀ v, tkn t n 41 (rnl t n (tkn t n 40 (.inr (p + 1, [])))) = .inr v → v.2.length ≤ 5 := fun v hv => rnl_len hv
  rw [ht40] at hlen ⊢
  have I10 := Ime E10 I9
  refine pk_bd (q_Mvars I10.1 w10) ?_
  rintro r14 μ13 ⟨V13, ho⟩
  have hmw : Mn (p + 2) (rnl t n (.inr (p + 2, []))) := by
    refine Mn.b (show Mn (p + 2) (.inr (p + 2, []) : Rd Nl) from Nat.le_refl _) (fun v => ?_)
    split
    · exact Nat.le_refl _
    · exact nms_mono 4 (nm1_mono v)
  generalize rnl t n (.inr (p + 2, [])) = o at ho hlen hmw ⊢
  cases o with
  | inl f =>
    obtain ⟨o1, o2⟩ : r14 = 0 ∧ Mf t n f μ13 := ho
    rw [if_pos o1]
    exact pk_some ⟨rfl, o2⟩
  | inr w =>
    obtain ⟨o1, w13, T13, c13⟩ : r14 = 1 ∧ MwT t n w.1 μ13 ∧ Tl μ13 w.2 ∧ (μ13.1 12 K.length).toInt = (w.2.length : Int) := ho
    have I13 : (μ13.1 0 27).toInt = (K.length : Int) ∧ (μ13.1 0 28).toInt = (b : Int) ∧ (μ13.1 14 K.length).toInt = (b : Int) ∧ Kr μ13 K := by
      obtain ⟨a1, a2, a3, a4⟩ := I10
      exact ⟨by rw [V13.2.2 27 (by decide) (by decide) (by decide) (by decide)]; exact a1, by rw [V13.2.2 28 (by decide) (by decide) (by decide) (by decide)]; exact a2, by rw [V13.1 14 _ (by decide) (by decide) (by decide) (by decide)]; exact a3, a4.cong (fun j hj => ⟨V13.1 11 _ (by decide) (by decide) (by decide) (by decide), V13.2.1 j (by omega)⟩)⟩
    rw [if_neg (by rw [o1]; decide)]
    refine pk_bd (q_Mtakes (c := 41) (by decide) w13) ?_
    rintro r17 μ16 ⟨E16, ho⟩
    by_cases c41 : hr t n w.1 = 41
    rotate_left
    · rw [if_neg c41] at ho
      obtain ⟨o1, o2⟩ : r17 = 0 ∧ Mf t n w.1 μ16 := ho
      rw [if_pos o1]
      have : tkn t n 41 (.inr w) = .inl w.1 := by
        show (if hr t n w.1 = 41 then _ else _) = _
        rw [if_neg c41]
      rw [this]
      exact pk_some ⟨rfl, o2⟩
    rw [if_pos c41] at ho
    obtain ⟨o1, w16⟩ : r17 = 1 ∧ MwT t n (w.1 + 1) μ16 := ho
    rw [if_neg (by rw [o1]; decide)]
    have ht41 : tkn t n 41 (.inr w) = .inr (w.1 + 1, w.2) := by
      show (if hr t n w.1 = 41 then _ else _) = _
      rw [if_pos c41]
    have hw5 : w.2.length ≤ 5 := hlen (w.1 + 1, w.2) ht41
    rw [ht41]
    show pk _ (Gp4 t n (rfe t n K p (w.1 + 1, w.2)))
    have I16 := Ime E16 I13
    have T16 : Tl μ16 w.2 := fun a ha => by rw [E16 21 _ (by omega)]; exact T13 a ha
    have c16 : (μ16.1 12 K.length).toInt = (w.2.length : Int) := by rw [E16 12 _ (by omega)]; exact c13
    refine pk_bd (q_Mhere w16) ?_
    rintro r20 μ19 ⟨e, hh20⟩
    have hh20 : r20 = hr t n (w.1 + 1) := hh20
    have e : μ19 = μ16 := e
    subst e
    refine pk_ite (fun c61 => ?_) (fun c61 => ?_)
    rotate_left
    · rw [hh20] at c61
      have : rfe t n K p (w.1 + 1, w.2) = .inl (w.1 + 1) := by unfold rfe; rw [if_neg c61]
      rw [this]
      exact pk_mono (q_Mfailb w16) (fun r hr => ⟨hr.2.1, hr.2.2⟩)
    rw [hh20] at c61
    refine pk_gd (fun _ => ?_)
    rw [tn_of I16.1]
    refine pk_bd (q_Mnew I16.1) ?_
    rintro r23 μ22 ⟨e, hz⟩
    have e : μ22 = μ19 := e
    subst e
    have hz : r23 = 0 ↔ ∃ k, k < K.length ∧ μ22.1 11 k = v7 ∧ μ22.1 12 k = μ22.1 12 K.length := hz
    have hmem : (∃ k, k < K.length ∧ μ22.1 11 k = v7 ∧ μ22.1 12 k = μ22.1 12 K.length) ↔ (hr t n p, w.2.length) ∈ K := by
      rw [← kr_mem (l := hr t n p) (m := w.2.length) I16.2.2.2]
      constructor
      · rintro ⟨k, x, y, z⟩; exact ⟨k, x, by rw [y, e7], by rw [z]; exact c16⟩
      · rintro ⟨k, x, y, z⟩; exact ⟨k, x, by rw [y, e7], ti_eq.mpr (by rw [z, c16])⟩
    refine pk_ite (fun cz => ?_) (fun cz => ?_)
    · have hm := hmem.mp (hz.mp cz)
      have : rfe t n K p (w.1 + 1, w.2) = .inl p := by unfold rfe; rw [if_pos c61, if_pos hm]
      rw [this]
      refine pk_bd (q_fails v1 μ22) ?_
      rintro r36 μ35 e35
      obtain ⟨e36, e35⟩ := pr_inj e35
      have e36 : 0 = r36 := e36
      have e35 : sF μ22 0 5 v1 = μ35 := e35
      refine pk_gd (fun _ => pk_some ⟨e36.symm, ?_⟩)
      show Mf t n p μ35
      rw [← e35]
      exact ⟨(Me.put (by omega) _).ms w16.1, by rw [sF_v, ev1]; exact hw.2.2.1⟩
    have hm : ¬ (hr t n p, w.2.length) ∈ K := fun x => cz (hz.mpr (hmem.mpr x))
    have hrf : rfe t n K p (w.1 + 1, w.2) = bnd (tk t n 59 (re t n 20 w.2 (w.1 + 1 + 1, 0))) (fun x => .inr (x.1, (hr t n p, w.2.length) :: K)) := by unfold rfe; rw [if_pos c61, if_neg hm]
    rw [hrf]
    refine pk_bvy (fun μ25 m25 => pk_gd (fun _ => pk_bvy (fun μ26 m26 => ?_)))
    have E25 : Me μ22 μ25 := by rw [m25]; exact Me.put (by omega) _
    have w25 : MwT t n (w.1 + 1 + 1) μ25 := by rw [m25]; exact mw_next w16 (hr_lt (by rw [c61]; decide))
    have I25 := Ime E25 I16
    rw [tn_of I25.1] at m26
    have w26 : MwT t n (w.1 + 1 + 1) μ26 := by rw [m26]; exact mw_of w25 (by rw [sF_i (by decide)]) (by rw [sF_i (by decide)]) (by rw [sF_i (by decide)]) (fun j => by rw [sF_i (by decide)])
    have hbl : b ≤ 100000 := by omega
    refine pk_bd (q_Mexpr (F := K.length) (b := b) hw5 w26 (by rw [m26, sF_i (by decide)]; exact I25.1) (by rw [m26, sF_i (by decide)]; exact I25.2.2.1) hbl (by rw [m26, sF_i (by decide)]; exact I25.2.1) (fun a ha => by rw [m26, sF_i (by decide), E25 21 _ (by omega)]; exact T16 a ha)) ?_
    rintro r28 μ27 ⟨M27, ho⟩
    have hmr := re_mono (t := t) (n := n) 20 w.2 (w.1 + 1 + 1, 0)
    generalize re t n 20 w.2 (w.1 + 1 + 1, 0) = o at ho hmr ⊢
    cases o with
    | inl f =>
      obtain ⟨o1, o2⟩ : r28 = 0 ∧ Mf t n f μ27 := ho
      rw [if_pos o1]
      exact pk_some ⟨rfl, o2⟩
    | inr x =>
      obtain ⟨o1, X27⟩ : r28 = 1 ∧ Mx4 t n K.length b w.2 [] x μ27 := ho
      rw [if_neg (by rw [o1]; decide)]
      refine pk_bd (q_Mtakes (c := 59) (by decide) X27.1) ?_
      rintro r31 μ30 ⟨E30, ho⟩
      by_cases c59 : hr t n x.1 = 59
      rotate_left
      · rw [if_neg c59] at ho
        obtain ⟨o1, o2⟩ : r31 = 0 ∧ Mf t n x.1 μ30 := ho
        rw [if_pos o1]
        have : tk t n 59 (.inr x) = .inl x.1 := by
          show (if hr t n x.1 = 59 then _ else _) = _
          rw [if_neg c59]
        rw [this]
        exact pk_some ⟨rfl, o2⟩
      rw [if_pos c59] at ho
      obtain ⟨o1, w30⟩ : r31 = 1 ∧ MwT t n (x.1 + 1) μ30 := ho
      rw [if_neg (by rw [o1]; decide)]
      have ht59 : tk t n 59 (.inr x) = .inr (x.1 + 1, x.2) := by
        show (if hr t n x.1 = 59 then _ else _) = _
        rw [if_pos c59]
      have h1w : p + 2 ≤ w.1 := hmw
      have h2w : w.1 + 1 + 1 ≤ x.1 := hmr
      rw [ht59]
      refine pk_gd (fun _ => pk_gd (fun _ => pk_bvy (fun μ33 m33 => pk_bvy (fun μ34 m34 => pk_some ⟨rfl, ?_⟩))))
      have g0 : ∀ k, k ≠ 27 → μ34.1 0 k = μ30.1 0 k := fun k hk => by rw [m34, sF_k hk, m33, sF_i (by decide)]
      have g : ∀ i k, i ≠ 0 → i ≠ 15 → μ34.1 i k = μ30.1 i k := fun i k hi hj => by rw [m34, sF_i hi, m33, sF_i hj]
      have y27 : (μ30.1 0 27).toInt = (K.length : Int) := by rw [E30 0 27 (by omega)]; exact X27.2.1.1
      have y28 : (μ30.1 0 28).toInt = ((b + x.2 : Nat) : Int) := by rw [E30 0 28 (by omega)]; exact X27.2.2.1.1
      have yx : x.2 ≤ 80 := X27.2.2.1.2
      have c11 : ∀ j, μ34.1 11 j = μ26.1 11 j := fun j => by rw [g 11 j (by decide) (by decide), E30 11 _ (by omega), M27 11 j (by decide) (by decide)]
      have c12 : ∀ j, μ34.1 12 j = μ22.1 12 j := fun j => by rw [g 12 j (by decide) (by decide), E30 12 _ (by omega), M27 12 j (by decide) (by decide), m26, sF_i (by decide), E25 12 _ (by omega)]
      refine ⟨mw_of w30 (g0 3 (by decide)) (g0 4 (by decide)) (g0 5 (by decide)) (fun j => g 1 j (by decide) (by decide)), ?_, ⟨?_, ?_, ?_⟩, ?_, ?_⟩
      · rw [m34, sF_v, m33, sF_i (by decide), ti_add (by omega) (by omega), y27, e1]; simp
      · rw [c11, m26, sF_v]; exact e7
      · rw [c12]; exact c16
      · exact I25.2.2.2.cong (fun j hj => ⟨by rw [c11, m26, sF_k (by omega)], by rw [c12, E25 12 _ (by omega)]⟩)
      · rw [g0 28 (by decide), y28]
        show 0 ≤ ((b + x.2 : Nat) : Int) ∧ ((b + x.2 : Nat) : Int) ≤ 80 * ((K.length + 1 : Nat) : Int)
        omega
      · show K.length + 1 ≤ x.1 + 1
        omega
