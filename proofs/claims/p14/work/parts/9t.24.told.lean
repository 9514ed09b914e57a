def Kr6 (μ : Mem) : List Fn5 → Prop
  | [] => True
  | f :: G => (μ.1 11 G.length = f.1 - 97 + 1 ∧ (μ.1 12 G.length).toInt = (f.2.1.length : Int) ∧ Vr5 G.length μ f.2.1 ∧ (μ.1 14 G.length).toInt = (tot G : Int) ∧ (μ.1 15 G.length).toInt = (f.2.2.1.length : Int) ∧ Tc (tot G) f.2.2.1 μ) ∧ f.2.1.length ≤ 5 ∧ Kr6 μ G
theorem tot_c (f : Fn5) (G : List Fn5) : tot (f :: G) = f.2.2.1.length + tot G := by unfold tot; rw [List.map_cons, List.sum_cons]
theorem Kr6.cong {μ q : Mem} : ∀ {G : List Fn5}, Kr6 μ G → (∀ j, j < G.length → q.1 11 j = μ.1 11 j ∧ q.1 12 j = μ.1 12 j ∧ q.1 14 j = μ.1 14 j ∧ q.1 15 j = μ.1 15 j) → (∀ k, k < 5 * G.length → q.1 13 k = μ.1 13 k) → (∀ k, k < tot G → q.1 16 k = μ.1 16 k ∧ q.1 17 k = μ.1 17 k ∧ q.1 18 k = μ.1 18 k) → Kr6 q G := by
  intro G
  induction G with
  | nil => intro _ _ _ _; trivial
  | cons f G ih =>
    rintro ⟨⟨h1, h2, h3, h4, h5, h6⟩, hl, hG⟩ a b c
    have a : ∀ j, j < G.length + 1 → q.1 11 j = μ.1 11 j ∧ q.1 12 j = μ.1 12 j ∧ q.1 14 j = μ.1 14 j ∧ q.1 15 j = μ.1 15 j := a
    have b : ∀ k, k < 5 * (G.length + 1) → q.1 13 k = μ.1 13 k := b
    rw [tot_c] at c
    obtain ⟨a1, a2, a3, a4⟩ := a G.length (by omega)
    exact ⟨⟨by rw [a1]; exact h1, by rw [a2]; exact h2, h3.cong (fun j hj => b _ (by omega)), by rw [a3]; exact h4, by rw [a4]; exact h5, h6.cong (fun k hk => c k (by omega))⟩, hl, ih hG (fun j hj => a j (by omega)) (fun k hk => b k (by omega)) (fun k hk => c k (by omega))⟩
theorem Kr6.me {μ q : Mem} {G : List Fn5} (h : Kr6 μ G) (e : Me μ q) : Kr6 q G := h.cong (fun j _ => ⟨e 11 _ (by omega), e 12 _ (by omega), e 14 _ (by omega), e 15 _ (by omega)⟩) (fun k _ => e 13 _ (by omega)) (fun k _ => ⟨e 16 _ (by omega), e 17 _ (by omega), e 18 _ (by omega)⟩)
theorem Kr6.kr {μ : Mem} : ∀ {G : List Fn5}, Kr6 μ G → Kr μ (G.map fkey) := by
  intro G
  induction G with
  | nil => intro _; trivial
  | cons f G ih =>
    rintro ⟨⟨h1, h2, _⟩, _, hG⟩
    refine ⟨?_, ?_, ih hG⟩
    · rw [map_len]; exact h1
    · rw [map_len]; exact h2
def Gz5 (t : Nat → Int32) (n : Nat) (v : Nat × List Fn5 × List Th3) (μ : Mem) : Prop := MwT t n v.1 μ ∧ (μ.1 0 27).toInt = (v.2.1.length : Int) ∧ Kr6 μ v.2.1 ∧ ((μ.1 0 28).toInt = (tot v.2.1 : Int) ∧ tot v.2.1 ≤ 80 * v.2.1.length) ∧ v.2.1.length ≤ v.1
def Gp5 (t : Nat → Int32) (n : Nat) (o : Rd (Nat × List Fn5 × List Th3)) (r : Int32 × Mem) : Prop := match o with | .inl f => r.1 = 0 ∧ Mf t n f r.2 | .inr v => r.1 = 1 ∧ Gz5 t n v r.2
theorem q_Mfun5 {t : Nat → Int32} {n p : Nat} {K : List Fn5} {C : List Th3} {μ : Mem} (h : Gz5 t n (p, K, C) μ) : pk (p_X12_readFunction μ) (Gp5 t n (rfP t n K C p)) := by
  have e1 : (1 : Int32).toInt = 1 := by decide
  obtain ⟨hw, h27, hK, ⟨h28a, h28b⟩, hlp⟩ := h
  have hw : MwT t n p μ := hw
  have h27 : (μ.1 0 27).toInt = (K.length : Int) := h27
  have hK : Kr6 μ K := hK
  have h28a : (μ.1 0 28).toInt = (tot K : Int) := h28a
  have h28b : tot K ≤ 80 * K.length := h28b
  have hlp : K.length ≤ p := hlp
  have hpn : p ≤ n := hw.2.2.2
  have hn8 : n ≤ 800 := hw.1.2.1
  rw [p_X12_readFunction_eq]
  refine pk_bvy (fun v1 ev1 => pk_bd (q_Mhere hw) ?_)
  rintro r3 μ2 ⟨e, hh⟩
  have hh : r3 = hr t n p := hh
  have e : μ2 = μ := e
  subst e
  refine pk_ite (fun c => ?_) (fun c => ?_)
  · rw [isL_M, hh] at c
    have er : rfP t n K C p = .inl p := by unfold rfP; rw [if_neg (by rw [c]; decide)]
    rw [er]
    exact pk_mono (q_Mfailb hw) (fun r hr => ⟨hr.2.1, hr.2.2⟩)
  rw [isL_M, hh] at c
  have hL : isL (hr t n p) = true := by simpa using c
  have er : rfP t n K C p = bnd (tkn t n 41 (rnl t n (tkn t n 40 (.inr (p + 1, []))))) (rfeP t n K C p) := by unfold rfP; rw [if_pos hL]
  rw [er]
  refine pk_bd (q_Mhere hw) ?_
  rintro r6 μ5 ⟨e, hh6⟩
  have hh6 : r6 = hr t n p := hh6
  have e : μ5 = μ2 := e
  subst e
  refine pk_bvy (fun v7 e7 => pk_bvy (fun μ8 m8 => pk_gd (fun _ => pk_bvy (fun μ9 m9 => ?_))))
  rw [hh6] at e7
  have E8 : Me μ5 μ8 := by rw [m8]; exact Me.put (by omega) _
  have w8 : MwT t n (p + 1) μ8 := by rw [m8]; exact mw_next hw (hr_lt (isL_ne hL))
  have z27 : (μ8.1 0 27).toInt = (K.length : Int) := by rw [E8 0 27 (by omega)]; exact h27
  rw [tn_of z27] at m9
  have w9 : MwT t n (p + 1) μ9 := by rw [m9]; exact mw_of w8 (by rw [sF_i (by decide)]) (by rw [sF_i (by decide)]) (by rw [sF_i (by decide)]) (fun j => by rw [sF_i (by decide)])
  obtain ⟨b, hb', hb⟩ : ∃ b : Nat, tot K = b ∧ (μ5.1 0 28).toInt = (b : Int) := ⟨tot K, rfl, h28a⟩
  have I9 : (μ9.1 0 27).toInt = (K.length : Int) ∧ (μ9.1 0 28).toInt = (b : Int) ∧ (μ9.1 14 K.length).toInt = (b : Int) ∧ Kr6 μ9 K := by
    refine ⟨by rw [m9, sF_i (by decide)]; exact z27, by rw [m9, sF_i (by decide), E8 0 28 (by omega)]; exact hb, by rw [m9, sF_v, E8 0 28 (by omega)]; exact hb, (hK.me E8).cong (fun j hj => by rw [m9]; exact ⟨by rw [sF_i (by decide)], by rw [sF_i (by decide)], by rw [sF_k (by omega)], by rw [sF_i (by decide)]⟩) (fun k _ => by rw [m9, sF_i (by decide)]) (fun k _ => by rw [m9]; exact ⟨by rw [sF_i (by decide)], by rw [sF_i (by decide)], by rw [sF_i (by decide)]⟩)⟩
  have Ime : ∀ {x z : Mem}, Me x z → ((x.1 0 27).toInt = (K.length : Int) ∧ (x.1 0 28).toInt = (b : Int) ∧ (x.1 14 K.length).toInt = (b : Int) ∧ Kr6 x K) → ((z.1 0 27).toInt = (K.length : Int) ∧ (z.1 0 28).toInt = (b : Int) ∧ (z.1 14 K.length).toInt = (b : Int) ∧ Kr6 z K) := by
    rintro x z e ⟨a1, a2, a3, a4⟩
    exact ⟨by rw [e 0 27 (by omega)]; exact a1, by rw [e 0 28 (by omega)]; exact a2, by rw [e 14 _ (by omega)]; exact a3, a4.me e⟩
  refine pk_bd (q_Mtakes (c := 40) (by decide) w9) ?_
  rintro r11 μ10 ⟨E10, ho⟩
  by_cases c40 : hr t n (p + 1) = 40
  rotate_left
  · rw [if_neg c40] at ho
    obtain ⟨o1, o2⟩ : r11 = 0 ∧ Mf t n (p + 1) μ10 := ho
    rw [if_pos o1]
    have : tkn t n 40 (.inr (p + 1, [])) = .inl (p + 1) := by
      show (if hr t n (p + 1) = 40 then _ else _) = _
      rw [if_neg c40]
    rw [this]
    exact pk_some ⟨rfl, o2⟩
  rw [if_pos c40] at ho
  obtain ⟨o1, w10⟩ : r11 = 1 ∧ MwT t n (p + 2) μ10 := ho
  rw [if_neg (by rw [o1]; decide)]
  have ht40 : tkn t n 40 (.inr (p + 1, [])) = .inr (p + 2, []) := by
    show (if hr t n (p + 1) = 40 then _ else _) = _
    rw [if_pos c40]
  have hlen : ∀ v, tkn t n 41 (rnl t n (tkn t n 40 (.inr (p + 1, [])))) = .inr v → v.2.length ≤ 5 := fun v hv => rnl_len hv
  rw [ht40] at hlen ⊢
  have I10 := Ime E10 I9
  refine pk_bd (q_Mvars5 I10.1 (by omega) w10) ?_
  rintro r14 μ13 ⟨V13, ho⟩
  have hmw : Mn (p + 2) (rnl t n (.inr (p + 2, []))) := by
    refine Mn.b (show Mn (p + 2) (.inr (p + 2, []) : Rd Nl) from Nat.le_refl _) (fun v => ?_)
    split
    · exact Nat.le_refl _
    · exact nms_mono 4 (nm1_mono v)
  generalize rnl t n (.inr (p + 2, [])) = o at ho hlen hmw ⊢
  cases o with
  | inl f =>
    obtain ⟨o1, o2⟩ : r14 = 0 ∧ Mf t n f μ13 := ho
    rw [if_pos o1]
    exact pk_some ⟨rfl, o2⟩
  | inr w =>
    obtain ⟨o1, w13, T13, c13, R13⟩ : r14 = 1 ∧ MwT t n w.1 μ13 ∧ Tl μ13 w.2 ∧ (μ13.1 12 K.length).toInt = (w.2.length : Int) ∧ Vr5 K.length μ13 w.2 := ho
    have I13 : (μ13.1 0 27).toInt = (K.length : Int) ∧ (μ13.1 0 28).toInt = (b : Int) ∧ (μ13.1 14 K.length).toInt = (b : Int) ∧ Kr6 μ13 K := by
      obtain ⟨a1, a2, a3, a4⟩ := I10
      exact ⟨by rw [V13.2.2.2 27 (by decide) (by decide) (by decide) (by decide)]; exact a1, by rw [V13.2.2.2 28 (by decide) (by decide) (by decide) (by decide)]; exact a2, by rw [V13.1 14 _ (by decide) (by decide) (by decide) (by decide)]; exact a3, a4.cong (fun j hj => ⟨V13.1 11 _ (by decide) (by decide) (by decide) (by decide), V13.2.1 j (by omega), V13.1 14 _ (by decide) (by decide) (by decide) (by decide), V13.1 15 _ (by decide) (by decide) (by decide) (by decide)⟩) (fun k hk => V13.2.2.1 k hk) (fun k _ => ⟨V13.1 16 _ (by decide) (by decide) (by decide) (by decide), V13.1 17 _ (by decide) (by decide) (by decide) (by decide), V13.1 18 _ (by decide) (by decide) (by decide) (by decide)⟩)⟩
    rw [if_neg (by rw [o1]; decide)]
    refine pk_bd (q_Mtakes (c := 41) (by decide) w13) ?_
    rintro r17 μ16 ⟨E16, ho⟩
    by_cases c41 : hr t n w.1 = 41
    rotate_left
    · rw [if_neg c41] at ho
      obtain ⟨o1, o2⟩ : r17 = 0 ∧ Mf t n w.1 μ16 := ho
      rw [if_pos o1]
      have : tkn t n 41 (.inr w) = .inl w.1 := by
        show (if hr t n w.1 = 41 then _ else _) = _
        rw [if_neg c41]
      rw [this]
      exact pk_some ⟨rfl, o2⟩
    rw [if_pos c41] at ho
    obtain ⟨o1, w16⟩ : r17 = 1 ∧ MwT t n (w.1 + 1) μ16 := ho
    rw [if_neg (by rw [o1]; decide)]
    have ht41 : tkn t n 41 (.inr w) = .inr (w.1 + 1, w.2) := by
      show (if hr t n w.1 = 41 then _ else _) = _
      rw [if_pos c41]
    have hw5 : w.2.length ≤ 5 := hlen (w.1 + 1, w.2) ht41
    rw [ht41]
    show pk _ (Gp5 t n (rfeP t n K C p (w.1 + 1, w.2)))
    have I16 := Ime E16 I13
    have T16 : Tl μ16 w.2 := fun a ha => by rw [E16 21 _ (by omega)]; exact T13 a ha
    have c16 : (μ16.1 12 K.length).toInt = (w.2.length : Int) := by rw [E16 12 _ (by omega)]; exact c13
    refine pk_bd (q_Mhere w16) ?_
    rintro r20 μ19 ⟨e, hh20⟩
    have hh20 : r20 = hr t n (w.1 + 1) := hh20
    have e : μ19 = μ16 := e
    subst e
    refine pk_ite (fun c61 => ?_) (fun c61 => ?_)
    rotate_left
    · rw [hh20] at c61
      have : rfeP t n K C p (w.1 + 1, w.2) = .inl (w.1 + 1) := by unfold rfeP; rw [if_neg c61]
      rw [this]
      exact pk_mono (q_Mfailb w16) (fun r hr => ⟨hr.2.1, hr.2.2⟩)
    rw [hh20] at c61
    refine pk_gd (fun _ => ?_)
    rw [tn_of I16.1]
    refine pk_bd (q_Mnew I16.1) ?_
    rintro r23 μ22 ⟨e, hz⟩
    have e : μ22 = μ19 := e
    subst e
    have hz : r23 = 0 ↔ ∃ k, k < K.length ∧ μ22.1 11 k = v7 ∧ μ22.1 12 k = μ22.1 12 K.length := hz
    have hmem : (∃ k, k < K.length ∧ μ22.1 11 k = v7 ∧ μ22.1 12 k = μ22.1 12 K.length) ↔ (hr t n p, w.2.length) ∈ K.map fkey := by
      rw [← kr_mem (l := hr t n p) (m := w.2.length) I16.2.2.2.kr, map_len]
      constructor
      · rintro ⟨k, x, y, z⟩; exact ⟨k, x, by rw [y, e7], by rw [z]; exact c16⟩
      · rintro ⟨k, x, y, z⟩; exact ⟨k, x, by rw [y, e7], ti_eq.mpr (by rw [z, c16])⟩
    refine pk_ite (fun cz => ?_) (fun cz => ?_)
    · have hm := hmem.mp (hz.mp cz)
      have : rfeP t n K C p (w.1 + 1, w.2) = .inl p := by unfold rfeP; rw [if_pos c61, if_pos hm]
      rw [this]
      refine pk_bd (q_fails v1 μ22) ?_
      rintro r36 μ35 e35
      obtain ⟨e36, e35⟩ := pr_inj e35
      have e36 : 0 = r36 := e36
      have e35 : sF μ22 0 5 v1 = μ35 := e35
      refine pk_gd (fun _ => pk_some ⟨e36.symm, ?_⟩)
      show Mf t n p μ35
      rw [← e35]
      exact ⟨(Me.put (by omega) _).ms w16.1, by rw [sF_v, ev1]; exact hw.2.2.1⟩
    have hm : ¬ (hr t n p, w.2.length) ∈ K.map fkey := fun x => cz (hz.mpr (hmem.mpr x))
    have hrf : rfeP t n K C p (w.1 + 1, w.2) = bnd (tkP t n 59 (reP t n 20 w.2 (w.1 + 1 + 1, ([], C)))) (fun x => .inr (x.1, (hr t n p, w.2, x.2.1, C.length) :: K, x.2.2 ++ [(14, 0, 0)])) := by unfold rfeP; rw [if_pos c61, if_neg hm]
    rw [hrf]
    refine pk_bvy (fun μ25 m25 => pk_gd (fun _ => pk_bvy (fun μ26 m26 => ?_)))
    have E25 : Me μ22 μ25 := by rw [m25]; exact Me.put (by omega) _
    have w25 : MwT t n (w.1 + 1 + 1) μ25 := by rw [m25]; exact mw_next w16 (hr_lt (by rw [c61]; decide))
    have I25 := Ime E25 I16
    rw [tn_of I25.1] at m26
    have w26 : MwT t n (w.1 + 1 + 1) μ26 := by rw [m26]; exact mw_of w25 (by rw [sF_i (by decide)]) (by rw [sF_i (by decide)]) (by rw [sF_i (by decide)]) (fun j => by rw [sF_i (by decide)])
    have hbl : b ≤ 100000 := by omega
    refine pk_bd (q_Mexpr5 (F := K.length) (b := b) (C := C) hw5 w26 (by rw [m26, sF_i (by decide)]; exact I25.1) (by rw [m26, sF_i (by decide)]; exact I25.2.2.1) hbl (by rw [m26, sF_i (by decide)]; exact I25.2.1) (fun a ha => by rw [m26, sF_i (by decide), E25 21 _ (by omega)]; exact T16 a ha)) ?_
    rintro r28 μ27 ⟨M27, ho⟩
    have hmr := reP_gw (t := t) (n := n) 20 w.2 (w.1 + 1 + 1, ([], C))
    generalize reP t n 20 w.2 (w.1 + 1 + 1, ([], C)) = o at ho hmr ⊢
    cases o with
    | inl f =>
      obtain ⟨o1, o2⟩ : r28 = 0 ∧ Mf t n f μ27 := ho
      rw [if_pos o1]
      exact pk_some ⟨rfl, o2⟩
    | inr x =>
      obtain ⟨o1, X27⟩ : r28 = 1 ∧ Mx5 t n K.length b w.2 [] x μ27 := ho
      rw [if_neg (by rw [o1]; decide)]
      refine pk_bd (q_Mtakes (c := 59) (by decide) X27.1) ?_
      rintro r31 μ30 ⟨E30, ho⟩
      by_cases c59 : hr t n x.1 = 59
      rotate_left
      · rw [if_neg c59] at ho
        obtain ⟨o1, o2⟩ : r31 = 0 ∧ Mf t n x.1 μ30 := ho
        rw [if_pos o1]
        have : tkP t n 59 (.inr x) = .inl x.1 := by
          show (if hr t n x.1 = 59 then _ else _) = _
          rw [if_neg c59]
        rw [this]
        exact pk_some ⟨rfl, o2⟩
      rw [if_pos c59] at ho
      obtain ⟨o1, w30⟩ : r31 = 1 ∧ MwT t n (x.1 + 1) μ30 := ho
      rw [if_neg (by rw [o1]; decide)]
      have ht59 : tkP t n 59 (.inr x) = .inr (x.1 + 1, x.2) := by
        show (if hr t n x.1 = 59 then _ else _) = _
        rw [if_pos c59]
      have h1w : p + 2 ≤ w.1 := hmw
      have h2w : w.1 + 1 + 1 ≤ x.1 := hmr.1
      rw [ht59]
      refine pk_gd (fun _ => pk_gd (fun _ => pk_bvy (fun μ33 m33 => pk_bvy (fun μ34 m34 => pk_some ⟨rfl, ?_⟩))))
      have g0 : ∀ k, k ≠ 27 → μ34.1 0 k = μ30.1 0 k := fun k hk => by rw [m34, sF_k hk, m33, sF_i (by decide)]
      have g : ∀ i k, i ≠ 0 → i ≠ 15 → μ34.1 i k = μ30.1 i k := fun i k hi hj => by rw [m34, sF_i hi, m33, sF_i hj]
      have y27 : (μ30.1 0 27).toInt = (K.length : Int) := by rw [E30 0 27 (by omega)]; exact X27.2.1.1
      have y28 : (μ30.1 0 28).toInt = ((b + x.2.1.length : Nat) : Int) := by rw [E30 0 28 (by omega)]; exact X27.2.2.1.1
      have yx : x.2.1.length ≤ 80 := X27.2.2.1.2
      have c11 : ∀ j, μ34.1 11 j = μ26.1 11 j := fun j => by rw [g 11 j (by decide) (by decide), E30 11 _ (by omega), M27.1 11 j (by decide) (by decide)]
      have c12 : ∀ j, μ34.1 12 j = μ22.1 12 j := fun j => by rw [g 12 j (by decide) (by decide), E30 12 _ (by omega), M27.1 12 j (by decide) (by decide), m26, sF_i (by decide), E25 12 _ (by omega)]
      have c13' : ∀ j, μ34.1 13 j = μ22.1 13 j := fun j => by rw [g 13 j (by decide) (by decide), E30 13 _ (by omega), M27.1 13 j (by decide) (by decide), m26, sF_i (by decide), E25 13 _ (by omega)]
      have c14 : ∀ j, μ34.1 14 j = μ22.1 14 j := fun j => by rw [g 14 j (by decide) (by decide), E30 14 _ (by omega), M27.1 14 j (by decide) (by decide), m26, sF_i (by decide), E25 14 _ (by omega)]
      have f30 : (μ30.1 0 27).toNatClampNeg = K.length := tn_of y27
      have y14 : (μ30.1 14 K.length).toInt = (b : Int) := by rw [E30 14 _ (by omega)]; exact X27.2.1.2.1
      have c15 : ∀ j, μ34.1 15 j = if j = K.length then μ30.1 0 28 - μ30.1 14 K.length else μ22.1 15 j := fun j => by
        rw [m34, sF_i (by decide), m33, sF_1, if_pos rfl, f30]
        by_cases cj : j = K.length
        · rw [if_pos cj, if_pos cj]
        · rw [if_neg cj, if_neg cj, E30 15 _ (by omega), M27.1 15 j (by decide) (by decide), m26, sF_i (by decide), E25 15 _ (by omega)]
      have R16 : Vr5 K.length μ22 w.2 := R13.cong (fun j _ => E16 13 _ (by omega))
      have cth : ∀ i k, (i = 16 ∨ i = 17 ∨ i = 18) → k < b → μ34.1 i k = μ22.1 i k := by
        intro i k hi hk
        obtain ⟨m1, m2, m3⟩ := M27.2 k hk
        rcases hi with e | e | e
        · subst e; rw [g 16 k (by decide) (by decide), E30 16 _ (by omega), m1, m26, sF_i (by decide), E25 16 _ (by omega)]
        · subst e; rw [g 17 k (by decide) (by decide), E30 17 _ (by omega), m2, m26, sF_i (by decide), E25 17 _ (by omega)]
        · subst e; rw [g 18 k (by decide) (by decide), E30 18 _ (by omega), m3, m26, sF_i (by decide), E25 18 _ (by omega)]
      have hTx : Tc b x.2.1 μ27 := X27.2.2.2.2.2.2.2
      refine ⟨mw_of w30 (g0 3 (by decide)) (g0 4 (by decide)) (g0 5 (by decide)) (fun j => g 1 j (by decide) (by decide)), ?_, ⟨⟨?_, ?_, ?_, ?_, ?_, ?_⟩, hw5, ?_⟩, ⟨?_, ?_⟩, ?_⟩
      · rw [m34, sF_v, m33, sF_i (by decide), ti_add (by omega) (by omega), y27, e1]; simp
      · rw [c11, m26, sF_v]; exact e7
      · rw [c12]; exact c16
      · exact R16.cong (fun j _ => c13' _)
      · rw [c14, hb']; exact I16.2.2.1
      · rw [c15, if_pos rfl, ti_sub (by omega) (by omega), y28, y14]; show _ = ((x.2.1.length : Nat) : Int); omega
      · rw [hb']; exact (hTx.me E30).cong (fun k _ => ⟨g 16 k (by decide) (by decide), g 17 k (by decide) (by decide), g 18 k (by decide) (by decide)⟩)
      · refine I16.2.2.2.cong (fun j hj => ⟨by rw [c11, m26, sF_k (by omega), E25 11 _ (by omega)], c12 j, c14 j, by rw [c15, if_neg (by omega)]⟩) (fun k _ => c13' k) (fun k hk => ⟨cth 16 k (by omega) (by omega), cth 17 k (by omega) (by omega), cth 18 k (by omega) (by omega)⟩)
      · rw [g0 28 (by decide), y28, tot_c, hb']; show ((b + x.2.1.length : Nat) : Int) = ((x.2.1.length + b : Nat) : Int); omega
      · rw [tot_c]; show x.2.1.length + tot K ≤ 80 * (K.length + 1); omega
      · show K.length + 1 ≤ x.1 + 1
        omega
