def Yn (μ q : Mem) : Prop := q.2.2 = μ.2.2 ∧ ∀ i k, i ≠ 16 → i ≠ 17 → q.1 i k = μ.1 i k
theorem Yn.rf {μ : Mem} : Yn μ μ := ⟨rfl, fun _ _ _ _ => rfl⟩
theorem Yn.tr {μ q z : Mem} (h : Yn μ q) (h2 : Yn q z) : Yn μ z := ⟨h2.1.trans h.1, fun i k a b => (h2.2 i k a b).trans (h.2 i k a b)⟩
theorem Xe.yn {μ q : Mem} (h : Xe μ q) : Yn μ q := ⟨by rw [h.1], fun i k a _ => h.2.2 i k a⟩
def Ns (t : Nat → Int32) (n : Nat) (μ0 : Mem) (o : Rd Nl) (q : Mem) : Prop := Yn μ0 q ∧ (match o with | .inl f => Xf t n f q | .inr v => Xw t n v.1 q ∧ (q.1 16 6).toInt = (v.2.length : Int) ∧ Nms q v.2)
theorem ns_well {t : Nat → Int32} {n : Nat} {μ0 μ : Mem} {o : Rd Nl} (h : Ns t n μ0 o μ) : pk (p_X4_isWell μ) (fun r => r.2 = μ ∧ ((r.1 = 0 ∧ ∃ f, o = .inl f) ∨ (¬ r.1 = 0 ∧ ∃ v, o = .inr v))) := by
  refine pk_mono q_Xwell (fun r hr => ⟨hr.1, ?_⟩)
  cases o with
  | inl f => exact Or.inl ⟨wl0 h.2 hr.2, f, rfl⟩
  | inr v => exact Or.inr ⟨wl1 h.2.1 hr.2, v, rfl⟩
theorem ns_take {t : Nat → Int32} {n : Nat} {μ0 μ : Mem} {o : Rd Nl} {c : Int32} (hc : c ≠ -1) (h : Ns t n μ0 o μ) : pk (p_X4_take c μ) (fun r => Ns t n μ0 (tkn t n c o) r.2) := by
  cases o with
  | inl f =>
    refine pk_mono (q_Xtakef c h.2) (fun r e => ?_)
    have e : r.2 = μ := e
    rw [e]; exact h
  | inr v =>
    refine pk_mono (pk_both (q_Xtake hc h.2.1) (x6_take c μ)) (fun r hx => ?_)
    obtain ⟨⟨hE, ho⟩, h6⟩ := hx
    refine ⟨h.1.tr hE.yn, ?_⟩
    unfold tkn bnd
    dsimp only
    by_cases c1 : hr t n v.1 = c
    · rw [if_pos c1] at ho ⊢
      exact ⟨ho, by rw [h6]; exact h.2.2.1, h.2.2.2.cong (fun j _ => hE.2.2 _ _ (by decide))⟩
    · rw [if_neg c1] at ho ⊢; exact ho
theorem ns_next {t : Nat → Int32} {n : Nat} {μ0 μ : Mem} {v : Nl} (h : Ns t n μ0 (.inr v) μ) (hp : v.1 < n) : Ns t n μ0 (.inr (v.1 + 1, v.2)) (sF μ 16 2 (μ.1 16 2 + 1)) := by
  have hE : Xe μ (sF μ 16 2 (μ.1 16 2 + 1)) := Xe.put (by decide) _
  exact ⟨h.1.tr hE.yn, xw_next h.2.1 hp, by rw [sF_k (by decide)]; exact h.2.2.1, h.2.2.2.cong (fun j _ => hE.2.2 _ _ (by decide))⟩
theorem ns_fail {t : Nat → Int32} {n : Nat} {μ0 μ : Mem} {v : Nl} (h : Ns t n μ0 (.inr v) μ) : pk (p_X4_fail (μ.1 16 2) μ) (Ns t n μ0 (.inl v.1)) := pk_mono (q_Xfail h.2.1) (fun q hq => ⟨h.1.tr hq.1.yn, hq.2⟩)
theorem ns_name {t : Nat → Int32} {n : Nat} {μ0 μ : Mem} {v : Nl} (a : Int32) (hN : v.2.length ≤ 30) (h : Ns t n μ0 (.inr v) μ) : pk (p_X4_nameOne a μ) (Ns t n μ0 (.inr (v.1, a :: v.2))) := by
  have e1 : (1 : Int32).toInt = 1 := by decide
  have e32 : (32 : Int32).toInt = 32 := by decide
  obtain ⟨hw, h6, hm⟩ := h.2
  rw [p_X4_nameOne_eq]
  refine pk_ite (fun c => ?_) (fun _ => pk_gd (fun _ => pk_bvy (fun μ2 e2 => pk_bvy (fun μ3 e3 => pk_some ?_))))
  · rw [ti_le, e32, h6] at c; omega
  have g : ∀ i k, i ≠ 17 → ¬ (i = 16 ∧ k = 6) → μ3.1 i k = μ.1 i k := by
    intro i k h1 h2
    rw [e3, sF_1]
    by_cases hi : i = 16
    · subst hi; rw [if_pos rfl, if_neg (fun e => h2 ⟨rfl, e⟩), e2, sF_i h1]
    · rw [if_neg hi, e2, sF_i h1]
  have t6 : μ2.1 16 6 = μ.1 16 6 := by rw [e2, sF_i (by decide)]
  have tn := tn_of h6
  refine ⟨h.1.tr ⟨by rw [e3, e2]; rfl, fun i k a b => g i k b (fun e => a e.1)⟩, ?_, ?_, ?_⟩
  · exact ⟨⟨by rw [g 16 1 (by omega) (by omega)]; exact hw.1.1, hw.1.2.1, fun j hj => by rw [g 1 j (by omega) (by omega)]; exact hw.1.2.2 j hj⟩, by rw [g 16 3 (by omega) (by omega)]; exact hw.2.1, by rw [g 16 2 (by omega) (by omega)]; exact hw.2.2.1, hw.2.2.2⟩
  · rw [e3, sF_v, t6, ti_add (by omega) (by omega), e1, h6]; simp
  · have q17 : ∀ j, μ3.1 17 j = if j = v.2.length then a else μ.1 17 j := by
      intro j
      rw [e3, sF_i (by decide), e2, sF_1, if_pos rfl, tn]
    exact ⟨by rw [q17, if_pos rfl], hm.cong (fun j hj => by rw [q17, if_neg (by omega)])⟩
theorem ns_one {t : Nat → Int32} {n : Nat} {μ0 μ : Mem} {o : Rd Nl} (hN : ∀ v, o = .inr v → v.2.length ≤ 30) (h : Ns t n μ0 o μ) : pk (p_X4_readName μ) (Ns t n μ0 (bnd o (nm1 t n))) := by
  rw [p_X4_readName_eq]
  refine pk_bd (ns_well h) (fun r2 μ1 hw => ?_)
  obtain ⟨e, hw⟩ := hw
  have e : μ1 = μ := e
  subst e
  rcases hw with ⟨c, f, e⟩ | ⟨c, v, e⟩
  · subst e
    rw [if_pos c]; exact pk_some h
  subst e
  have hN := hN v rfl
  rw [if_neg c]
  refine pk_bd (q_Xhere h.2.1) (fun r5 μ4 hh => ?_)
  obtain ⟨e, hh⟩ := hh
  have e : μ4 = μ1 := e
  subst e
  have hh : r5 = hr t n v.1 := hh
  subst hh
  show pk _ (Ns t n μ0 (if isVa (hr t n v.1) = true ∧ ¬ hr t n v.1 ∈ v.2 then .inr (v.1 + 1, hr t n v.1 :: v.2) else .inl v.1))
  refine pk_ite (fun cv => ?_) (fun cv => ?_)
  · rw [isVa_X] at cv
    rw [if_neg (show ¬ (isVa (hr t n v.1) = true ∧ ¬ hr t n v.1 ∈ v.2) from fun hh => by rw [cv] at hh; exact absurd hh.1 (by decide))]
    exact pk_bw (ns_fail h) (fun q hq => pk_some hq)
  · rw [isVa_X] at cv
    have cv : isVa (hr t n v.1) = true := by simpa using cv
    refine pk_bd (q_slot h.2.2.1 h.2.2.2 (by omega)) (fun r10 μ9 hz => ?_)
    obtain ⟨e, hz⟩ := hz
    have e : μ9 = μ4 := e
    subst e
    have hz : r10 = -1 ↔ ¬ hr t n v.1 ∈ v.2 := hz
    refine pk_ite (fun cs => ?_) (fun cs => ?_)
    · rw [if_pos (show (isVa (hr t n v.1) = true ∧ ¬ hr t n v.1 ∈ v.2) from ⟨cv, hz.mp cs⟩)]
      refine pk_bvy (fun μ12 e12 => ?_)
      have h12 := ns_next h (hr_lt (cls_ne (by decide) cv))
      rw [← e12] at h12
      exact pk_bw (ns_name (v := (v.1 + 1, v.2)) _ hN h12) (fun q hq => pk_some hq)
    · rw [if_neg (show ¬ (isVa (hr t n v.1) = true ∧ ¬ hr t n v.1 ∈ v.2) from fun hh => cs (hz.mpr hh.2))]
      exact pk_bw (ns_fail h) (fun q hq => pk_some hq)
theorem nm1_len {t : Nat → Int32} {n : Nat} {v w : Nl} (h : nm1 t n v = .inr w) : w.2.length = v.2.length + 1 := by
  revert h; unfold nm1; split
  · intro h; cases h; rfl
  · intro h; cases h
theorem nms_l {t : Nat → Int32} {n f : Nat} : ∀ k, nms t n k (.inl f) = .inl f := by
  intro k
  induction k with
  | zero => rfl
  | succ k ih => exact ih
theorem nms_n {t : Nat → Int32} {n : Nat} {v : Nl} (h : ¬ hr t n v.1 = 44) : ∀ k, nms t n k (.inr v) = .inr v := by
  intro k
  induction k with
  | zero => rfl
  | succ k ih =>
    show nms t n k (if hr t n v.1 = 44 then _ else .inr v) = _
    rw [if_neg h]; exact ih
theorem nms_y {t : Nat → Int32} {n : Nat} {v : Nl} (h : hr t n v.1 = 44) (k : Nat) : nms t n (k + 1) (.inr v) = nms t n k (nm1 t n (v.1 + 1, v.2)) := by
  show nms t n k (if hr t n v.1 = 44 then _ else .inr v) = _
  rw [if_pos h]
theorem ns_loop {t : Nat → Int32} {n : Nat} {μ0 : Mem} : ∀ (fu j : Nat) (a1 : Int32) (μ : Mem) (o : Rd Nl), a1.toInt = (j : Int) → j ≤ 5 → (∀ v, o = .inr v → v.2.length = j) → Ns t n μ0 o μ → pk (p_X4_readNames_b16 fu a1 μ) (Ns t n μ0 (nms t n (5 - j) o)) := by
  have e5 : (5 : Int32).toInt = 5 := by decide
  have e1 : (1 : Int32).toInt = 1 := by decide
  intro fu
  induction fu with
  | zero => intro j a1 μ o _ _ _ _ r e; rw [p_X4_readNames_b16_z] at e; cases e
  | succ fu ih =>
    intro j a1 μ o h1 hj hl h
    rw [p_X4_readNames_b16_s]
    refine pk_ite (fun c => ?_) (fun c => ?_)
    · rw [ti_le, e5, h1] at c
      rw [show 5 - j = 0 by omega]; exact pk_some h
    rw [ti_le, e5, h1] at c
    refine pk_bd (ns_well h) (fun r8 μ7 hw => ?_)
    obtain ⟨e, hw⟩ := hw
    have e : μ7 = μ := e
    subst e
    rcases hw with ⟨c, f, e⟩ | ⟨c, v, e⟩
    · subst e
      rw [if_pos c, nms_l]; exact pk_some h
    subst e
    rw [if_neg c]
    refine pk_bd (q_Xhere h.2.1) (fun r5 μ4 hh => ?_)
    obtain ⟨e, hh⟩ := hh
    have e : μ4 = μ7 := e
    subst e
    have hh : r5 = hr t n v.1 := hh
    subst hh
    have hl := hl v rfl
    refine pk_ite (fun c1 => pk_bvy (fun μ13 e13 => ?_)) (fun c1 => ?_)
    · have h13 := ns_next h (hr_lt (by rw [c1]; decide))
      rw [← e13] at h13
      rw [show 5 - j = (5 - (j + 1)) + 1 by omega, nms_y c1]
      exact pk_bw (ns_one (o := .inr (v.1 + 1, v.2)) (fun w hw => by cases hw; show v.2.length ≤ 30; omega) h13) (fun μ14 h14 => pk_bv (ih (j + 1) _ μ14 _ (by rw [ti_add (by omega) (by omega), e1, h1]; omega) (by omega) (fun w hw => by rw [nm1_len hw]; show v.2.length + 1 = _; omega) h14))
    · rw [nms_n c1]; exact pk_some h
theorem ns_names {t : Nat → Int32} {n : Nat} {μ0 μ : Mem} {o : Rd Nl} (hl : ∀ v, o = .inr v → v.2 = []) (h : Ns t n μ0 o μ) : pk (p_X4_readNames μ) (Ns t n μ0 (rnl t n o)) := by
  rw [p_X4_readNames_eq]
  cases o with
  | inl f =>
    refine pk_bd (x6_here μ) (fun r2 μ1 e => ?_)
    have e : μ1 = μ := e
    subst e
    refine pk_ite (fun _ => pk_some h) (fun _ => pk_bw (ns_one (o := .inl f) (fun v e => by cases e) h) (fun μ4 h4 => ?_))
    have := ns_loop FUEL 1 1 μ4 (.inl f) (by decide) (by omega) (fun v e => by cases e) h4
    rw [nms_l] at this; exact this
  | inr v =>
    have hl := hl v rfl
    refine pk_bd (q_Xhere h.2.1) (fun r5 μ4 hh => ?_)
    obtain ⟨e, hh⟩ := hh
    have e : μ4 = μ := e
    subst e
    have hh : r5 = hr t n v.1 := hh
    subst hh
    show pk _ (Ns t n μ0 (if hr t n v.1 = 41 then .inr v else nms t n 4 (nm1 t n v)))
    refine pk_ite (fun c1 => ?_) (fun c1 => ?_)
    · rw [if_pos c1]; exact pk_some h
    · rw [if_neg c1]
      exact pk_bw (ns_one (o := .inr v) (fun w e => by cases e; rw [hl]; exact Nat.zero_le _) h) (fun μ5 h5 => ns_loop FUEL 1 1 μ5 _ (by decide) (by omega) (fun w hw => by rw [nm1_len hw, hl]; rfl) h5)
theorem nms_len {t : Nat → Int32} {n : Nat} : ∀ (k j : Nat) (o : Rd Nl), (∀ v, o = .inr v → v.2.length ≤ j) → ∀ v, nms t n k o = .inr v → v.2.length ≤ j + k := by
  intro k
  induction k with
  | zero => intro j o h v e; exact h v e
  | succ k ih =>
    intro j o h v e
    have := ih (j + 1) _ (fun w hw => ?_) v e
    · omega
    · cases o with
      | inl f => cases hw
      | inr u =>
        have hu := h u rfl
        have hw : (if hr t n u.1 = 44 then nm1 t n (u.1 + 1, u.2) else .inr u) = .inr w := hw
        by_cases c : hr t n u.1 = 44
        · rw [if_pos c] at hw; rw [nm1_len hw]; show u.2.length + 1 ≤ _; omega
        · rw [if_neg c] at hw; cases hw; omega
theorem rnl_len {t : Nat → Int32} {n p : Nat} {v : Nl} (h : tkn t n 41 (rnl t n (tkn t n 40 (.inr (p, [])))) = .inr v) : v.2.length ≤ 5 := by
  obtain ⟨w, hw⟩ := bnd_r h
  have hv : v.2 = w.2 := by
    rw [hw] at h
    have h : (if hr t n w.1 = 41 then .inr (w.1 + 1, w.2) else .inl w.1 : Rd Nl) = .inr v := h
    by_cases c : hr t n w.1 = 41
    · rw [if_pos c] at h; cases h; rfl
    · rw [if_neg c] at h; cases h
  rw [hv]
  obtain ⟨u, hu⟩ := bnd_r hw
  have hu2 : u.2 = [] := by
    have h : (if hr t n p = 40 then .inr (p + 1, []) else .inl p : Rd Nl) = .inr u := hu
    by_cases c : hr t n p = 40
    · rw [if_pos c] at h; cases h; rfl
    · rw [if_neg c] at h; cases h
  rw [hu] at hw
  have hw : (if hr t n u.1 = 41 then .inr u else nms t n 4 (nm1 t n u)) = .inr w := hw
  by_cases c : hr t n u.1 = 41
  · rw [if_pos c] at hw; cases hw; rw [hu2]; exact Nat.zero_le _
  · rw [if_neg c] at hw
    exact nms_len 4 1 _ (fun x hx => by rw [nm1_len hx, hu2]; exact Nat.le_refl _) w hw
