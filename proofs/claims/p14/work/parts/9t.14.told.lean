theorem es5_out {t : Nat → Int32} {n : Nat} {N : List Int32} {P f B d : Nat} (hP : P29 P) {μ0 μ μ2 : Mem} {p : Nat} (hk : Xk5 P f μ0 μ) (hw : Xw t n p μ) (e2 : μ2 = sF μ 16 2 (μ.1 16 2 + 1)) : pk (p_X4_fail (μ.1 16 2) μ2) (Es5 t n N P f B d μ0 (.inl p)) := by
  have hE : Xe μ μ2 := by rw [e2]; exact Xe.put (by decide) _
  have h3 : μ2.1 16 3 = -1 := by rw [e2, sF_k (by decide)]; exact hw.2.1
  rw [p_X4_fail_eq, if_pos h3]
  have hE2 : ∀ v, Xe μ2 (sF μ2 16 3 v) := fun v => Xe.put (by decide) v
  exact pk_bv (pk_some ⟨hk.tr ((hE.tr (hE2 _)).xk5 hP), (hE.tr (hE2 _)).xs hw.1, by rw [sF_v]; exact hw.2.2.1⟩)
theorem es5_signed {t : Nat → Int32} {n P f B r d : Nat} (hP : P29 P) (ih : Ih5 t n P f B r) {N : List Int32} {a : Int32} {μ0 μ : Mem} {p : Nat} {v : Py} (hv : v.1.length < 80) (ha : a.toInt + ((r + 1 : Nat) : Int) = 20) (hN : N.length + (r + 1) ≤ 25) (hs : sel 2 (μ0.2.2 16 4) = P) (hk : Xk5 P f μ0 μ) (h : Xq5 t n N P f B p ((cnt v.1).1 + 1, (cnt v.1).2) v.2 d μ) : pk (p_X4_readSigned (pr_X4_readExpression (r + 30)) (hr t n p) a μ) (Es5 t n N P f B d μ0 (rsP t n (reP t n r) N (hr t n p) p v)) := by
  have e4 : (4 : Int32).toInt = ((4 : Nat) : Int) := by decide
  rw [p_X4_readSigned_eq]
  refine pk_bvy (fun v1 ev1 => pk_bvy (fun μ2 e2 => ?_))
  rw [ev1]
  have hN' : N.length + r ≤ 25 := by omega
  have k2 : Xk5 P f μ0 μ2 := by rw [e2]; exact xk5_next hP hk
  have hn : hr t n p ≠ -1 → Xq5 t n N P f B (p + 1) ((cnt v.1).1 + 1, (cnt v.1).2) v.2 (d + 3) μ2 := by
    intro hne; rw [e2]; exact xq5_next hP h (hr_lt hne)
  have hd : ∀ (x : Th3) (k : Nat), k ≤ 3 → x.1 ≠ 12 ∧ x.1 ≠ 8 ∧ x.1 ≠ 9 ∧ x.1 ≠ 10 → hr t n p ≠ -1 → Es5 t n N P f B (d + k) μ0 (.inr (p + 1, v.1 ++ [x], v.2)) μ2 := by
    intro x k hk3 hx hne
    exact Es5.dn (d := d + 3) ⟨k2, xq5_c (hn hne) (by rw [cnt_app]; exact (cadd_o hx _).symm)⟩ (by omega)
  have one : isT1 (hr t n p) = true → rsP t n (reP t n r) N (hr t n p) p v = adC (oneC (hr t n p)) (reP t n r N (p + 1, v.1 ++ [oneT (hr t n p)], v.2)) := by
    intro h1; unfold rsP; rw [if_pos h1]
  have go : ∀ {a1 a2 a3 : Int32}, hr t n p ≠ -1 → isT1 (hr t n p) = true → (oneT (hr t n p)).1 = 6 → oneC (hr t n p) = (a1, a2, a3) → pk (bw (pr_X4_readExpression (r + 30) (a + 1) μ2) (fun μ12 => bd (p_X3_add (sel 2 (μ12.2.2 16 4)) a1 a2 a3 μ12) (fun r15 μ14 => some μ14))) (Es5 t n N P f B d μ0 (rsP t n (reP t n r) N (hr t n p) p v)) := by
    intro a1 a2 a3 hne h1 h6 hc
    rw [one h1, hc]
    exact pk_bw (ih N _ _ _ μ0 μ2 (ti_dn ha) hN' hs (hd _ 1 (by omega) (by rw [h6]; decide) hne)) (fun μ12 h12 => pk_bd (es5_add hP hs _ _ _ h12) (fun r15 μ14 h14 => pk_some h14.1))
  refine pk_ite (fun c33 => ?_) (fun c33 => pk_ite (fun c35 => ?_) (fun c35 => pk_ite (fun c36 => ?_) (fun c36 => pk_ite (fun c38 => ?_) (fun c38 => pk_ite (fun c40 => ?_) (fun c40 => pk_ite (fun c58 => ?_) (fun c58 => pk_ite (fun c63 => ?_) (fun c63 => pk_ite (fun c64 => ?_) (fun c64 => pk_ite (fun c91 => ?_) (fun c91 => pk_ite (fun c94 => ?_) (fun c94 => pk_ite (fun c95 => ?_) (fun c95 => pk_ite (fun c126 => ?_) (fun c126 => ?_))))))))))))
  · have hne : hr t n p ≠ -1 := by rw [c33]; decide
    have h1 : isT1 (hr t n p) = true := by rw [c33]; decide
    rw [one h1, c33]
    rw [xk5_P hs k2]
    refine pk_bd (xq5_cnt (j := 4) hP (hn hne) e4 (by omega) (cb_le hv 4 (by omega))) (fun r6 μ5 h5 => ?_)
    obtain ⟨k5, h5⟩ := h5
    have hE : Es5 t n N P f B (d + 1) μ0 (.inr (p + 1, v.1 ++ [oneT 33], v.2)) μ5 := Es5.dn (d := d + 3) ⟨k2.tr k5, xq5_c h5 (by rw [cnt_app]; exact (cadd_8 _).symm)⟩ (by omega)
    exact pk_bw (ih N _ _ _ μ0 μ5 (ti_dn ha) hN' hs hE) (fun μ12 h12 => pk_bd (es5_add hP hs _ _ _ h12) (fun r15 μ14 h14 => pk_some h14.1))
  · exact go (by rw [c35]; decide) (by rw [c35]; decide) (by rw [c35]; decide) (by rw [c35]; decide)
  · exact go (by rw [c36]; decide) (by rw [c36]; decide) (by rw [c36]; decide) (by rw [c36]; decide)
  · have hne : hr t n p ≠ -1 := by rw [c38]; decide
    have e : rsP t n (reP t n r) N (hr t n p) p v = putP t n (reP t n r N) p v := by rw [c38]; rfl
    rw [e]
    have := es5_place (s := hr t n p) (d := d) hP ih hv ha hN' hs k2 (Xq5.dn (hn hne) (by omega))
    rw [if_neg (by rw [c38]; decide)] at this
    exact pk_bw this (fun μ22 h22 => pk_some h22)
  · have hne : hr t n p ≠ -1 := by rw [c40]; decide
    have e : rsP t n (reP t n r) N (hr t n p) p v = signP t n (reP t n r N) p v := by rw [c40]; rfl
    rw [e]
    exact pk_bw (es5_reck hP ih ha hN' hs (hd (5, 0, 2) 1 (by omega) (by decide) hne)) (fun μ22 h22 => pk_some h22)
  · have hne : hr t n p ≠ -1 := by rw [c58]; decide
    have e : rsP t n (reP t n r) N (hr t n p) p v = letP t n (reP t n r) N p v := by rw [c58]; rfl
    rw [e]
    exact pk_bw (es5_naming hP ih ha hN hs k2 (Xq5.dn (hn hne) (by omega))) (fun μ22 h22 => pk_some h22)
  · have hne : hr t n p ≠ -1 := by rw [c63]; decide
    have e : rsP t n (reP t n r) N (hr t n p) p v = choP t n (reP t n r N) p v := by rw [c63]; rfl
    rw [e]
    exact pk_bw (es5_cho hP ih ha hN' hs (hd (7, 0, 3) 3 (by omega) (by decide) hne)) (fun μ22 h22 => pk_some h22)
  · exact go (by rw [c64]; decide) (by rw [c64]; decide) (by rw [c64]; decide) (by rw [c64]; decide)
  · have hne : hr t n p ≠ -1 := by rw [c91]; decide
    have e : rsP t n (reP t n r) N (hr t n p) p v = pairP t n (reP t n r N) p v := by rw [c91]; rfl
    rw [e]
    exact pk_bw (es5_two hP ih ha hN' hs (by decide) (hd (2, 0, 2) 1 (by omega) (by decide) hne)) (fun μ22 h22 => pk_bd (es5_add hP hs _ _ _ h22) (fun r15 μ14 h14 => pk_some h14.1))
  · exact go (by rw [c94]; decide) (by rw [c94]; decide) (by rw [c94]; decide) (by rw [c94]; decide)
  · have hne : hr t n p ≠ -1 := by rw [c95]; decide
    have e : rsP t n (reP t n r) N (hr t n p) p v = getP t n p v := by rw [c95]; rfl
    rw [e]
    have := es5_place (s := hr t n p) (d := d) hP ih hv ha hN' hs k2 (Xq5.dn (hn hne) (by omega))
    rw [if_pos c95] at this
    exact pk_bw this (fun μ22 h22 => pk_some h22)
  · exact go (by rw [c126]; decide) (by rw [c126]; decide) (by rw [c126]; decide) (by rw [c126]; decide)
  · have e : rsP t n (reP t n r) N (hr t n p) p v = .inl p := by
      unfold rsP
      rw [if_neg (by unfold isT1; simp [c33, c35, c36, c64, c94, c126]), if_neg c38, if_neg c40, if_neg c58, if_neg c63, if_neg c91, if_neg c95]
    rw [e]
    exact pk_bw (es5_out hP hk h.1 e2) (fun q hq => pk_some hq)
theorem q_Xexpr5 {t : Nat → Int32} {n P f B : Nat} (hP : P29 P) : ∀ r, Ih5 t n P f B r := by
  have e20 : (20 : Int32).toInt = 20 := by decide
  have e80 : (80 : Int32).toInt = 80 := by decide
  intro r
  induction r with
  | zero =>
    intro N v d a μ0 μ ha hN hs h
    rw [show 0 + 30 = 29 + 1 from rfl, pr_X4_readExpression_s, p_X4_readExpression_eq]
    refine pk_bd (es5_well h) (fun r2 μ1 hw => ?_)
    obtain ⟨e, hw⟩ := hw
    have e : μ1 = μ := e
    subst e
    rcases hw with ⟨_, x, e⟩ | ⟨c, _⟩
    · cases e
    rw [if_neg c]
    refine pk_bd (es5_here h) (fun r5 μ4 hh => ?_)
    obtain ⟨e, hh⟩ := hh
    have e : μ4 = μ1 := e
    subst e
    have ha : a.toInt = 20 := by simpa using ha
    rw [if_pos (by rw [ti_le, e20]; omega)]
    exact pk_bw (es5_fail hP h.1 h.2.1) (fun q hq => pk_some hq)
  | succ r ih =>
    intro N v d a μ0 μ ha hN hs h
    rw [show r + 1 + 30 = (r + 30) + 1 by omega, pr_X4_readExpression_s, p_X4_readExpression_eq]
    refine pk_bd (es5_well h) (fun r2 μ1 hw => ?_)
    obtain ⟨e, hw⟩ := hw
    have e : μ1 = μ := e
    subst e
    rcases hw with ⟨_, x, e⟩ | ⟨c, _⟩
    · cases e
    rw [if_neg c]
    refine pk_bd (es5_here h) (fun r5 μ4 hh => ?_)
    obtain ⟨e, hh⟩ := hh
    have e : μ4 = μ1 := e
    subst e
    obtain ⟨p, T, C⟩ := v
    have hh : r5 = hr t n p := hh
    subst hh
    have hq0 : Xq5 t n N P f B p (cnt T) C d μ4 := h.2
    rw [if_neg (by rw [ti_le, e20]; omega), es5_P hs h]
    refine pk_bd (xq5_things hP hq0) (fun r10 μ9 h9 => ?_)
    obtain ⟨h10, hk9, hw9, h9⟩ : r10.toInt = ((cnt T).1 : Int) + 1 ∧ Xk5 P f μ4 μ9 ∧ Xw t n p μ9 ∧ ((cnt T).1 + 1 ≤ 80 → Xq5 t n N P f B p ((cnt T).1 + 1, (cnt T).2) C d μ9) := h9
    have hk : Xk5 P f μ0 μ9 := h.1.tr hk9
    have hcT : (cnt T).1 = T.length := rfl
    show pk _ (Es5 t n N P f B d μ0 (if 80 ≤ T.length then .inl p else if hr t n p = 45 ∨ isD (hr t n p) = true then bnd (rn t n p) (fun q => .inr (q, T ++ [((nvl t n p).1, (nvl t n p).2, 0)], C ++ [(0, (nvl t n p).1, (nvl t n p).2)])) else if isVa (hr t n p) = true then (if hr t n p ∈ N then .inr (p + 1, T ++ [(4, hr t n p - 109, 0)], C ++ [(1, Int32.ofNat (slt N (hr t n p)), 0)]) else .inl p) else if isL (hr t n p) = true then callP t n (reP t n r N) (hr t n p) p (T, C) else rsP t n (reP t n r) N (hr t n p) p (T, C)))
    refine pk_ite (fun c8 => ?_) (fun c8 => ?_)
    · rw [ti_le, e80] at c8
      have h9 := h9 (by omega)
      have hT : T.length < 80 := by omega
      rw [if_neg (show ¬ 80 ≤ T.length by omega)]
      refine pk_ite (fun cn => ?_) (fun cn => ?_)
      · rw [num_X] at cn
        rw [if_neg cn]
        refine pk_ite (fun cv => ?_) (fun cv => ?_)
        · rw [isVa_X] at cv
          rw [if_neg (show ¬ isVa (hr t n p) = true by rw [cv]; decide)]
          refine pk_ite (fun cl => ?_) (fun cl => ?_)
          · rw [isL_X] at cl
            rw [if_neg (show ¬ isL (hr t n p) = true by rw [cl]; decide)]
            exact pk_bw (es5_signed (v := (T, C)) hP ih hT ha (by omega) hs hk h9) (fun q hq => pk_some hq)
          · rw [isL_X] at cl
            have cl : isL (hr t n p) = true := by simpa using cl
            rw [if_pos cl]
            exact pk_bw (es5_call (v := (T, C)) hP ih hT ha (by omega) hs (hr_lt (isL_ne cl)) hk h9) (fun q hq => pk_some hq)
        · rw [isVa_X] at cv
          have cv : isVa (hr t n p) = true := by simpa using cv
          rw [if_pos cv, p_X4_readVar_eq]
          have hsl := q_slot (a := hr t n p) h9.2.1 h9.2.2.1 (by omega)
          have hslV := fun hm : hr t n p ∈ N => q_slotV (a := hr t n p) h9.2.1 h9.2.2.1 (by omega) hm
          refine pk_bw (pk_bd (pk_both hsl (show pk (p_X4_slotOf (hr t n p) μ9) (fun r => hr t n p ∈ N → r.1.toInt = (slt N (hr t n p) : Int)) from fun r e hm => hslV hm r e)) (fun r2 μ1 hz => ?_)) (fun q hq => pk_some hq)
          obtain ⟨⟨e, hz⟩, hzv⟩ := hz
          have e : μ1 = μ9 := e
          subst e
          have hz : r2 = -1 ↔ ¬ hr t n p ∈ N := hz
          have hzv : hr t n p ∈ N → r2.toInt = (slt N (hr t n p) : Int) := hzv
          refine pk_ite (fun cs => ?_) (fun cs => ?_)
          · rw [if_neg (hz.mp cs)]
            exact pk_bw (es5_fail hP hk h9.1) (fun q hq => pk_some hq)
          · have hm : hr t n p ∈ N := by
              by_cases hm : hr t n p ∈ N
              · exact hm
              · exact absurd (hz.mpr hm) cs
            rw [if_pos hm]
            refine pk_bvy (fun μ5 e5 => ?_)
            have h5 := xq5_next hP h9 (hr_lt (cls_ne (by decide) cv))
            rw [← e5] at h5
            have k5 : Xk5 P f μ0 μ5 := by rw [e5]; exact xk5_next hP hk
            have hE : Es5 t n N P f B (d + 1) μ0 (.inr (p + 1, T ++ [(4, hr t n p - 109, 0)], C)) μ5 := Es5.dn (d := d + 3) ⟨k5, xq5_c h5 (by rw [cnt_app]; exact (cadd_o (s := 4) (by decide) _).symm)⟩ (by omega)
            have hr2 : r2 = Int32.ofNat (slt N (hr t n p)) := ti_eq.mpr (by rw [hzv hm]; exact (Int32.toInt_ofNat_of_lt (by have := hzv hm; have := ti_hi r2; omega)).symm)
            rw [hr2]
            exact pk_bd (es5_add hP hs _ _ _ hE) (fun r6 μ6 h6 => pk_some h6.1)
      · have cn : hr t n p = 45 ∨ isD (hr t n p) = true := by
          by_cases cc : hr t n p = 45 ∨ isD (hr t n p) = true
          · exact cc
          · exact absurd ((num_X _).mpr cc) cn
        rw [if_pos cn]
        refine pk_bd (pk_both (pk_both (q_Xnumber h9.1) (x6_number μ9)) (q_XnumV h9.1)) (fun r22 μ21 h21 => ?_)
        obtain ⟨⟨⟨hE21, hO⟩, h6⟩, hV⟩ := h21
        have hE21 : Xe μ9 μ21 := hE21
        have k21 : Xk5 P f μ0 μ21 := hk.tr (hE21.xk5 hP)
        cases hrn : rn t n p with
        | inl x =>
          rw [hrn] at hO
          have hO : Xf t n x μ21 := hO
          have hE : Es5 t n N P f B (d + 1) μ0 (.inl x) μ21 := ⟨k21, hO⟩
          exact pk_bd (es5_add hP hs _ _ _ hE) (fun r24 μ23 h23 => pk_some h23.1)
        | inr q =>
          rw [hrn] at hO
          have hO : Xw t n q μ21 := hO
          have hq := rn_lt hrn
          have hV : r22 = s_X0_make (nvl t n p).1 (nvl t n p).2 := hV q hrn
          have hsort : (nvl t n p).1 = 0 ∨ (nvl t n p).1 = 1 := by
            unfold nvl; split
            · exact Or.inr rfl
            · exact Or.inl rfl
          have hkind : s_X0_kind r22 = (nvl t n p).1 := by
            rw [hV]; rcases hsort with e | e
            · rw [e]; exact lx_kind0 _
            · rw [e]; exact lx_kind1 _
          have hbits : s_X0_bits r22 = (nvl t n p).2 := by
            rw [hV]; rcases hsort with e | e
            · rw [e]; exact lx_bits0 _
            · rw [e]; exact lx_bits1 _
          have hx : Xq5 t n N P f B q ((cnt T).1 + 1, (cnt T).2) C d μ21 := xq5_xo hP h9 hE21 hO h6 (by omega)
          obtain ⟨x1, x2, x3, x4, x5, _⟩ := hx
          have hd9 := h9.2.2.2.2.2
          have hc : cnt (T ++ [((nvl t n p).1, (nvl t n p).2, 0)]) = ((cnt T).1 + 1, (cnt T).2) := by
            rw [cnt_app]
            exact cadd_o (by rcases hsort with e | e <;> rw [e] <;> decide) _
          have hE : Es5 t n N P f B (d + 1) μ0 (.inr (q, T ++ [((nvl t n p).1, (nvl t n p).2, 0)], C)) μ21 := ⟨k21, xq5_c ⟨x1, x2, x3, x4, x5, by show C.length + (d + 1) ≤ 3 * q + f; omega⟩ hc.symm⟩
          rw [hkind, hbits]
          exact pk_bd (es5_add hP hs _ _ _ hE) (fun r24 μ23 h23 => pk_some h23.1)
    · rw [ti_le, e80] at c8
      rw [if_pos (show 80 ≤ T.length by omega)]
      exact pk_bw (q_Xfail hw9) (fun q hq => pk_some ⟨hk.tr (hq.1.xk5 hP), hq.2⟩)
