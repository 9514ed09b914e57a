theorem Lc.yn {P : Nat} (hP : P29 P) {C : List Th3} {μ q : Mem} (h : Lc P C μ) (hy : Yn μ q) : Lc P C q := by
  unfold P29 at hP
  exact h.cong (hy.2 _ _ (by omega) (by omega)) (fun k => hy.2 _ _ (by omega) (by omega)) (fun k => hy.2 _ _ (by omega) (by omega)) (fun k => hy.2 _ _ (by omega) (by omega))
theorem Fs5.yn {P : Nat} (hP : P29 P) {G : List Fn5} {μ q : Mem} (h : Fs5 P G μ) (hy : Yn μ q) : Fs5 P G q := by
  unfold P29 at hP
  exact h.cong (fun k _ => hy.2 _ _ (by omega) (by omega)) (fun k _ => hy.2 _ _ (by omega) (by omega)) (fun f _ => hy.2 _ _ (by omega) (by omega))
theorem map_len (G : List Fn5) : (G.map fkey).length = G.length := List.length_map fkey
theorem q_b1065 {t : Nat → Int32} {n P p : Nat} (hP : P29 P) {μ0 μ : Mem} {G : List Fn5} {C : List Th3} {v : Nl} {a : Int32} (hs : sel 2 (μ0.2.2 16 4) = P) (hK : Kw (G.map fkey)) (hT : Kt P (G.map fkey) μ0) (hF : Fs5 P G μ0) (hC : Lc P C μ0) (ht : (μ0.1 P 1).toInt = (tot G : Int)) (ht8 : tot G ≤ 80 * G.length) (hCp : C.length ≤ 3 * p + G.length) (hpv : p ≤ v.1) (hv : v.2.length ≤ 5) (hL : isL (hr t n p) = true) (ha : a.toInt = (ky (hr t n p, v.2.length) : Int)) (h : Ns t n μ0 (.inr v) μ) (hn : hr t n v.1 = 61 → ¬ (hr t n p, v.2.length) ∈ G.map fkey) : pk (p_X4_readFunction_b106 a μ) (Fp5 t n P μ0 (rfeP t n G C p v)) := by
  have e1 : (1 : Int32).toInt = 1 := by decide
  have e0 : (0 : Int32).toInt = 0 := by decide
  have e6 : (6 : Int32).toInt = 6 := by decide
  rw [p_X4_readFunction_b106_eq]
  refine pk_bd (pk_both (ns_take (by decide) h) (q_Xtake1 61 h.2.1)) ?_
  rintro r21 μ20 ⟨h20, hr21⟩
  have h20 : Ns t n μ0 (if hr t n v.1 = 61 then .inr (v.1 + 1, v.2) else .inl v.1) μ20 := h20
  have hr21 : (hr t n v.1 = 61 ∧ ¬ r21 = 0) ∨ (¬ hr t n v.1 = 61 ∧ r21 = 0) := hr21
  rcases hr21 with ⟨c, c2⟩ | ⟨c, c2⟩
  · have hn := hn c
    rw [if_pos c] at h20
    rw [if_neg c2]
    have er : rfeP t n G C p v = bnd (tkP t n 59 (reP t n 20 v.2 (v.1 + 1, ([], C)))) (fun w => .inr (w.1, (hr t n p, v.2, w.2.1, C.length) :: G, w.2.2 ++ [(14, 0, 0)])) := by unfold rfeP; rw [if_pos c, if_neg hn]
    rw [er]
    have hx : Kv (hr t n p, v.2.length) := ⟨hL, hv⟩
    have hK2 := hK.add hx hn
    have hlen : (G.map fkey).length < 72 := hK2.len
    have hT20 := hT.yn hP h20.1
    have hC20 := hC.yn hP h20.1
    have hF20 := hF.yn hP h20.1
    rw [map_len] at hlen
    obtain ⟨s1, s2, s3, s4⟩ := hT20
    rw [map_len] at s1 s3 s4
    have hP' := hP
    unfold P29 at hP'
    have hs20 : sel 2 (μ20.2.2 16 4) = P := by rw [h20.1.1]; exact hs
    rw [hs20]
    refine pk_bw (q_begin5 hP s1 hlen ha (ky_lt hx)) ?_
    rintro μ23 ⟨b1, b2, b3, b4, b5, b6, b7, b8, b9, b10⟩
    have t20 : (μ20.1 P 1).toInt = (tot G : Int) := by rw [h20.1.2 P 1 (by omega) (by omega)]; exact ht
    have p0 : (μ23.1 P 0).toInt = (G.length : Int) + 1 := by rw [b4, ti_add (by omega) (by omega), s1, e1]
    have hC23 : Lc P C μ23 := hC20.cong (b3 2 (by decide)) (fun k => b2 _ _ (by omega) (by omega) (by omega) (by omega)) (fun k => b2 _ _ (by omega) (by omega) (by omega) (by omega)) (fun k => b2 _ _ (by omega) (by omega) (by omega) (by omega))
    have hE : Es5 t n v.2 P G.length (tot G) 1 μ23 (.inr (v.1 + 1, ([], C))) μ23 := by
      obtain ⟨hw, h6, hm⟩ := h20.2
      refine ⟨Xk5.rf, ⟨⟨by rw [b2 16 1 (by omega) (by omega) (by omega) (by omega)]; exact hw.1.1, hw.1.2.1, fun j hj => by rw [b2 1 j (by omega) (by omega) (by omega) (by omega)]; exact hw.1.2.2 j hj⟩, by rw [b2 16 3 (by omega) (by omega) (by omega) (by omega)]; exact hw.2.1, by rw [b2 16 2 (by omega) (by omega) (by omega) (by omega)]; exact hw.2.2.1, hw.2.2.2⟩, by rw [b2 16 6 (by omega) (by omega) (by omega) (by omega)]; exact h6, hm.cong (fun j _ => b2 17 j (by omega) (by omega) (by omega) (by omega)), ⟨⟨p0, by omega⟩, ⟨by rw [b10 2 (by omega) (by omega)]; rfl, by rw [b10 3 (by omega) (by omega)]; rfl, by rw [b10 4 (by omega) (by omega)]; rfl, by rw [b10 5 (by omega) (by omega)]; rfl⟩, by rw [b3 1 (by decide), t20]; rfl, (show (0 : Nat) ≤ 80 by decide), (show (0 : Nat) ≤ 80 by decide), (show (0 : Nat) ≤ 80 by decide), (show (0 : Nat) ≤ 80 by decide), by omega⟩, hC23, by show C.length + 1 ≤ 3 * (v.1 + 1) + G.length; omega⟩
    have hs23 : sel 2 (μ23.2.2 16 4) = P := by rw [b1]; exact hs20
    refine pk_bw (q_Xexpr5 hP 20 v.2 (v.1 + 1, ([], C)) 1 0 μ23 μ23 (by decide) (by omega) hs23 hE) (fun μ25 h25 => pk_bd (es5_take hP (c := 59) (by decide) h25) (fun r28 μ27 h27 => pk_bd (es5_add hP hs23 _ _ _ h27) (fun r30 μ29 h29 => pk_some ?_)))
    obtain ⟨h29, _⟩ := h29
    have h29 : Es5 t n v.2 P G.length (tot G) 0 μ23 (adC (14, 0, 0) (tkP t n 59 (reP t n 20 v.2 (v.1 + 1, ([], C))))) μ29 := h29
    generalize tkP t n 59 (reP t n 20 v.2 (v.1 + 1, ([], C))) = o at h29 ⊢
    refine ⟨by rw [h29.1.1, b1, h20.1.1], ?_⟩
    cases o with
    | inl f => exact h29.2
    | inr w =>
      obtain ⟨⟨_, kg, k0, k2⟩, hw, _, _, hA, hL5, hd⟩ := h29
      have hd : (w.2.2 ++ [((14 : Int32), (0 : Int32), (0 : Int32))]).length + 0 ≤ 3 * w.1 + G.length := hd
      have hw : Xw t n w.1 μ29 := hw
      have h800 := hw.1.2.1
      have hpn := hw.2.2.2
      have g2 : ∀ k, μ29.1 (P + 2) k = μ23.1 (P + 2) k := fun k => kg _ _ (by omega) (by omega) (by omega) (by omega) (by omega) (by omega) (by omega)
      have g3 : ∀ k, μ29.1 (P + 3) k = μ23.1 (P + 3) k := fun k => kg _ _ (by omega) (by omega) (by omega) (by omega) (by omega) (by omega) (by omega)
      have hA : Ab P G.length (tot G) (cnt w.2.1) μ29 := hA
      obtain ⟨_, ⟨a2, a3, a4, a5⟩, at1, ⟨l1, _⟩⟩ := hA
      have hlr := isL_r hL
      have hky : a.toInt = ((hr t n p).toInt - 97) * 6 + (v.2.length : Int) := by
        rw [ha]; unfold ky
        show ((((hr t n p).toInt - 97).toNat * 6 + v.2.length : Nat) : Int) = _
        omega
      have hdv : (a / 6).toInt = (hr t n p).toInt - 97 := by rw [ti_div6 (by omega), hky]; omega
      refine ⟨hw, hK2, ?_, ⟨⟨?_, ?_, a2, a3, a4, a5, ?_, ?_⟩, ?_⟩, hL5, ?_, ?_, by show (w.2.2 ++ [((14 : Int32), (0 : Int32), (0 : Int32))]).length ≤ 3 * w.1 + (G.length + 1); omega⟩
      · refine ⟨?_, ⟨by rw [hL5.1]; omega, by rw [hL5.1]; omega⟩, fun i hi => ?_, fun k hk => ?_⟩
        · rw [k0, p0]; show _ = (((fkey (hr t n p, v.2, w.2.1, C.length) :: G.map fkey).length : Nat) : Int); rw [List.length_cons, map_len]; omega
        · rw [g2, b5]
          by_cases c : i = G.length
          · rw [if_pos c]; exact s2.1
          · rw [if_neg c]
            have hi : i < (G.map fkey).length + 1 := hi
            rw [map_len] at hi
            exact s3 i (by omega)
        · rw [g3, b6]
          by_cases c : k = ky (hr t n p, v.2.length)
          · rw [if_pos c]
            exact Or.inl ⟨⟨_, List.mem_cons_self, c.symm⟩, by omega, by rw [s1]; show (G.length : Int) < (((G.map fkey).length + 1 : Nat) : Int); rw [map_len]; omega⟩
          · rw [if_neg c]
            rcases s4 k hk with ⟨⟨y, d1, d2⟩, d3, d4⟩ | ⟨d1, d2⟩
            · exact Or.inl ⟨⟨y, List.mem_cons_of_mem _ d1, d2⟩, d3, by show _ < (((G.map fkey).length + 1 : Nat) : Int); rw [map_len]; omega⟩
            · refine Or.inr ⟨?_, d2⟩
              rintro ⟨y, hy, e⟩
              rcases List.mem_cons.mp hy with e2 | e2
              · rw [e2] at e; exact c e.symm
              · exact d1 ⟨y, e2, e⟩
      · rw [k2 _ (by omega), b8, ti_add (by omega) (by omega), hdv, e1]; show _ = (hr t n p).toInt - 96; omega
      · rw [k2 _ (by omega), b9]
        have m6 : (a / 6 * 6).toInt = ((hr t n p).toInt - 97) * 6 := by rw [ti_mulc e6 (by omega) (by omega), hdv]
        rw [ti_sub (by omega) (by omega), m6, hky]; show _ = ((v.2.length : Nat) : Int); omega
      · rw [g2, b5, if_pos rfl]; exact hC20.1
      · rw [g3, b6]
        show (if ky (hr t n p, v.2.length) = ky (hr t n p, v.2.length) then _ else _ : Int32).toInt = _
        rw [if_pos rfl, s1]
      · refine hF20.cong (fun k hk => by rw [k2 _ (by omega), b7 k hk]) (fun k hk => by rw [g2, b5, if_neg (by omega)]) (fun f hf => ?_)
        rw [g3, b6, if_neg ?_]
        intro e
        have hfm : fkey f ∈ G.map fkey := List.mem_map_of_mem hf
        exact hn (by rw [← ky_inj (hK.2 _ hfm) hx e]; exact hfm)
      · rw [at1]; show _ = ((tot ((hr t n p, v.2, w.2.1, C.length) :: G) : Nat) : Int); unfold tot; rw [List.map_cons, List.sum_cons]; show ((tot G + w.2.1.length : Nat) : Int) = ((w.2.1.length + tot G : Nat) : Int); omega
      · have l1 : w.2.1.length ≤ 80 := l1
        unfold tot at ht8 ⊢; rw [List.map_cons, List.sum_cons]; show w.2.1.length + _ ≤ 80 * (G.length + 1); omega
  · rw [if_neg c] at h20
    rw [if_pos c2]
    have er : rfeP t n G C p v = .inl v.1 := by unfold rfeP; rw [if_neg c]
    rw [er]
    exact pk_some ⟨h20.1.1, h20.2⟩
theorem q_Xfun5 {t : Nat → Int32} {n P p : Nat} (hP : P29 P) {μ : Mem} {G : List Fn5} {C : List Th3} (hs : sel 2 (μ.2.2 16 4) = P) (h : Fz5 t n P (p, G, C) μ) : pk (p_X4_readFunction μ) (Fp5 t n P μ (rfP t n G C p)) := by
  have e0 : (0 : Int32).toInt = 0 := by decide
  have e6 : (6 : Int32).toInt = 6 := by decide
  have e97 : (97 : Int32).toInt = 97 := by decide
  obtain ⟨hw, hK, hT, hF, hC, ht, ht8, hCp⟩ := h
  have hw : Xw t n p μ := hw
  have hT : Kt P (G.map fkey) μ := hT
  have hK : Kw (G.map fkey) := hK
  rw [p_X4_readFunction_eq]
  refine pk_bvy (fun v1 ev1 => pk_bd (q_Xhere hw) ?_)
  rintro r3 μ2 ⟨e, hh⟩
  have e : μ2 = μ := e
  subst e
  have hh : r3 = hr t n p := hh
  subst hh
  refine pk_ite (fun c => ?_) (fun c => ?_)
  · rw [isL_X] at c
    have er : rfP t n G C p = .inl p := by unfold rfP; rw [if_neg (by rw [c]; decide)]
    rw [er]
    exact pk_bw (q_Xfail hw) (fun q hq => pk_some ⟨by rw [hq.1.1], hq.2⟩)
  rw [isL_X] at c
  have hL : isL (hr t n p) = true := by simpa using c
  have hp : p < n := hr_lt (isL_ne hL)
  have hl := isL_r hL
  refine pk_bvy (fun μ5 e5 => pk_bvy (fun μ6 e6 => ?_))
  have hw5 : Xw t n (p + 1) μ5 := by rw [e5]; exact xw_next hw hp
  have hE6 : Xe μ2 μ6 := by rw [e6]; exact Xe.tr (by rw [e5]; exact Xe.put (by decide) _) (Xe.put (by decide) _)
  have h6 : Ns t n μ2 (.inr (p + 1, [])) μ6 := ⟨hE6.yn, ⟨hE6.xs hw.1, by rw [e6, sF_k (by decide)]; exact hw5.2.1, by rw [e6, sF_k (by decide)]; exact hw5.2.2.1, hw5.2.2.2⟩, by rw [e6, sF_v]; exact e0, trivial⟩
  refine pk_bd (ns_take (by decide) h6) (fun r8 μ7 h7 => pk_bw (ns_names (fun v hv => tkn_nil hv) h7) (fun μ9 h9 => pk_bd (ns_take (by decide) h9) (fun r12 μ11 h11 => pk_bd (ns_well h11) ?_)))
  rintro r14 μ13 ⟨e, hz⟩
  have e : μ13 = μ11 := e
  subst e
  have h11 : Ns t n μ2 (tkn t n 41 (rnl t n (tkn t n 40 (.inr (p + 1, []))))) μ13 := h11
  have er : rfP t n G C p = bnd (tkn t n 41 (rnl t n (tkn t n 40 (.inr (p + 1, []))))) (rfeP t n G C p) := by unfold rfP; rw [if_pos hL]
  rw [er]
  have hlen : ∀ v, tkn t n 41 (rnl t n (tkn t n 40 (.inr (p + 1, [])))) = .inr v → v.2.length ≤ 5 := fun v hv => rnl_len hv
  have hmn : Mn (p + 1) (tkn t n 41 (rnl t n (tkn t n 40 (.inr (p + 1, []) : Rd Nl)))) := by
    have b1 : Mn (p + 1) (.inr (p + 1, []) : Rd Nl) := Nat.le_refl _
    refine Mn.tkn (b1.tkn.b (fun v => ?_))
    split
    · exact Nat.le_refl _
    · exact nms_mono 4 (nm1_mono v)
  generalize tkn t n 41 (rnl t n (tkn t n 40 (.inr (p + 1, [])))) = o at h11 hz hlen hmn ⊢
  rcases hz with ⟨c, f, e⟩ | ⟨c, v, e⟩
  · subst e
    rw [if_pos c]
    exact pk_some ⟨h11.1.1, h11.2⟩
  subst e
  rw [if_neg c]
  have hv := hlen v rfl
  have hpv : p ≤ v.1 := by have : p + 1 ≤ v.1 := hmn; omega
  refine pk_bvy (fun v16 e16 => ?_)
  have ha : v16.toInt = (ky (hr t n p, v.2.length) : Int) := by
    have d1 : (hr t n p - 97).toInt = (hr t n p).toInt - 97 := by rw [ti_sub (by omega) (by omega), e97]
    have d2 : ((hr t n p - 97) * 6).toInt = ((hr t n p).toInt - 97) * 6 := by rw [ti_mulc (n := 6) (by decide) (by omega) (by omega), d1]
    have d3 := h11.2.2.1
    rw [e16, ti_add (by omega) (by omega), d2, d3]
    unfold ky
    show _ = ((((hr t n p).toInt - 97).toNat * 6 + v.2.length : Nat) : Int)
    omega
  refine pk_bd (q_Xhere h11.2.1) ?_
  rintro r18 μ17 ⟨e, hh⟩
  have e : μ17 = μ13 := e
  subst e
  have hh : r18 = hr t n v.1 := hh
  subst hh
  show pk _ (Fp5 t n P μ2 (rfeP t n G C p v))
  refine pk_ite (fun c1 => ?_) (fun c1 => q_b1065 hP hs hK hT hF hC ht ht8 hCp hpv hv hL ha h11 (fun e => absurd e c1))
  have hs17 : sel 2 (μ17.2.2 16 4) = P := by rw [h11.1.1]; exact hs
  rw [hs17]
  refine pk_bd (q_start hK (hT.yn hP h11.1) (x := (hr t n p, v.2.length)) ⟨hL, hv⟩ ha) ?_
  rintro r32 μ31 ⟨e, hz⟩
  have e : μ31 = μ17 := e
  subst e
  have hz : r32 = -1 ↔ ¬ (hr t n p, v.2.length) ∈ G.map fkey := hz
  refine pk_ite (fun c2 => q_b1065 hP hs hK hT hF hC ht ht8 hCp hpv hv hL ha h11 (fun _ => hz.mp c2)) (fun c2 => ?_)
  have hm : (hr t n p, v.2.length) ∈ G.map fkey := by
    by_cases hm : (hr t n p, v.2.length) ∈ G.map fkey
    · exact hm
    · exact absurd (hz.mpr hm) c2
  have er : rfeP t n G C p v = .inl p := by unfold rfeP; rw [if_pos c1, if_pos hm]
  rw [er, p_X4_fail_eq, if_pos h11.2.1.2.1]
  refine pk_bw (pk_bvy (fun μ34 e34 => pk_some (Q := fun q => q = sF μ31 16 3 v1) e34)) ?_
  intro μ34 e34
  have hE : Xe μ31 μ34 := by rw [e34]; exact Xe.put (by decide) _
  have hf : Xf t n p μ34 := ⟨hE.xs h11.2.1.1, by rw [e34, sF_v, ev1]; exact hw.2.2.1⟩
  refine pk_mono (b106f hf) (fun q e => ?_)
  have e : q = μ34 := e
  rw [e]
  exact ⟨by rw [hE.1]; exact h11.1.1, hf⟩
theorem rfP_mono {t : Nat → Int32} {n : Nat} {G : List Fn5} {C : List Th3} {p : Nat} : Mn (p + 1) (rfP t n G C p) := by
  unfold rfP; split
  · have b1 : Mn (p + 1) (.inr (p + 1, []) : Rd Nl) := Nat.le_refl _
    refine Mn.b (Mn.tkn (b1.tkn.b (fun v => ?_))) (fun v => ?_)
    · split
      · exact Nat.le_refl _
      · exact nms_mono 4 (nm1_mono v)
    · unfold rfeP; split
      · split
        · trivial
        · have hg := reP_gw (t := t) (n := n) 20 v.2 (v.1 + 1, ([], C))
          cases e : reP t n 20 v.2 (v.1 + 1, ([], C)) with
          | inl f => trivial
          | inr w =>
            rw [e] at hg
            have hg : v.1 + 1 ≤ w.1 := hg.1
            show Mn v.1 (bnd (if hr t n w.1 = 59 then .inr (w.1 + 1, w.2) else .inl w.1 : Rd (Nat × Py)) _)
            by_cases c : hr t n w.1 = 59
            · rw [if_pos c]; show v.1 ≤ w.1 + 1; omega
            · rw [if_neg c]; trivial
      · trivial
  · trivial
def Pa5 (t : Nat → Int32) (n P : Nat) (μ : Mem) (o : Rd (List Fn5 × List Th3)) (q : Mem) : Prop := q.2.2 = μ.2.2 ∧ (match o with | .inl f => Xf t n f q | .inr v => q.1 16 3 = -1 ∧ ∃ p, p ≤ n ∧ Fz5 t n P (p, v) q)
theorem q_b145 {t : Nat → Int32} {n P : Nat} (hP : P29 P) {μ0 : Mem} (hs : sel 2 (μ0.2.2 16 4) = P) : ∀ (fu f j p : Nat) (v : List Fn5 × List Th3) (a : Int32) (μ : Mem), a.toInt = (j : Int) → j ≤ p → n < f + p → μ.2.2 = μ0.2.2 → Fz5 t n P (p, v) μ → pk (p_X4_readProgram_b14 fu a μ) (Pa5 t n P μ0 (rpgP t n f (p, v))) := by
  have e800 : (800 : Int32).toInt = 800 := by decide
  have e1 : (1 : Int32).toInt = 1 := by decide
  intro fu
  induction fu with
  | zero => intro f j p v a μ _ _ _ _ _ r e; rw [p_X4_readProgram_b14_z] at e; cases e
  | succ fu ih =>
    intro f j p v a μ h1 hj hf g h
    have hw : Xw t n p μ := h.1
    have hn8 := hw.1.2.1
    have hpn : p ≤ n := hw.2.2.2
    rw [p_X4_readProgram_b14_s]
    refine pk_ite (fun c => ?_) (fun c => pk_bd q_Xwell ?_)
    · rw [ti_lt, e800, h1] at c; omega
    rintro r6 μ5 ⟨e, hwl⟩
    have e : μ5 = μ := e
    subst e
    rw [if_neg (wl1 hw hwl)]
    cases f with
    | zero => omega
    | succ f =>
      show pk _ (Pa5 t n P μ0 (if n ≤ p then .inr v else bnd (rfP t n v.1 v.2 p) (rpgP t n f)))
      refine pk_ite (fun c2 => ?_) (fun c2 => ?_)
      · rw [ti_le, hw.1.1, hw.2.2.1] at c2
        rw [if_pos (by omega)]
        exact pk_some ⟨g, hw.2.1, p, hpn, h⟩
      · rw [ti_le, hw.1.1, hw.2.2.1] at c2
        rw [if_neg (show ¬ n ≤ p by omega)]
        have hm := rfP_mono (t := t) (n := n) (G := v.1) (C := v.2) (p := p)
        refine pk_bw (q_Xfun5 hP (by rw [g]; exact hs) h) (fun μ9 h9 => pk_bvy (fun v11 e11 => ?_))
        obtain ⟨g9, h9⟩ := h9
        generalize rfP t n v.1 v.2 p = o at h9 hm ⊢
        cases o with
        | inl x =>
          refine pk_mono (b14f h9 fu v11) (fun q e => ?_)
          have e : q = μ9 := e
          rw [e]; exact ⟨g9.trans g, h9⟩
        | inr w =>
          have hm : p + 1 ≤ w.1 := hm
          exact ih f (j + 1) w.1 w.2 v11 μ9 (by rw [e11, ti_add (by omega) (by omega), e1, h1]; omega) (by omega) (by omega) (g9.trans g) h9
theorem q_clear35 {P : Nat} (hP : P29 P) (μ : Mem) : pk (p_X3_clear P μ) (fun q => q.1 P 1 = 0) := by
  have e72 : (72 : Int32).toInt = 72 := by decide
  have loop : ∀ (fu : Nat) (a1 : Int32) (q : Mem), q.1 P 1 = 0 → pk (p_X3_clear_b17 fu P a1 q) (fun q => q.1 P 1 = 0) := by
    intro fu
    induction fu with
    | zero => intro a1 q _ r e; rw [p_X3_clear_b17_z] at e; cases e
    | succ fu ih =>
      intro a1 q h
      rw [p_X3_clear_b17_s]
      exact pk_ite (fun _ => pk_some h) (fun _ => pk_gd (fun _ => pk_bvy (fun μ5 e5 => pk_bv (ih _ μ5 (by rw [e5, sF_i (by omega)]; exact h)))))
  rw [p_X3_clear_eq]
  exact pk_bvy (fun μ1 e1 => pk_bvy (fun μ2 e2 => pk_bvy (fun μ3 e3 => loop FUEL 0 μ3 (by rw [e3, sF_k (by decide), e2, sF_v]))))
theorem q_Xprog5 {t : Nat → Int32} {n P : Nat} {μ : Mem} (hP : P29 P) (hsP : sel 2 P = P) (hw : Xw t n 0 μ) : pk (p_X4_readProgram P μ) (fun q => (∀ k, q.2.2 0 k = μ.2.2 0 k) ∧ (match rpgP t n 801 (0, [], []) with | .inl f => Xf t n f q | .inr v => q.1 16 3 = -1 ∧ ∃ p, p ≤ n ∧ Fz5 t n P (p, v) q)) := by
  have e0 : (0 : Int32).toInt = 0 := by decide
  rw [p_X4_readProgram_eq]
  refine pk_bvy (fun μ1 e1 => ?_)
  have r1 : μ1.2.2 16 4 = P := by rw [e1, sR_3, if_pos rfl, if_pos rfl]
  have r0 : ∀ k, μ1.2.2 0 k = μ.2.2 0 k := fun k => by rw [e1, sR_3, if_neg (by decide)]
  have m1 : μ1.1 = μ.1 := by rw [e1]; rfl
  rw [r1, hsP]
  have hP' := hP
  unfold P29 at hP'
  refine pk_bw (pk_both (q_clear3 hP μ1) (q_clear35 hP μ1)) ?_
  rintro μ2 ⟨⟨c1, c2, c3, c4, c5⟩, c6⟩
  have hn8 := hw.1.2.1
  have hF : Fz5 t n P (0, [], []) μ2 := by
    refine ⟨⟨⟨by rw [c2 16 1 (by omega) (by omega), m1]; exact hw.1.1, hw.1.2.1, fun j hj => by rw [c2 1 j (by omega) (by omega), m1]; exact hw.1.2.2 j hj⟩, by rw [c2 16 3 (by omega) (by omega), m1]; exact hw.2.1, by rw [c2 16 2 (by omega) (by omega), m1]; exact hw.2.2.1, Nat.zero_le _⟩, ⟨List.Pairwise.nil, fun x hx => (by cases hx)⟩, ⟨by rw [c3]; exact e0, by rw [c4, e0]; omega, fun i hi => (by cases hi), fun k hk => Or.inr ⟨?_, c5 k hk⟩⟩, trivial, ⟨by rw [c4]; exact e0, fun i x hx => (by cases hx)⟩, by rw [c6]; exact e0, by decide, by simp⟩
    rintro ⟨x, hx, _⟩; cases hx
  have hs2 : sel 2 (μ2.2.2 16 4) = P := by rw [c1, r1]; exact hsP
  refine pk_mono (q_b145 hP hs2 FUEL 801 0 0 ([], []) 0 μ2 e0 (by omega) (by omega) rfl hF) (fun q hq => ⟨fun k => by rw [hq.1, c1]; exact r0 k, hq.2⟩)
def Pc5 (μ : Mem) (G : List Fn5) (C : List Th3) : Prop := Kw (G.map fkey) ∧ Kt (sel 2 (μ.2.2 0 4)) (G.map fkey) μ ∧ Fs5 (sel 2 (μ.2.2 0 4)) G μ ∧ Lc (sel 2 (μ.2.2 0 4)) C μ ∧ (μ.1 (sel 2 (μ.2.2 0 4)) 1).toInt = (tot G : Int) ∧ tot G ≤ 80 * G.length ∧ C.length ≤ 2472
theorem q_prog115 {T : Nat} {μ : Mem} (hT : (μ.1 0 1).toInt = (T : Int)) (h8 : T ≤ 800) : pk (p_X11_program μ) (fun r => match rpgP (fun j => μ.1 1 j) T 801 (0, [], []) with | .inl f => r.1 = -1 ∧ (r.2.1 0 2).toInt = (f : Int) | .inr v => r.1.toInt = (v.1.length : Int) ∧ r.2.1 0 2 = -1 ∧ Pc5 r.2 v.1 v.2) := by
  rw [p_X11_program_eq]
  refine pk_bw (q_take11 hT h8) ?_
  rintro μ1 ⟨f1, w1⟩
  have hsh := sel_2 (μ1.2.2 0 5)
  have hsP : sel 2 (sel 2 (μ1.2.2 0 5)) = sel 2 (μ1.2.2 0 5) := sel_at hsh
  have hP := p29_sh hsh
  generalize hq : sel 2 (μ1.2.2 0 5) = P at hsP hP ⊢
  refine pk_bw (q_Xprog5 hP hsP w1) ?_
  rintro μ3 ⟨f3, o3⟩
  refine pk_bd (P := fun r => r.2 = μ3 ∧ r.1 = μ3.1 16 3) (by rw [p_X4_badPlace_eq]; exact pk_some ⟨rfl, rfl⟩) ?_
  rintro r6 μ5 ⟨e, hr6⟩
  have e : μ5 = μ3 := e
  subst e
  have hr6 : r6 = μ5.1 16 3 := hr6
  refine pk_bvy (fun μ7 m7 => ?_)
  have t2 : μ7.1 0 2 = μ5.1 16 3 := by rw [m7, sF_v, hr6]
  have f7 : μ7.2 = μ5.2 := by rw [m7]; rfl
  generalize rpgP (fun j => μ.1 1 j) T 801 (0, [], []) = o at o3 ⊢
  cases o with
  | inl f =>
    have o3 : Xf _ T f μ5 := o3
    rw [if_neg (by rw [t2]; exact xf_bad o3)]
    exact pk_some ⟨rfl, by show (μ7.1 0 2).toInt = _; rw [t2]; exact o3.2⟩
  | inr v =>
    obtain ⟨o3, p, hpn, o4⟩ : μ5.1 16 3 = -1 ∧ ∃ p, p ≤ T ∧ Fz5 (fun j => μ.1 1 j) T P (p, v) μ5 := o3
    rw [if_pos (by rw [t2]; exact o3)]
    have h5 : sel 2 (μ7.2.2 0 5) = P := by rw [f7, f3]; exact hq
    rw [h5]
    refine pk_bvy (fun μ9 m9 => pk_bvy (fun μ10 m10 => pk_bw (q_clear5 μ10) ?_))
    rintro μ11 ⟨k1, k2⟩
    have hP' := hP
    unfold P29 at hP'
    have h4 : μ11.2.2 0 4 = P := by rw [k1, m10, sR_3, if_pos rfl, if_neg (by decide), m9, sR_3, if_pos rfl, if_pos rfl]
    have g : ∀ i k, i ≠ 39 → i ≠ 0 → μ11.1 i k = μ5.1 i k := fun i k a b => by rw [k2 i k a, m10, sR_1, m9, sR_1, m7, sF_i b]
    obtain ⟨_, oK, oT, oF, oC, ot, ot8, oCp⟩ := o4
    have oT : Kt P (v.1.map fkey) μ5 := oT
    have oK : Kw (v.1.map fkey) := oK
    have olen := oK.len
    rw [map_len] at olen
    refine pk_some ⟨?_, ?_, ?_⟩
    · show (μ11.1 (sel 2 (μ11.2.2 0 4)) 0).toInt = _
      rw [h4, hsP, g P 0 (by omega) (by omega), oT.1, map_len]
    · show μ11.1 0 2 = -1
      rw [k2 0 2 (by decide), m10, sR_1, m9, sR_1, t2]; exact o3
    · show Pc5 μ11 v.1 v.2
      unfold Pc5
      rw [h4, hsP]
      obtain ⟨x1, x2, x3, x4⟩ := oT
      refine ⟨oK, ⟨by rw [g P 0 (by omega) (by omega)]; exact x1, by rw [g P 2 (by omega) (by omega)]; exact x2, fun i hi => by rw [g _ _ (by omega) (by omega)]; exact x3 i hi, fun k hk => by rw [g (P + 3) k (by omega) (by omega)]; exact x4 k hk⟩, oF.cong (fun k _ => g _ _ (by omega) (by omega)) (fun k _ => g _ _ (by omega) (by omega)) (fun f _ => g _ _ (by omega) (by omega)), oC.cong (g _ _ (by omega) (by omega)) (fun k => g _ _ (by omega) (by omega)) (fun k => g _ _ (by omega) (by omega)) (fun k => g _ _ (by omega) (by omega)), by rw [g _ _ (by omega) (by omega)]; exact ot, ot8, by have oCp : v.2.length ≤ 3 * p + v.1.length := oCp; omega⟩
