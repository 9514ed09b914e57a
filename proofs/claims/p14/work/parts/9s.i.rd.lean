theorem q_Xtakef0 {t : Nat → Int32} {n f : Nat} {μ : Mem} (c : Int32) (h : Xf t n f μ) : pk (p_X4_take c μ) (fun r => r.1 = 0) := by
  rw [p_X4_take_eq]
  refine pk_bd q_Xwell ?_
  rintro r2 μ1 ⟨e, hw⟩
  have e : μ1 = μ := e
  subst e
  rw [if_pos (wl0 h hw)]; exact pk_some rfl
theorem q_Xtake1 {t : Nat → Int32} {n p : Nat} {μ : Mem} (c : Int32) (h : Xw t n p μ) : pk (p_X4_take c μ) (fun r => (hr t n p = c ∧ ¬ r.1 = 0) ∨ (¬ hr t n p = c ∧ r.1 = 0)) := by
  rw [p_X4_take_eq]
  refine pk_bd q_Xwell ?_
  rintro r2 μ1 ⟨e, hw⟩
  have e : μ1 = μ := e
  subst e
  rw [if_neg (wl1 h hw)]
  refine pk_bd (q_Xhere h) ?_
  rintro r5 μ4 ⟨e, hh⟩
  have e : μ4 = μ1 := e
  subst e
  have hh : r5 = hr t n p := hh
  subst hh
  exact pk_ite (fun c1 => pk_bv (pk_some (Or.inl ⟨c1, (show ¬ (1 : Int32) = 0 by decide)⟩))) (fun c1 => pk_bw (P := fun _ => True) (fun _ _ => trivial) (fun q _ => pk_some (Or.inr ⟨c1, rfl⟩)))
theorem b106f {t : Nat → Int32} {n f : Nat} {a : Int32} {μ : Mem} (h : Xf t n f μ) : pk (p_X4_readFunction_b106 a μ) (fun q => q = μ) := by
  rw [p_X4_readFunction_b106_eq]
  refine pk_bd (pk_both (q_Xtakef 61 h) (q_Xtakef0 61 h)) ?_
  rintro r q ⟨e1, e2⟩
  have e1 : q = μ := e1
  have e2 : r = 0 := e2
  rw [if_pos e2]; exact pk_some e1
theorem tkn_nil {t : Nat → Int32} {n p : Nat} {c : Int32} {v : Nl} (h : tkn t n c (.inr (p, [])) = .inr v) : v.2 = [] := by
  have h : (if hr t n p = c then .inr (p + 1, []) else .inl p : Rd Nl) = .inr v := h
  by_cases c1 : hr t n p = c
  · rw [if_pos c1] at h; cases h; rfl
  · rw [if_neg c1] at h; cases h
def Fp (t : Nat → Int32) (n P : Nat) (μ : Mem) (o : Rd (Nat × List Ky)) (q : Mem) : Prop := q.2.2 = μ.2.2 ∧ (match o with | .inl f => Xf t n f q | .inr v => Fz t n P v q)
theorem q_b106 {t : Nat → Int32} {n P p : Nat} (hP : P29 P) {μ0 μ : Mem} {K : List Ky} {v : Nl} {a : Int32} (hs : sel 2 (μ0.2.2 16 4) = P) (hK : Kw K) (hT : Kt P K μ0) (hv : v.2.length ≤ 5) (hL : isL (hr t n p) = true) (ha : a.toInt = (ky (hr t n p, v.2.length) : Int)) (h : Ns t n μ0 (.inr v) μ) (hn : hr t n v.1 = 61 → ¬ (hr t n p, v.2.length) ∈ K) : pk (p_X4_readFunction_b106 a μ) (Fp t n P μ0 (rfe t n K p v)) := by
  have e1 : (1 : Int32).toInt = 1 := by decide
  have e0 : (0 : Int32).toInt = 0 := by decide
  rw [p_X4_readFunction_b106_eq]
  refine pk_bd (pk_both (ns_take (by decide) h) (q_Xtake1 61 h.2.1)) ?_
  rintro r21 μ20 ⟨h20, hr21⟩
  have h20 : Ns t n μ0 (if hr t n v.1 = 61 then .inr (v.1 + 1, v.2) else .inl v.1) μ20 := h20
  have hr21 : (hr t n v.1 = 61 ∧ ¬ r21 = 0) ∨ (¬ hr t n v.1 = 61 ∧ r21 = 0) := hr21
  rcases hr21 with ⟨c, c2⟩ | ⟨c, c2⟩
  · have hn := hn c
    rw [if_pos c] at h20
    rw [if_neg c2]
    have er : rfe t n K p v = bnd (tk t n 59 (re t n 20 v.2 (v.1 + 1, 0))) (fun w => .inr (w.1, (hr t n p, v.2.length) :: K)) := by unfold rfe; rw [if_pos c, if_neg hn]
    rw [er]
    have hx : Kv (hr t n p, v.2.length) := ⟨hL, hv⟩
    have hK2 := hK.add hx hn
    have hlen : K.length < 72 := hK2.len
    have hT20 := hT.yn hP h20.1
    obtain ⟨s1, s2, s3, s4⟩ := hT20
    have hs20 : sel 2 (μ20.2.2 16 4) = P := by rw [h20.1.1]; exact hs
    rw [hs20]
    refine pk_bw (q_begin3 hP s1 hlen ha (ky_lt hx)) ?_
    rintro μ23 ⟨b1, b2, b3, b4, b5, b6, b7, b8⟩
    have hP' := hP
    unfold P29 at hP'
    have hE : Es t n v.2 P μ23 (.inr (v.1 + 1, 0)) μ23 := by
      obtain ⟨hw, h6, hm⟩ := h20.2
      have hs6 : (μ23.1 P 0).toInt = (K.length : Int) + 1 := by rw [b4, ti_add (by omega) (by omega), s1, e1]
      have hci : ci μ23 P = (μ20.1 P 0) * 6 + 2 := by unfold ci; rw [b4, Int32.add_sub_cancel]
      refine ⟨Xk.rf, ⟨⟨by rw [b2 16 1 (by omega) (by omega) (by omega) (by omega)]; exact hw.1.1, hw.1.2.1, fun j hj => by rw [b2 1 j (by omega) (by omega) (by omega) (by omega)]; exact hw.1.2.2 j hj⟩, by rw [b2 16 3 (by omega) (by omega) (by omega) (by omega)]; exact hw.2.1, by rw [b2 16 2 (by omega) (by omega) (by omega) (by omega)]; exact hw.2.2.1, hw.2.2.2⟩, by rw [b2 16 6 (by omega) (by omega) (by omega) (by omega)]; exact h6, hm.cong (fun j _ => b2 17 j (by omega) (by omega) (by omega) (by omega)), by omega, by rw [hci]; exact b7, by rw [hci, b8]; exact e0, Nat.zero_le _, by rw [b3]; exact s2⟩
    have hs23 : sel 2 (μ23.2.2 16 4) = P := by rw [b1]; exact hs20
    refine pk_bw (q_Xexpr hP 20 v.2 _ 0 μ23 μ23 (by decide) (by omega) hs23 hE) (fun μ25 h25 => pk_bd (es_take hP (by decide) h25) (fun r28 μ27 h27 => pk_bd (es_add hP hs23 _ _ _ h27) (fun r30 μ29 h29 => pk_some ?_)))
    have h29 : Es t n v.2 P μ23 (tk t n 59 (re t n 20 v.2 (v.1 + 1, 0))) μ29 := h29
    generalize tk t n 59 (re t n 20 v.2 (v.1 + 1, 0)) = o at h29 ⊢
    refine ⟨by rw [h29.1.1, b1, h20.1.1], ?_⟩
    cases o with
    | inl f => exact h29.2
    | inr w =>
      obtain ⟨⟨_, k0, k2, k3⟩, hw, _, _, hC⟩ := h29
      refine ⟨hw, hK2, ?_, hC.2.2.2.2, fun i hi => ?_, fun k hk => ?_⟩
      · rw [k0, b4, ti_add (by omega) (by omega), s1, e1]; simp
      · rw [k2, b5]
        by_cases c : i = K.length
        · rw [if_pos c]; exact s2.1
        · rw [if_neg c]; exact s3 i (by have : i < K.length + 1 := hi; omega)
      · rw [k3, b6]
        by_cases c : k = ky (hr t n p, v.2.length)
        · rw [if_pos c]
          exact Or.inl ⟨⟨_, List.mem_cons_self, c.symm⟩, by omega, by rw [s1]; show (K.length : Int) < ((K.length + 1 : Nat) : Int); omega⟩
        · rw [if_neg c]
          rcases s4 k hk with ⟨⟨y, a1, a2⟩, a3, a4⟩ | ⟨a1, a2⟩
          · exact Or.inl ⟨⟨y, List.mem_cons_of_mem _ a1, a2⟩, a3, by simp; omega⟩
          · refine Or.inr ⟨?_, a2⟩
            rintro ⟨y, hy, e⟩
            rcases List.mem_cons.mp hy with e2 | e2
            · rw [e2] at e; exact c e.symm
            · exact a1 ⟨y, e2, e⟩
  · rw [if_neg c] at h20
    rw [if_pos c2]
    have er : rfe t n K p v = .inl v.1 := by unfold rfe; rw [if_neg c]
    rw [er]
    exact pk_some ⟨h20.1.1, h20.2⟩
theorem q_Xfun {t : Nat → Int32} {n P p : Nat} (hP : P29 P) {μ : Mem} {K : List Ky} (hs : sel 2 (μ.2.2 16 4) = P) (h : Fz t n P (p, K) μ) : pk (p_X4_readFunction μ) (Fp t n P μ (rf t n K p)) := by
  have e0 : (0 : Int32).toInt = 0 := by decide
  have e6 : (6 : Int32).toInt = 6 := by decide
  have e97 : (97 : Int32).toInt = 97 := by decide
  obtain ⟨hw, hK, hT⟩ := h
  have hw : Xw t n p μ := hw
  have hT : Kt P K μ := hT
  have hK : Kw K := hK
  rw [p_X4_readFunction_eq]
  refine pk_bvy (fun v1 ev1 => pk_bd (q_Xhere hw) ?_)
  rintro r3 μ2 ⟨e, hh⟩
  have e : μ2 = μ := e
  subst e
  have hh : r3 = hr t n p := hh
  subst hh
  refine pk_ite (fun c => ?_) (fun c => ?_)
  · rw [isL_X] at c
    have er : rf t n K p = .inl p := by unfold rf; rw [if_neg (by rw [c]; decide)]
    rw [er]
    exact pk_bw (q_Xfail hw) (fun q hq => pk_some ⟨by rw [hq.1.1], hq.2⟩)
  rw [isL_X] at c
  have hL : isL (hr t n p) = true := by simpa using c
  have hp : p < n := hr_lt (isL_ne hL)
  have hl := isL_r hL
  refine pk_bvy (fun μ5 e5 => pk_bvy (fun μ6 e6 => ?_))
  have hw5 : Xw t n (p + 1) μ5 := by rw [e5]; exact xw_next hw hp
  have hE6 : Xe μ2 μ6 := by rw [e6]; exact Xe.tr (by rw [e5]; exact Xe.put (by decide) _) (Xe.put (by decide) _)
  have h6 : Ns t n μ2 (.inr (p + 1, [])) μ6 := ⟨hE6.yn, ⟨hE6.xs hw.1, by rw [e6, sF_k (by decide)]; exact hw5.2.1, by rw [e6, sF_k (by decide)]; exact hw5.2.2.1, hw5.2.2.2⟩, by rw [e6, sF_v]; exact e0, trivial⟩
  refine pk_bd (ns_take (by decide) h6) (fun r8 μ7 h7 => pk_bw (ns_names (fun v hv => tkn_nil hv) h7) (fun μ9 h9 => pk_bd (ns_take (by decide) h9) (fun r12 μ11 h11 => pk_bd (ns_well h11) ?_)))
  rintro r14 μ13 ⟨e, hz⟩
  have e : μ13 = μ11 := e
  subst e
  have h11 : Ns t n μ2 (tkn t n 41 (rnl t n (tkn t n 40 (.inr (p + 1, []))))) μ13 := h11
  have er : rf t n K p = bnd (tkn t n 41 (rnl t n (tkn t n 40 (.inr (p + 1, []))))) (rfe t n K p) := by unfold rf; rw [if_pos hL]
  rw [er]
  have hlen : ∀ v, tkn t n 41 (rnl t n (tkn t n 40 (.inr (p + 1, [])))) = .inr v → v.2.length ≤ 5 := fun v hv => rnl_len hv
  generalize tkn t n 41 (rnl t n (tkn t n 40 (.inr (p + 1, [])))) = o at h11 hz hlen ⊢
  rcases hz with ⟨c, f, e⟩ | ⟨c, v, e⟩
  · subst e
    rw [if_pos c]
    exact pk_some ⟨h11.1.1, h11.2⟩
  subst e
  rw [if_neg c]
  have hv := hlen v rfl
  refine pk_bvy (fun v16 e16 => ?_)
  have ha : v16.toInt = (ky (hr t n p, v.2.length) : Int) := by
    have d1 : (hr t n p - 97).toInt = (hr t n p).toInt - 97 := by rw [ti_sub (by omega) (by omega), e97]
    have d2 : ((hr t n p - 97) * 6).toInt = ((hr t n p).toInt - 97) * 6 := by rw [ti_mulc (n := 6) (by decide) (by omega) (by omega), d1]
    have d3 := h11.2.2.1
    rw [e16, ti_add (by omega) (by omega), d2, d3]
    unfold ky
    show _ = ((((hr t n p).toInt - 97).toNat * 6 + v.2.length : Nat) : Int)
    omega
  refine pk_bd (q_Xhere h11.2.1) ?_
  rintro r18 μ17 ⟨e, hh⟩
  have e : μ17 = μ13 := e
  subst e
  have hh : r18 = hr t n v.1 := hh
  subst hh
  show pk _ (Fp t n P μ2 (rfe t n K p v))
  refine pk_ite (fun c1 => ?_) (fun c1 => q_b106 hP hs hK hT hv hL ha h11 (fun e => absurd e c1))
  have hs17 : sel 2 (μ17.2.2 16 4) = P := by rw [h11.1.1]; exact hs
  rw [hs17]
  refine pk_bd (q_start hK (hT.yn hP h11.1) (x := (hr t n p, v.2.length)) ⟨hL, hv⟩ ha) ?_
  rintro r32 μ31 ⟨e, hz⟩
  have e : μ31 = μ17 := e
  subst e
  have hz : r32 = -1 ↔ ¬ (hr t n p, v.2.length) ∈ K := hz
  refine pk_ite (fun c2 => q_b106 hP hs hK hT hv hL ha h11 (fun _ => hz.mp c2)) (fun c2 => ?_)
  have hm : (hr t n p, v.2.length) ∈ K := by
    by_cases hm : (hr t n p, v.2.length) ∈ K
    · exact hm
    · exact absurd (hz.mpr hm) c2
  have er : rfe t n K p v = .inl p := by unfold rfe; rw [if_pos c1, if_pos hm]
  rw [er, p_X4_fail_eq, if_pos h11.2.1.2.1]
  refine pk_bw (pk_bvy (fun μ34 e34 => pk_some (Q := fun q => q = sF μ31 16 3 v1) e34)) ?_
  intro μ34 e34
  have hE : Xe μ31 μ34 := by rw [e34]; exact Xe.put (by decide) _
  have hf : Xf t n p μ34 := ⟨hE.xs h11.2.1.1, by rw [e34, sF_v, ev1]; exact hw.2.2.1⟩
  refine pk_mono (b106f hf) (fun q e => ?_)
  have e : q = μ34 := e
  rw [e]
  exact ⟨by rw [hE.1]; exact h11.1.1, hf⟩
