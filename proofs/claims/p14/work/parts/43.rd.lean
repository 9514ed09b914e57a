/-! BEHIND A WHOLE THING -/
/-- a whole expression is read -/
def Dn (μ0 μ : Mem) (b : Nat) (S0 : Nat → Nat) : Prop := Kp μ0 μ b ∧ Fo (iv μ 16) (iv μ 17) (iv μ 18) (Sg S0) 1 b (nv μ 28)
def Qm (μ0 : Mem) (b : Nat) (S0 : Nat → Nat) (r : Int32 × Mem) : Prop := (r.1 = 1 ∧ Ex μ0 r.2 b S0) ∨ (r.1 = 0 ∧ (r.2.1 0 5 = r.2.1 0 4 ∨ Dn μ0 r.2 b S0))
/-- the uppermost begun thing, o, is whole but for its end -/
def Hc (μ0 μ : Mem) (b : Nat) (S0 : Nat → Nat) (j o : Nat) (S1 : Nat → Nat) (a1 a3 : Int32) : Prop :=
  a1.toInt = (o : Int) ∧ nv μ 32 = j + 1 ∧ 0 ≤ (μ.1 0 32).toInt ∧ 0 ≤ (μ.1 0 28).toInt ∧ Cy (iv μ 16) (iv μ 17) (iv μ 18) (iv μ 19) (iv μ 20) b S0 j o S1 ∧ Fo (iv μ 16) (iv μ 17) (iv μ 18) (Sg S1) 1 o (nv μ 28) ∧ ((a3.toInt ≠ 11 ∧ (∀ u, u < 14 → iv μ 21 u = (S1 u : Int))) ∨ (a3.toInt = 11 ∧ ∃ v : Nat, iv μ 17 o = (v : Int) ∧ v < 14 ∧ (∀ u, u < 14 → iv μ 21 u = (Sa S1 v u : Int)))) ∧ Kp μ0 μ b
theorem Fs.nvq {μ μ' : Mem} (h : Fs μ μ') {k : Nat} (h4 : k ≠ 4) (h5 : k ≠ 5) (h6 : k ≠ 6) (h7 : k ≠ 7) : nv μ' k = nv μ k := by unfold nv; rw [h.f h4 h5 h6 h7]
theorem Fs.hc {μ0 μ μ' : Mem} (h : Fs μ μ') {b j o : Nat} {S0 S1 : Nat → Nat} {a1 a3 : Int32} (p : Hc μ0 μ b S0 j o S1 a1 a3) : Hc μ0 μ' b S0 j o S1 a1 a3 := by
  have e32 : μ'.1 0 32 = μ.1 0 32 := h.f (by decide) (by decide) (by decide) (by decide)
  have e28 : μ'.1 0 28 = μ.1 0 28 := h.f (by decide) (by decide) (by decide) (by decide)
  obtain ⟨p0, p1, p2, p3, p4, p5, p6, p7⟩ := p
  refine ⟨p0, by unfold nv; rw [e32]; exact p1, by rw [e32]; exact p2, by rw [e28]; exact p3, p4.cong _ (fun i _ => ⟨h.ivq (by decide) i, h.ivq (by decide) i, h.ivq (by decide) i⟩) (fun i _ => ⟨h.ivq (by decide) i, h.ivq (by decide) i⟩), ?_, ?_, fun i hi => by rw [h.ivq (by decide), h.ivq (by decide), h.ivq (by decide)]; exact p7 i hi⟩
  · have en : nv μ' 28 = nv μ 28 := by unfold nv; rw [e28]
    rw [en]; exact h.fo p5
  · rcases p6 with ⟨a, c⟩ | ⟨a, v, v1, v2, c⟩
    · exact Or.inl ⟨a, fun u hu => by rw [h.ivq (by decide)]; exact c u hu⟩
    · exact Or.inr ⟨a, v, by rw [h.ivq (by decide)]; exact v1, v2, fun u hu => by rw [h.ivq (by decide)]; exact c u hu⟩
theorem nv_dec {x : Int32} {j : Nat} (h : x.toNatClampNeg = j + 1) (h0 : 0 ≤ x.toInt) : (x - 1).toNatClampNeg = j ∧ 0 ≤ (x - 1).toInt ∧ (x - 1).toInt = x.toInt - 1 := by
  have e1 : (1 : Int32).toInt = 1 := by decide
  have e3 := ti_nat (a := x) h0
  have h2 := ti_hi x
  have e2 : (x - 1).toInt = x.toInt - 1 := by rw [ti_sub (by omega) (by omega), e1]
  have e4 := ti_nat (a := x - 1) (by omega)
  omega
theorem hm_188 {μ0 : Mem} {b : Nat} {S0 : Nat → Nat} {K0 : Mem → Option (Int32 × Mem)} (ih : ∀ μ, Wh μ0 μ b S0 → pk (K0 μ) (Qm μ0 b S0)) {μ : Mem} {j o : Nat} {S1 : Nat → Nat} {a1 a3 : Int32} (h : Hc μ0 μ b S0 j o S1 a1 a3) (h3 : ∀ u, u < 14 → iv μ 21 u = (S1 u : Int)) : pk (p_X12_hasMore_b188 K0 μ) (Qm μ0 b S0) := by
  rw [p_X12_hasMore_b188_eq]
  refine pk_bv (ih _ ?_)
  obtain ⟨p0, p1, p2, p3, p4, p5, p6, p7⟩ := h
  have hd := nv_dec p1 p2
  have oc : ∀ (c : Nat), c ≠ 0 → ∀ i, iv (sF μ 0 32 (μ.1 0 32 - 1)) c i = iv μ c i := fun c hc i => by unfold iv; rw [sF_i hc]
  refine ⟨o, S1, ⟨?_, fun u hu => by rw [oc _ (by decide)]; exact h3 u hu, by rw [sF_v]; exact hd.2.1, p3, p7⟩, ?_⟩
  · have en : nv (sF μ 0 32 (μ.1 0 32 - 1)) 32 = j := by unfold nv; rw [sF_v]; exact hd.1
    rw [en]
    exact p4.cong _ (fun i _ => ⟨oc _ (by decide) i, oc _ (by decide) i, oc _ (by decide) i⟩) (fun i _ => ⟨oc _ (by decide) i, oc _ (by decide) i⟩)
  · have en : nv (sF μ 0 32 (μ.1 0 32 - 1)) 28 = nv μ 28 := rfl
    rw [en]
    exact p5.cong (fun i _ _ => ⟨oc _ (by decide) i, oc _ (by decide) i, oc _ (by decide) i⟩)
theorem hm_167 {μ0 : Mem} {b : Nat} {S0 : Nat → Nat} {K0 : Mem → Option (Int32 × Mem)} (ih : ∀ μ, Wh μ0 μ b S0 → pk (K0 μ) (Qm μ0 b S0)) {μ : Mem} {j o : Nat} {S1 : Nat → Nat} {a1 a3 : Int32} (h : Hc μ0 μ b S0 j o S1 a1 a3) : pk (p_X12_hasMore_b167 K0 a1 a3 μ) (Qm μ0 b S0) := by
  rw [p_X12_hasMore_b167_eq]
  have h' := h
  obtain ⟨p0, p1, p2, p3, p4, p5, p6, p7⟩ := h
  have e11 : (11 : Int32).toInt = 11 := by decide
  refine pk_ite (fun ha => pk_gd fun hi => pk_bv (pk_gd fun hv => pk_gd fun _ => pk_bv ?_)) (fun ha => ?_)
  · rcases p6 with ⟨a, c⟩ | ⟨a, v, v1, v2, c⟩
    · rw [ha] at a; exact absurd e11 a
    have eo : a1.toNatClampNeg = o := tn_of p0
    rw [eo] at hv ⊢
    have ev : (μ.1 17 o).toNatClampNeg = v := tn_of v1
    rw [ev]
    have cv := c v v2
    have e1 : (1 : Int32).toInt = 1 := by decide
    have sv : Sa S1 v v = S1 v + 1 := by unfold Sa; rw [if_pos rfl]
    rw [sv] at cv
    have hhi := ti_hi (μ.1 21 v)
    have hlo : (μ.1 21 v).toInt = (S1 v + 1 : Nat) := cv
    have ed : (μ.1 21 v - 1).toInt = (S1 v : Int) := by rw [ti_sub (by omega) (by omega), e1]; omega
    have oc : ∀ (c : Nat), c ≠ 21 → ∀ i, iv (sF μ 21 v (μ.1 21 v - 1)) c i = iv μ c i := fun c hc i => by unfold iv; rw [sF_i hc]
    have t : ∀ u, u < 14 → iv (sF μ 21 v (μ.1 21 v - 1)) 21 u = (S1 u : Int) := by
      intro u hu
      unfold iv
      rw [sF_1, if_pos rfl]
      by_cases e : u = v
      · rw [if_pos e, ed, e]
      · rw [if_neg e]
        have := c u hu
        unfold Sa at this
        rw [if_neg e] at this
        exact this
    refine hm_188 (a1 := a1) (a3 := 0) ih (j := j) (o := o) (S1 := S1) ⟨p0, p1, p2, p3, p4.cong _ (fun i _ => ⟨oc _ (by decide) i, oc _ (by decide) i, oc _ (by decide) i⟩) (fun i _ => ⟨oc _ (by decide) i, oc _ (by decide) i⟩), p5.cong (fun i _ _ => ⟨oc _ (by decide) i, oc _ (by decide) i, oc _ (by decide) i⟩), Or.inl ⟨by decide, t⟩, p7⟩ t
  · rcases p6 with ⟨a, c⟩ | ⟨a, v, v1, v2, c⟩
    · exact hm_188 ih h' c
    · exact absurd (ti_eq.mpr (a.trans e11.symm)) ha
theorem hm_148 {μ0 : Mem} {b : Nat} {S0 : Nat → Nat} {K0 : Mem → Option (Int32 × Mem)} (ih : ∀ μ, Wh μ0 μ b S0 → pk (K0 μ) (Qm μ0 b S0)) {μ : Mem} {j o : Nat} {S1 : Nat → Nat} {a1 a3 : Int32} (h : Hc μ0 μ b S0 j o S1 a1 a3) (k0 : Int32) : pk (p_X12_hasMore_b148 K0 a1 a3 k0 μ) (Qm μ0 b S0) := by
  rw [p_X12_hasMore_b148_eq]
  refine pk_ite (fun _ => hm_167 ih h) (fun _ => pk_bd (q_takes _ _) ?_)
  rintro r μ1 (⟨e, _⟩ | e)
  · obtain ⟨rfl, rfl⟩ := Prod.mk.inj e
    exact pk_ite (fun h => absurd h (by decide)) (fun _ => hm_167 ih ((Fs.s4 _).hc h))
  · obtain ⟨rfl, rfl⟩ := Prod.mk.inj e
    exact pk_ite (fun _ => pk_some (Or.inr ⟨rfl, Or.inl (by rw [sF_v]; rfl)⟩)) (fun h => absurd rfl h)
theorem hm_98 {μ0 : Mem} {b : Nat} {S0 : Nat → Nat} {K0 : Mem → Option (Int32 × Mem)} (ih : ∀ μ, Wh μ0 μ b S0 → pk (K0 μ) (Qm μ0 b S0)) {μ : Mem} {j o n pos : Nat} {S1 S : Nat → Nat} {a1 a2 a3 : Int32} (h1 : a1.toInt = (o : Int)) (h2 : a2.toInt = (n : Int) + 1) (h3 : a3.toInt = iv μ 16 o)
    (hj : nv μ 32 = j + 1) (h32 : 0 ≤ (μ.1 0 32).toInt) (h28 : 0 ≤ (μ.1 0 28).toInt) (ho : iv μ 19 j = (o : Int)) (hn : iv μ 20 j = (n : Int) + 1) (hop : o < pos) (hc : Cy (iv μ 16) (iv μ 17) (iv μ 18) (iv μ 19) (iv μ 20) b S0 j o S1)
    (hd : (iv μ 16 o = 12 ∧ iv μ 18 o = (n : Int) + 1 ∧ n ≤ 4 ∧ Fo (iv μ 16) (iv μ 17) (iv μ 18) (Sg S1) n (o + 1) pos ∧ S = S1) ∨ (iv μ 16 o ≠ 12 ∧ Dx (iv μ 16) (iv μ 17) (iv μ 18) S1 o n pos S))
    (f : Fo (iv μ 16) (iv μ 17) (iv μ 18) (Sg S) 1 pos (nv μ 28)) (hkp : Kp μ0 μ b) (hj2 : j < 20) (hS0 : ∀ u, S0 u ≤ 1) (tv : ∀ u, u < 14 → iv μ 21 u = (S u : Int)) : pk (p_X12_hasMore_b98 K0 a1 a2 a3 μ) (Qm μ0 b S0) := by
  rw [p_X12_hasMore_b98_eq]
  have eo : a1.toNatClampNeg = o := tn_of h1
  rw [eo]
  have hpN := f.le
  have close : Hc μ0 μ b S0 j o S1 a1 a3 → pk (if a3 = 5 then p_X12_hasMore_b132 K0 a1 a3 μ else (if a3 = 7 then p_X12_hasMore_b132 K0 a1 a3 μ else (if a3 = 12 then p_X12_hasMore_b132 K0 a1 a3 μ else (if a3 = 2 then p_X12_hasMore_b148 K0 a1 a3 93 μ else p_X12_hasMore_b148 K0 a1 a3 (-1) μ)))) (Qm μ0 b S0) := by
    intro h
    have h132 : pk (p_X12_hasMore_b132 K0 a1 a3 μ) (Qm μ0 b S0) := by rw [p_X12_hasMore_b132_eq]; exact hm_148 ih h _
    exact pk_ite (fun _ => h132) (fun _ => pk_ite (fun _ => h132) (fun _ => pk_ite (fun _ => h132) (fun _ => pk_ite (fun _ => hm_148 ih h _) (fun _ => hm_148 ih h _))))
  refine pk_gd fun hi => pk_ite (fun hle => close ?_) (fun hle => pk_bd (P := Qm μ0 b S0) ?_ (fun r μ1 h => pk_gd fun _ => pk_some h))
  · rw [ti_le] at hle
    have hle2 : iv μ 18 o ≤ (n : Int) + 1 := by rw [← h2]; exact hle
    rcases hd with ⟨d1, d2, d3, d4, rfl⟩ | ⟨d0, ⟨v, d1, d2, d3, d4, d5⟩ | ⟨d1, _⟩ | ⟨k, d1, d2, d3, d4, rfl⟩⟩
    · exact ⟨h1, hj, h32, h28, hc, Fo.op (k := n + 1) (Or.inr (Or.inr (Or.inr (Or.inr (Or.inr (Or.inr ⟨d1, by omega⟩)))))) (by omega) (d4.app f) Fo.nil, Or.inl ⟨by omega, tv⟩, hkp⟩
    · rcases d5 with ⟨rfl, _, _⟩ | ⟨rfl, d6, rfl⟩
      · omega
      · refine ⟨h1, hj, h32, h28, hc, Fo.lt d1 d3 d4 d2 d6 (f.mono _ ?_) Fo.nil, Or.inr ⟨by omega, v, d3, d4, tv⟩, hkp⟩
        intro u hu
        unfold Sg Sa at hu
        by_cases e : u = v
        · exact Or.inr e
        · rw [if_neg e] at hu; exact Or.inl hu
    · exact absurd d1 d0
    · have ek : k = n + 1 := by omega
      subst ek
      rcases d1 with ⟨d5, d6⟩ | ⟨d5, d6⟩
      · have en : n = 2 := by omega
        subst en
        exact ⟨h1, hj, h32, h28, hc, Fo.cho d5 d2 (d4.app f) Fo.nil, Or.inl ⟨by omega, tv⟩, hkp⟩
      · refine ⟨h1, hj, h32, h28, hc, Fo.op d5 d2 (d4.app f) Fo.nil, Or.inl ⟨?_, tv⟩, hkp⟩
        unfold Kd at d5
        omega
  · rw [ti_le] at hle
    have hle2 : ¬ iv μ 18 o ≤ (n : Int) + 1 := by rw [← h2]; exact hle
    have e5 : (5 : Int32).toInt = 5 := by decide
    have e11 : (11 : Int32).toInt = 11 := by decide
    have nat28 := ti_nat (a := μ.1 0 28) h28
    -- what stays, where a thing is to come
    have go : ∀ (μ2 : Mem) (S2 : Nat → Nat), (∀ c, c ≠ 0 → c ≠ 17 → c ≠ 21 → ∀ i, iv μ2 c i = iv μ c i) → (∀ i, i ≠ o → iv μ2 17 i = iv μ 17 i) → μ2.1 0 32 = μ.1 0 32 → μ2.1 0 28 = μ.1 0 28 → (∀ u, u < 14 → iv μ2 21 u = (S2 u : Int)) → Dx (iv μ2 16) (iv μ2 17) (iv μ2 18) S1 o (n + 1) (nv μ 28) S2 → Ex μ0 μ2 b S0 := by
      intro μ2 S2 c1 c2 c3 c4 c5 c6
      have en : nv μ2 28 = nv μ 28 := by unfold nv; rw [c4]
      have en2 : nv μ2 32 = j + 1 := by unfold nv; rw [c3]; exact hj
      have hbo := Cy.ble _ hc
      refine ⟨S2, ?_, c5, by rw [c3]; exact h32, by rw [c4]; exact h28, fun i hi => by rw [c1 16 (by decide) (by decide) (by decide), c2 i (by omega), c1 18 (by decide) (by decide) (by decide)]; exact hkp i hi⟩
      rw [en, en2]
      refine ⟨S1, o, n + 1, by rw [c1 19 (by decide) (by decide) (by decide)]; exact ho, by rw [c1 20 (by decide) (by decide) (by decide)]; omega, by omega, ?_, c6⟩
      exact hc.cong _ (fun i hi => ⟨c1 16 (by decide) (by decide) (by decide) i, c2 i (by omega), c1 18 (by decide) (by decide) (by decide) i⟩) (fun i _ => ⟨c1 19 (by decide) (by decide) (by decide) i, c1 20 (by decide) (by decide) (by decide) i⟩)
    rw [p_X12_goesOn_eq]
    rcases hd with ⟨d1, d2, d3, d4, rfl⟩ | ⟨d0, ⟨v, d1, d2, d3, d4, d5⟩ | ⟨d1, _⟩ | ⟨k, d1, d2, d3, d4, rfl⟩⟩
    · omega
    · -- LET
      rcases d5 with ⟨rfl, d6, rfl⟩ | ⟨rfl, _, _⟩
      rotate_left
      · omega
      have ea : ¬ a3 = 5 := fun e => by rw [e] at h3; omega
      have eb : a3 = 11 := ti_eq.mpr (by omega)
      rw [if_neg ea, if_pos eb, eo]
      refine pk_gd fun _ => pk_bv (pk_gd fun hv => pk_gd fun _ => pk_bv ?_)
      have ev : (μ.1 17 o).toNatClampNeg = v := tn_of d3
      rw [ev]
      have hs := tv v d4
      have e1 : (1 : Int32).toInt = 1 := by decide
      have hfo : Fo (iv μ 16) (iv μ 17) (iv μ 18) (Sg S) 1 (o + 1) (nv μ 28) := by rw [← d6]; exact f
      refine pk_bd (q_takes _ _) ?_
      rintro r μ1 (⟨e, _⟩ | e)
      · obtain ⟨rfl, rfl⟩ := Prod.mk.inj e
        refine pk_gd fun _ => pk_some (Or.inl ⟨rfl, (Fs.s4 _).ex (go _ (Sa S v) (fun c c0 _ c21 i => by unfold iv; rw [sF_i c21]) (fun i _ => rfl) rfl rfl ?_ ?_)⟩)
        · intro u hu
          unfold iv Sa
          rw [sF_1, if_pos rfl]
          by_cases e : u = v
          · rw [if_pos e, if_pos e]
            have hb1 := Cy.bnd hS0 _ hc v
            have hs2 : (μ.1 21 v).toInt = (S v : Int) := hs
            rw [ti_add (by omega) (by omega), e1, e]; omega
          · rw [if_neg e, if_neg e]; exact tv u hu
        · exact Or.inl ⟨v, d1, d2, d3, d4, Or.inr ⟨rfl, hfo, rfl⟩⟩
      · obtain ⟨rfl, rfl⟩ := Prod.mk.inj e
        exact pk_gd fun _ => pk_some (Or.inr ⟨rfl, Or.inl (by rw [sF_v]; rfl)⟩)
    · exact absurd d1 d0
    · have hfo := d4.app f
      have e11n : ¬ a3 = 11 := by
        intro e
        rw [e] at h3
        unfold Kq Kd at d1
        omega
      refine pk_ite (fun e5a => pk_bd (q_here _) ?_) (fun e5a => ?_)
      · rintro r μ1 e
        obtain ⟨rfl, rfl⟩ := Prod.mk.inj e
        refine pk_ite (fun _ => pk_bd (q_fails _ _) ?_) (fun _ => pk_bd (q_here _) ?_)
        · rintro r2 μ2 e2
          obtain ⟨rfl, rfl⟩ := Prod.mk.inj e2
          exact pk_gd fun _ => pk_some (Or.inr ⟨rfl, Or.inl (by rw [sF_v]; rfl)⟩)
        · rintro r2 μ2 e2
          obtain ⟨rfl, rfl⟩ := Prod.mk.inj e2
          rw [eo]
          have h5 : iv μ2 16 o = 5 := by rw [← h3, e5a]; decide
          refine pk_gd fun _ => pk_bv (pk_bv (pk_some (Or.inl ⟨rfl, (Fs.s4 _).ex (go _ S (fun c c0 c17 _ i => by unfold iv; rw [sF_i c17]) (fun i hi => by unfold iv; rw [sF_k hi]) rfl rfl tv ?_)⟩)))
          have oc : ∀ (w : Int32) (c : Nat), c ≠ 17 → ∀ i, iv (sF μ2 17 o w) c i = iv μ2 c i := fun w c hc i => by unfold iv; rw [sF_i hc]
          refine Or.inr (Or.inr ⟨2, Or.inr ⟨Or.inl ⟨by rw [oc _ _ (by decide)]; exact h5, rfl⟩, by rw [oc _ _ (by decide), h5]; decide⟩, ?_, ?_, ?_, rfl⟩)
          · rw [oc _ _ (by decide), d2]
            unfold Kq Kd at d1
            omega
          · unfold Kq Kd at d1
            omega
          · refine hfo.cong (fun i hi _ => ⟨oc _ _ (by decide) i, ?_, oc _ _ (by decide) i⟩)
            unfold iv
            rw [sF_k (by omega)]
      · rw [if_neg e11n]
        refine pk_bd (q_takes _ _) ?_
        rintro r μ1 (⟨e, _⟩ | e)
        · obtain ⟨rfl, rfl⟩ := Prod.mk.inj e
          exact pk_gd fun _ => pk_some (Or.inl ⟨rfl, (Fs.s4 _).ex (go _ S (fun _ _ _ _ _ => rfl) (fun _ _ => rfl) rfl rfl tv (Or.inr (Or.inr ⟨k, d1, d2, by omega, hfo, rfl⟩)))⟩)
        · obtain ⟨rfl, rfl⟩ := Prod.mk.inj e
          exact pk_gd fun _ => pk_some (Or.inr ⟨rfl, Or.inl (by rw [sF_v]; rfl)⟩)
theorem hm_85 {μ0 : Mem} {b : Nat} {S0 : Nat → Nat} {K0 : Mem → Option (Int32 × Mem)} (ih : ∀ μ, Wh μ0 μ b S0 → pk (K0 μ) (Qm μ0 b S0)) {μ : Mem} {j o n pos : Nat} {S1 S : Nat → Nat} {a1 a2 a3 : Int32} (h1 : a1.toInt = (o : Int)) (h2 : a2.toInt = (n : Int) + 1) (h3 : a3.toInt = iv μ 16 o)
    (hj : nv μ 32 = j + 1) (h32 : 0 ≤ (μ.1 0 32).toInt) (h28 : 0 ≤ (μ.1 0 28).toInt) (ho : iv μ 19 j = (o : Int)) (hn : iv μ 20 j = (n : Int) + 1) (hop : o < pos) (hc : Cy (iv μ 16) (iv μ 17) (iv μ 18) (iv μ 19) (iv μ 20) b S0 j o S1)
    (hd : Dx (iv μ 16) (iv μ 17) (iv μ 18) S1 o n pos S)
    (f : Fo (iv μ 16) (iv μ 17) (iv μ 18) (Sg S) 1 pos (nv μ 28)) (hkp : Kp μ0 μ b) (hj2 : j < 20) (hS0 : ∀ u, S0 u ≤ 1) (tv : ∀ u, u < 14 → iv μ 21 u = (S u : Int)) : pk (p_X12_hasMore_b85 K0 a1 a2 a3 μ) (Qm μ0 b S0) := by
  rw [p_X12_hasMore_b85_eq]
  have eo : a1.toNatClampNeg = o := tn_of h1
  have e12 : (12 : Int32).toInt = 12 := by decide
  rw [eo]
  refine pk_ite (fun e => pk_gd fun _ => pk_bv ?_) (fun e => ?_)
  · have t12 : iv μ 16 o = 12 := by rw [← h3, e]; exact e12
    have hd2 : n ≤ 4 ∧ Fo (iv μ 16) (iv μ 17) (iv μ 18) (Sg S1) n (o + 1) pos ∧ S = S1 := by
      rcases hd with ⟨v, d1, _⟩ | ⟨_, d2, d3, d4⟩ | ⟨k, d1, d2, d3, d4, d5⟩
      · omega
      · exact ⟨d2, d3, d4⟩
      · unfold Kq Kd at d1; omega
    have oc : ∀ (c : Nat), c ≠ 18 → ∀ i, iv (sF μ 18 o a2) c i = iv μ c i := fun c hc i => by unfold iv; rw [sF_i hc]
    have ok18 : ∀ i, i ≠ o → iv (sF μ 18 o a2) 18 i = iv μ 18 i := fun i hi => by unfold iv; rw [sF_k hi]
    refine hm_98 ih h1 h2 (by rw [oc _ (by decide)]; exact h3) hj h32 h28 (by rw [oc _ (by decide)]; exact ho) (by rw [oc _ (by decide)]; exact hn) hop ?_ (Or.inl ⟨by rw [oc _ (by decide)]; exact t12, ?_, hd2.1, ?_, hd2.2.2⟩) ?_ ?_ hj2 hS0 (fun u hu => by rw [oc _ (by decide)]; exact tv u hu)
    · exact hc.cong _ (fun i hi => ⟨oc _ (by decide) i, oc _ (by decide) i, ok18 i (by omega)⟩) (fun i _ => ⟨oc _ (by decide) i, oc _ (by decide) i⟩)
    · unfold iv; rw [sF_v]; exact h2
    · exact hd2.2.1.cong (fun i hi _ => ⟨oc _ (by decide) i, oc _ (by decide) i, ok18 i (by omega)⟩)
    · exact f.cong (fun i hi _ => ⟨oc _ (by decide) i, oc _ (by decide) i, ok18 i (by omega)⟩)
    · have hbo := Cy.ble _ hc
      exact fun i hi => by rw [oc _ (by decide), oc _ (by decide), ok18 i (by omega)]; exact hkp i hi
  · have t12 : iv μ 16 o ≠ 12 := by
      intro h
      exact e (ti_eq.mpr (by omega))
    exact hm_98 ih h1 h2 h3 hj h32 h28 ho hn hop hc (Or.inr ⟨t12, hd⟩) f hkp hj2 hS0 tv
theorem q_hasMore_b0 {μ0 : Mem} {b : Nat} {S0 : Nat → Nat} (hS0 : ∀ u, S0 u ≤ 1) : ∀ (m : Nat) (μ : Mem), Wh μ0 μ b S0 → pk (p_X12_hasMore_b0 m μ) (Qm μ0 b S0) := by
  intro m
  induction m with
  | zero => intro μ _ r e; rw [p_X12_hasMore_b0_z] at e; exact absurd e (by simp)
  | succ m ih =>
    intro μ h
    rw [p_X12_hasMore_b0_s]
    obtain ⟨pos, S, ⟨p1, p2, p3, p4, p5⟩, f⟩ := h
    have e0 : (0 : Int32).toInt = 0 := by decide
    have e1 : (1 : Int32).toInt = 1 := by decide
    have n32 := ti_nat (a := μ.1 0 32) p3
    cases hJ : nv μ 32 with
    | zero =>
      have hz : (μ.1 0 32).toInt = 0 := by
        have : (μ.1 0 32).toNatClampNeg = 0 := hJ
        omega
      rw [if_pos (ti_le.mpr (by omega))]
      rw [hJ] at p1
      obtain ⟨rfl, rfl⟩ := p1
      exact pk_some (Or.inr ⟨rfl, Or.inr ⟨p5, f⟩⟩)
    | succ j =>
      rw [hJ] at p1
      have hd := nv_dec hJ p3
      rw [if_neg (by rw [ti_le]; omega)]
      obtain ⟨S1, o, n, q1, q2, q3, q4, q5⟩ := p1
      rw [hd.1]
      have eo : (μ.1 19 j).toNatClampNeg = o := tn_of q1
      refine pk_gd fun hi20 => pk_bv (pk_bv (pk_gd fun _ => pk_gd fun _ => ?_))
      have hj20 := inb_iff.mp hi20
      have hj2 : j < 20 := by
        have : nv μ 32 = (μ.1 0 32).toNatClampNeg := rfl
        omega
      rw [hd.1]
      refine pk_bv (pk_gd fun _ => ?_)
      have hx : ((sF μ 20 j (μ.1 20 j + 1)).1 0 32 - 1).toNatClampNeg = j := hd.1
      rw [hx]
      have ez : (sF μ 20 j (μ.1 20 j + 1)).1 20 j = μ.1 20 j + 1 := by rw [sF_v]
      rw [ez]
      have hle := f.le
      have hlt : n < 1000000000 := by
        rcases q5 with ⟨v, _, _, _, _, d⟩ | ⟨_, d, _, _⟩ | ⟨k, d1, _, d3, _, _⟩
        · omega
        · omega
        · unfold Kq Kd at d1
          omega
      have e2 : (μ.1 20 j + 1).toInt = (n : Int) + 1 := by
        have hq : (μ.1 20 j).toInt = (n : Int) := q2
        rw [ti_add (by omega) (by omega), e1, hq]
      have oc : ∀ (c : Nat), c ≠ 20 → ∀ i, iv (sF μ 20 j (μ.1 20 j + 1)) c i = iv μ c i := fun c hc i => by unfold iv; rw [sF_i hc]
      have ok20 : ∀ i, i ≠ j → iv (sF μ 20 j (μ.1 20 j + 1)) 20 i = iv μ 20 i := fun i hi => by unfold iv; rw [sF_k hi]
      have c16 : ∀ i, iv (sF μ 20 j (μ.1 20 j + 1)) 16 i = iv μ 16 i ∧ iv (sF μ 20 j (μ.1 20 j + 1)) 17 i = iv μ 17 i ∧ iv (sF μ 20 j (μ.1 20 j + 1)) 18 i = iv μ 18 i := fun i => ⟨oc _ (by decide) i, oc _ (by decide) i, oc _ (by decide) i⟩
      have hcx : Cy (iv (sF μ 20 j (μ.1 20 j + 1)) 16) (iv (sF μ 20 j (μ.1 20 j + 1)) 17) (iv (sF μ 20 j (μ.1 20 j + 1)) 18) (iv (sF μ 20 j (μ.1 20 j + 1)) 19) (iv (sF μ 20 j (μ.1 20 j + 1)) 20) b S0 j o S1 := q4.cong _ (fun i _ => c16 i) (fun i hi => ⟨oc _ (by decide) i, ok20 i (by omega)⟩)
      have hdx := q5.cong q3 (fun i _ => c16 i)
      have hf := f.cong (fun i _ _ => c16 i)
      have htv : ∀ u, u < 14 → iv (sF μ 20 j (μ.1 20 j + 1)) 21 u = (S u : Int) := fun u hu => by rw [oc _ (by decide)]; exact p2 u hu
      have h85 : pk (p_X12_hasMore_b85 (p_X12_hasMore_b0 m) (μ.1 19 j) (μ.1 20 j + 1) ((sF μ 20 j (μ.1 20 j + 1)).1 16 (μ.1 19 j).toNatClampNeg) (sF μ 20 j (μ.1 20 j + 1))) (Qm μ0 b S0) := by
        refine hm_85 ih (j := j) (o := o) (n := n) (pos := pos) (S1 := S1) (S := S) q1 e2 (by rw [eo]; rfl) hJ p3 p4 (by rw [oc _ (by decide)]; exact q1) (by unfold iv; rw [sF_v]; exact e2) q3 hcx hdx hf p5 hj2 hS0 htv
      refine pk_bv (pk_gd fun _ => pk_bv (pk_ite (fun h12 => pk_bd (q_here _) ?_) (fun _ => h85)))
      rintro r μ1 e
      obtain ⟨rfl, rfl⟩ := Prod.mk.inj e
      refine pk_ite (fun _ => pk_ite (fun _ => h85) (fun h5 => pk_bv (pk_some (Or.inl ⟨rfl, (Fs.s4 _).ex ⟨S, ?_⟩⟩)))) (fun _ => h85)
      have t12 : iv μ 16 o = 12 := by
        have h := congrArg Int32.toInt h12
        rw [eo] at h
        exact h
      have e5 : (5 : Int32).toInt = 5 := by decide
      rw [ti_le] at h5
      have hd2 : n ≤ 4 ∧ Fo (iv μ 16) (iv μ 17) (iv μ 18) (Sg S1) n (o + 1) pos ∧ S = S1 := by
        rcases q5 with ⟨v, d1, _⟩ | ⟨_, d2, d3, d4⟩ | ⟨k, d1, d2, d3, d4, d5⟩
        · omega
        · exact ⟨d2, d3, d4⟩
        · unfold Kq Kd at d1; omega
      obtain ⟨d2, d3, rfl⟩ := hd2
      refine ⟨?_, htv, p3, p4, p5⟩
      have en : nv (sF μ 20 j (μ.1 20 j + 1)) 32 = j + 1 := hJ
      have en2 : nv (sF μ 20 j (μ.1 20 j + 1)) 28 = nv μ 28 := rfl
      rw [en, en2]
      exact ⟨S, o, n + 1, by rw [oc _ (by decide)]; exact q1, by unfold iv; rw [sF_v]; omega, by omega, hcx, Or.inr (Or.inl ⟨by rw [oc _ (by decide)]; exact t12, by omega, (d3.app f).cong (fun i _ _ => c16 i), rfl⟩)⟩
theorem q_hasMore {μ0 : Mem} {b : Nat} {S0 : Nat → Nat} (hS0 : ∀ u, S0 u ≤ 1) (μ : Mem) (h : Wh μ0 μ b S0) : pk (p_X12_hasMore μ) (Qm μ0 b S0) := by
  rw [p_X12_hasMore_eq]; exact q_hasMore_b0 hS0 _ μ h
