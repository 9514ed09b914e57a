theorem p29_sh {i : Nat} (h : sh 0 i = (0, 2)) : P29 i := by
  have h1 := sh_all (P := fun i => !decide (sh 0 i = (0, 2)) || (decide (i = 2) || decide (i = 9))) (by decide +kernel) (sh_lt h (by simp))
  have h2 : i = 2 ∨ i = 9 := by simpa [h] using h1
  exact h2
theorem q_clear3 {P : Nat} (hP : P29 P) (μ : Mem) : pk (p_X3_clear P μ) (fun q => q.2 = μ.2 ∧ (∀ i k, i ≠ P → i ≠ P + 3 → q.1 i k = μ.1 i k) ∧ q.1 P 0 = 0 ∧ q.1 P 2 = 0 ∧ ∀ k, k < 72 → q.1 (P + 3) k = -1) := by
  have e72 : (72 : Int32).toInt = 72 := by decide
  have e1 : (1 : Int32).toInt = 1 := by decide
  have e0 : (0 : Int32).toInt = 0 := by decide
  have loop : ∀ (fu j : Nat) (a1 : Int32) (q : Mem), a1.toInt = (j : Int) → j ≤ 72 → q.2 = μ.2 → (∀ i k, i ≠ P → i ≠ P + 3 → q.1 i k = μ.1 i k) → q.1 P 0 = 0 → q.1 P 2 = 0 → (∀ k, k < j → q.1 (P + 3) k = -1) → pk (p_X3_clear_b17 fu P a1 q) (fun q => q.2 = μ.2 ∧ (∀ i k, i ≠ P → i ≠ P + 3 → q.1 i k = μ.1 i k) ∧ q.1 P 0 = 0 ∧ q.1 P 2 = 0 ∧ ∀ k, k < 72 → q.1 (P + 3) k = -1) := by
    intro fu
    induction fu with
    | zero => intro j a1 q _ _ _ _ _ _ _ r e; rw [p_X3_clear_b17_z] at e; cases e
    | succ fu ih =>
      intro j a1 q h1 hj g1 g2 g3 g4 g5
      rw [p_X3_clear_b17_s]
      refine pk_ite (fun c => ?_) (fun c => ?_)
      · rw [ti_le, e72, h1] at c
        exact pk_some ⟨g1, g2, g3, g4, fun k hk => g5 k (by omega)⟩
      · rw [ti_le, e72, h1] at c
        refine pk_gd (fun _ => pk_bvy (fun μ5 e5 => pk_bv (ih (j + 1) _ μ5 (by rw [ti_add (by omega) (by omega), e1, h1]; omega) (by omega) (by rw [e5]; exact g1) (fun i k a b => by rw [e5, sF_i b]; exact g2 i k a b) (by rw [e5, sF_i (by omega)]; exact g3) (by rw [e5, sF_i (by omega)]; exact g4) (fun k hk => ?_))))
        rw [e5, sF_1, if_pos rfl, tn_of h1]
        by_cases ck : k = j
        · rw [if_pos ck]
        · rw [if_neg ck]; exact g5 k (by omega)
  rw [p_X3_clear_eq]
  refine pk_bvy (fun μ1 e1 => pk_bvy (fun μ2 e2 => pk_bvy (fun μ3 e3 => loop FUEL 0 0 μ3 e0 (by omega) (by rw [e3, e2, e1]; rfl) (fun i k a b => by rw [e3, sF_i a, e2, sF_i a, e1, sF_i a]) (by rw [e3, sF_k (by decide), e2, sF_k (by decide), e1, sF_v]) (by rw [e3, sF_v]) (fun k hk => by omega))))
theorem b14f {t : Nat → Int32} {n f : Nat} {μ : Mem} (h : Xf t n f μ) : ∀ (fu : Nat) (a : Int32), pk (p_X4_readProgram_b14 fu a μ) (fun q => q = μ) := by
  intro fu a
  cases fu with
  | zero => intro r e; rw [p_X4_readProgram_b14_z] at e; cases e
  | succ fu =>
    rw [p_X4_readProgram_b14_s]
    refine pk_ite (fun _ => pk_some rfl) (fun _ => pk_bd q_Xwell ?_)
    rintro r6 μ5 ⟨e, hw⟩
    have e : μ5 = μ := e
    subst e
    rw [if_pos (wl0 h hw)]; exact pk_some rfl
def Pa (t : Nat → Int32) (n P : Nat) (μ : Mem) (o : Rd Nat) (q : Mem) : Prop := q.2.2 = μ.2.2 ∧ (match o with | .inl f => Xf t n f q | .inr L => q.1 16 3 = -1 ∧ (q.1 P 0).toInt = (L : Int))
theorem q_b14 {t : Nat → Int32} {n P : Nat} (hP : P29 P) {μ0 : Mem} (hs : sel 2 (μ0.2.2 16 4) = P) : ∀ (fu f j p : Nat) (K : List Ky) (a : Int32) (μ : Mem), a.toInt = (j : Int) → j ≤ p → n < f + p → μ.2.2 = μ0.2.2 → Fz t n P (p, K) μ → pk (p_X4_readProgram_b14 fu a μ) (Pa t n P μ0 (rpg t n f (p, K))) := by
  have e800 : (800 : Int32).toInt = 800 := by decide
  have e1 : (1 : Int32).toInt = 1 := by decide
  intro fu
  induction fu with
  | zero => intro f j p K a μ _ _ _ _ _ r e; rw [p_X4_readProgram_b14_z] at e; cases e
  | succ fu ih =>
    intro f j p K a μ h1 hj hf g h
    have hw : Xw t n p μ := h.1
    have hn8 := hw.1.2.1
    have hpn : p ≤ n := hw.2.2.2
    rw [p_X4_readProgram_b14_s]
    refine pk_ite (fun c => ?_) (fun c => pk_bd q_Xwell ?_)
    · rw [ti_lt, e800, h1] at c; omega
    rintro r6 μ5 ⟨e, hwl⟩
    have e : μ5 = μ := e
    subst e
    rw [if_neg (wl1 hw hwl)]
    cases f with
    | zero => omega
    | succ f =>
      show pk _ (Pa t n P μ0 (if n ≤ p then .inr K.length else bnd (rf t n K p) (rpg t n f)))
      refine pk_ite (fun c2 => ?_) (fun c2 => ?_)
      · rw [ti_le, hw.1.1, hw.2.2.1] at c2
        rw [if_pos (by omega)]
        exact pk_some ⟨g, hw.2.1, h.2.2.1⟩
      · rw [ti_le, hw.1.1, hw.2.2.1] at c2
        rw [if_neg (show ¬ n ≤ p by omega)]
        have hm := rf_mono (t := t) (n := n) (K := K) (p := p)
        refine pk_bw (q_Xfun hP (by rw [g]; exact hs) h) (fun μ9 h9 => pk_bvy (fun v11 e11 => ?_))
        obtain ⟨g9, h9⟩ := h9
        generalize rf t n K p = o at h9 hm ⊢
        cases o with
        | inl x =>
          refine pk_mono (b14f h9 fu v11) (fun q e => ?_)
          have e : q = μ9 := e
          rw [e]; exact ⟨g9.trans g, h9⟩
        | inr v =>
          have hm : p + 1 ≤ v.1 := hm
          exact ih f (j + 1) v.1 v.2 v11 μ9 (by rw [e11, ti_add (by omega) (by omega), e1, h1]; omega) (by omega) (by omega) (g9.trans g) h9
theorem q_Xprog {t : Nat → Int32} {n P : Nat} {μ : Mem} (hP : P29 P) (hsP : sel 2 P = P) (hw : Xw t n 0 μ) : pk (p_X4_readProgram P μ) (fun q => (∀ k, q.2.2 0 k = μ.2.2 0 k) ∧ (match rpg t n 801 (0, []) with | .inl f => Xf t n f q | .inr L => q.1 16 3 = -1 ∧ (q.1 P 0).toInt = (L : Int))) := by
  have e0 : (0 : Int32).toInt = 0 := by decide
  rw [p_X4_readProgram_eq]
  refine pk_bvy (fun μ1 e1 => ?_)
  have r1 : μ1.2.2 16 4 = P := by rw [e1, sR_3, if_pos rfl, if_pos rfl]
  have r0 : ∀ k, μ1.2.2 0 k = μ.2.2 0 k := fun k => by rw [e1, sR_3, if_neg (by decide)]
  have m1 : μ1.1 = μ.1 := by rw [e1]; rfl
  rw [r1, hsP]
  have hP' := hP
  unfold P29 at hP'
  refine pk_bw (q_clear3 hP μ1) ?_
  rintro μ2 ⟨c1, c2, c3, c4, c5⟩
  have hn8 := hw.1.2.1
  have hF : Fz t n P (0, []) μ2 := by
    refine ⟨⟨⟨by rw [c2 16 1 (by omega) (by omega), m1]; exact hw.1.1, hw.1.2.1, fun j hj => by rw [c2 1 j (by omega) (by omega), m1]; exact hw.1.2.2 j hj⟩, by rw [c2 16 3 (by omega) (by omega), m1]; exact hw.2.1, by rw [c2 16 2 (by omega) (by omega), m1]; exact hw.2.2.1, Nat.zero_le _⟩, ⟨List.Pairwise.nil, fun x hx => (by cases hx)⟩, by rw [c3]; exact e0, by rw [c4, e0]; omega, fun i hi => (by cases hi), fun k hk => Or.inr ⟨?_, c5 k hk⟩⟩
    rintro ⟨x, hx, _⟩; cases hx
  have hs2 : sel 2 (μ2.2.2 16 4) = P := by rw [c1, r1]; exact hsP
  refine pk_mono (q_b14 hP hs2 FUEL 801 0 0 [] 0 μ2 e0 (by omega) (by omega) rfl hF) (fun q hq => ⟨fun k => by rw [hq.1, c1]; exact r0 k, hq.2⟩)
theorem q_prog11 {T : Nat} {μ : Mem} (hT : (μ.1 0 1).toInt = (T : Int)) (h8 : T ≤ 800) : pk (p_X11_program μ) (fun r => Ta (rpg (fun j => μ.1 1 j) T 801 (0, [])) r.1) := by
  rw [p_X11_program_eq]
  refine pk_bw (q_take11 hT h8) ?_
  rintro μ1 ⟨f1, w1⟩
  have hsh := sel_2 (μ1.2.2 0 5)
  have hsP : sel 2 (sel 2 (μ1.2.2 0 5)) = sel 2 (μ1.2.2 0 5) := sel_at hsh
  have hP := p29_sh hsh
  generalize hq : sel 2 (μ1.2.2 0 5) = P at hsP hP ⊢
  refine pk_bw (q_Xprog hP hsP w1) ?_
  rintro μ3 ⟨f3, o3⟩
  refine pk_bd (P := fun r => r.2 = μ3 ∧ r.1 = μ3.1 16 3) (by rw [p_X4_badPlace_eq]; exact pk_some ⟨rfl, rfl⟩) ?_
  rintro r6 μ5 ⟨e, hr6⟩
  have e : μ5 = μ3 := e
  subst e
  have hr6 : r6 = μ5.1 16 3 := hr6
  refine pk_bvy (fun μ7 m7 => ?_)
  have t2 : μ7.1 0 2 = μ5.1 16 3 := by rw [m7, sF_v, hr6]
  have f7 : μ7.2 = μ5.2 := by rw [m7]; rfl
  generalize rpg (fun j => μ.1 1 j) T 801 (0, []) = o at o3 ⊢
  cases o with
  | inl f =>
    have o3 : Xf _ T f μ5 := o3
    rw [if_neg (by rw [t2]; exact xf_bad o3)]
    exact pk_some rfl
  | inr L =>
    obtain ⟨o3, o4⟩ : μ5.1 16 3 = -1 ∧ (μ5.1 P 0).toInt = (L : Int) := o3
    rw [if_pos (by rw [t2]; exact o3)]
    have h5 : sel 2 (μ7.2.2 0 5) = P := by rw [f7, f3]; exact hq
    rw [h5]
    refine pk_bvy (fun μ9 m9 => pk_bvy (fun μ10 m10 => pk_bw (q_clear5 μ10) ?_))
    rintro μ11 ⟨k1, k2⟩
    have hP' := hP
    unfold P29 at hP'
    have h4 : μ11.2.2 0 4 = P := by rw [k1, m10, sR_3, if_pos rfl, if_neg (by decide), m9, sR_3, if_pos rfl, if_pos rfl]
    refine pk_some ?_
    show (μ11.1 (sel 2 (μ11.2.2 0 4)) 0).toInt = _
    rw [h4, hsP, k2 P 0 (by omega), m10, sR_1, m9, sR_1, m7, sF_i (by omega)]
    exact o4
