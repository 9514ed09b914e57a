def Pm5 (t : Nat → Int32) (n : Nat) (o : Rd (List Fn5 × List Th3)) (r : Int32 × Mem) : Prop := match o with | .inl f => r.1 = 0 ∧ Mf t n f r.2 | .inr v => r.1 = 1 ∧ ∃ p, p ≤ n ∧ Gz5 t n (p, v) r.2
theorem q_Mb145 {t : Nat → Int32} {n : Nat} : ∀ (fu f p : Nat) (v : List Fn5 × List Th3) (μ : Mem), n < f + p → Gz5 t n (p, v) μ → pk (p_X12_readProgram_b14 fu μ) (Pm5 t n (rpgP t n f (p, v))) := by
  intro fu
  induction fu with
  | zero => intro f p v μ _ _ r e; rw [p_X12_readProgram_b14_z] at e; cases e
  | succ fu ih =>
    intro f p v μ hf h
    have hw : MwT t n p μ := h.1
    have hpn : p ≤ n := hw.2.2.2
    rw [p_X12_readProgram_b14_s]
    cases f with
    | zero => omega
    | succ f =>
      show pk _ (Pm5 t n (if n ≤ p then .inr v else bnd (rfP t n v.1 v.2 p) (rpgP t n f)))
      refine pk_ite (fun c => ?_) (fun c => ?_)
      · rw [ti_le, hw.1.1, hw.2.2.1] at c
        rw [if_pos (show n ≤ p by omega)]
        exact pk_some ⟨rfl, p, hpn, h⟩
      · rw [ti_le, hw.1.1, hw.2.2.1] at c
        rw [if_neg (show ¬ n ≤ p by omega)]
        have hm := rfP_mono (t := t) (n := n) (G := v.1) (C := v.2) (p := p)
        refine pk_bd (q_Mfun5 (C := v.2) h) ?_
        intro r7 μ6 ho
        generalize rfP t n v.1 v.2 p = o at ho hm ⊢
        cases o with
        | inl x =>
          obtain ⟨o1, o2⟩ : r7 = 0 ∧ Mf t n x μ6 := ho
          rw [if_pos o1]
          exact pk_some ⟨rfl, o2⟩
        | inr w =>
          obtain ⟨o1, o2⟩ : r7 = 1 ∧ Gz5 t n w μ6 := ho
          have hm : p + 1 ≤ w.1 := hm
          rw [if_neg (by rw [o1]; decide)]
          exact ih f w.1 w.2 μ6 (by omega) o2
theorem q_Mprog5 {t : Nat → Int32} {n : Nat} {μ : Mem} (hs : Ms t n μ) : pk (p_X12_readProgram μ) (Pm5 t n (rpgP t n 801 (0, [], []))) := by
  have e0 : (0 : Int32).toInt = 0 := by decide
  have hn8 := hs.2.1
  rw [p_X12_readProgram_eq, p_X12_beginText_eq]
  refine pk_bw (P := fun q => q = sF (sF μ 0 4 0) 0 5 (-1)) (pk_bv (pk_bv (pk_some rfl))) ?_
  intro μ1 m1
  refine pk_bvy (fun μ3 m3 => pk_bvy (fun μ4 m4 => ?_))
  have g0 : ∀ k, k ≠ 4 → k ≠ 5 → k ≠ 27 → k ≠ 28 → μ4.1 0 k = μ.1 0 k := fun k a b c d => by rw [m4, sF_k d, m3, sF_k c, m1, sF_k b, sF_k a]
  have g : ∀ i k, i ≠ 0 → μ4.1 i k = μ.1 i k := fun i k hi => by rw [m4, sF_i hi, m3, sF_i hi, m1, sF_i hi, sF_i hi]
  refine q_Mb145 FUEL 801 0 ([], []) μ4 (by omega) ⟨⟨ms_of hs (g0 3 (by decide) (by decide) (by decide) (by decide)) (fun j => g 1 j (by decide)), ?_, ?_, Nat.zero_le _⟩, ?_, trivial, ⟨?_, by decide⟩, Nat.zero_le _⟩
  · rw [m4, sF_k (by decide), m3, sF_k (by decide), m1, sF_v]
  · rw [m4, sF_k (by decide), m3, sF_k (by decide), m1, sF_k (by decide), sF_v]; exact e0
  · rw [m4, sF_k (by decide), m3, sF_v]; exact e0
  · rw [m4, sF_v, e0]; rfl
theorem q_copyV {a0 a3 N : Nat} {a2 : Int32} (hne : a0 ≠ a3) (h2 : a2.toInt = (N : Int)) (μ : Mem) : pk (p_X12_copy a0 0 a2 a3 0 μ) (fun q => (∀ i k, i ≠ a3 → q.1 i k = μ.1 i k) ∧ ∀ k, k < N → q.1 a3 k = μ.1 a0 k) := by
  have e0 : (0 : Int32).toInt = 0 := by decide
  have e1 : (1 : Int32).toInt = 1 := by decide
  have hhi := ti_hi a2
  have loop : ∀ (fu j : Nat) (a5 : Int32) (q : Mem), a5.toInt = (j : Int) → j ≤ N → (∀ i k, i ≠ a3 → q.1 i k = μ.1 i k) → (∀ k, k < j → q.1 a3 k = μ.1 a0 k) → pk (p_X12_copy_b3 fu a0 0 a2 a3 0 a5 q) (fun q => (∀ i k, i ≠ a3 → q.1 i k = μ.1 i k) ∧ ∀ k, k < N → q.1 a3 k = μ.1 a0 k) := by
    intro fu
    induction fu with
    | zero => intro j a5 q _ _ _ _ r e; rw [p_X12_copy_b3_z] at e; cases e
    | succ fu ih =>
      intro j a5 q h5 hj g k0
      rw [p_X12_copy_b3_s, Int32.zero_add, tn_of h5]
      refine pk_ite (fun c => ?_) (fun c => pk_gd (fun _ => pk_gd (fun _ => pk_bvy (fun μ2 e2 => pk_bvy (fun v3 e3 => ?_)))))
      · rw [ti_le, h2, h5] at c
        exact pk_some ⟨g, fun k hk => k0 k (by omega)⟩
      · rw [ti_le, h2, h5] at c
        refine ih (j + 1) v3 μ2 (by rw [e3, ti_add (by omega) (by omega), h5, e1]; omega) (by omega) (fun i k hi => by rw [e2, sF_i hi]; exact g i k hi) (fun k hk => ?_)
        rw [e2]
        by_cases ck : k = j
        · rw [ck, sF_v]; exact g a0 j hne
        · rw [sF_k ck]; exact k0 k (by omega)
  rw [p_X12_copy_eq]
  exact loop FUEL 0 0 μ e0 (by omega) (fun _ _ _ => rfl) (fun k hk => by omega)
def shf (μ : Mem) : Mem := (fun i k => if 11 ≤ i ∧ i ≤ 18 then μ.1 (i - 9) k else μ.1 i k, μ.2)
def Pn5 (μ : Mem) (G : List Fn5) : Prop := (μ.1 0 17).toInt = (G.length : Int) ∧ (μ.1 0 18).toInt = (tot G : Int) ∧ Kr6 (shf μ) G
theorem shf_1 {μ : Mem} {i k : Nat} (h : 11 ≤ i ∧ i ≤ 18) : (shf μ).1 i k = μ.1 (i - 9) k := if_pos h
theorem Pn5.of {μ q : Mem} {G : List Fn5} (h : Pn5 μ G) (h0 : ∀ k, k = 17 ∨ k = 18 → q.1 0 k = μ.1 0 k) (ha : ∀ i k, 2 ≤ i → i ≤ 9 → q.1 i k = μ.1 i k) : Pn5 q G := by
  obtain ⟨h1, h2, h3⟩ := h
  have e : ∀ i k, 11 ≤ i → i ≤ 18 → (shf q).1 i k = (shf μ).1 i k := fun i k a b => by rw [shf_1 ⟨a, b⟩, shf_1 ⟨a, b⟩]; exact ha _ _ (by omega) (by omega)
  exact ⟨by rw [h0 17 (Or.inl rfl)]; exact h1, by rw [h0 18 (Or.inr rfl)]; exact h2, h3.cong (fun j _ => ⟨e 11 j (by decide) (by decide), e 12 j (by decide) (by decide), e 14 j (by decide) (by decide), e 15 j (by decide) (by decide)⟩) (fun k _ => e 13 k (by decide) (by decide)) (fun k _ => ⟨e 16 k (by decide) (by decide), e 17 k (by decide) (by decide), e 18 k (by decide) (by decide)⟩)⟩
theorem q_prog125 {t : Nat → Int32} {n : Nat} {μ : Mem} (hs : Ms t n μ) : pk (p_X12_program μ) (fun r => match rpgP t n 801 (0, [], []) with | .inl f => r.1 = -1 ∧ (r.2.1 0 5).toInt = (f : Int) | .inr v => r.1.toInt = (v.1.length : Int) ∧ r.2.1 0 5 = -1 ∧ Pn5 r.2 v.1) := by
  have e5 : (5 : Int32).toInt = 5 := by decide
  rw [p_X12_program_eq]
  refine pk_bd (q_Mprog5 hs) ?_
  intro r2 μ1 hO
  refine pk_bvy (fun μ3 m3 => ?_)
  generalize rpgP t n 801 (0, [], []) = o at hO ⊢
  cases o with
  | inl f =>
    obtain ⟨o1, o2⟩ : r2 = 0 ∧ Mf t n f μ1 := hO
    rw [if_pos o1]
    exact pk_some ⟨rfl, by show (μ3.1 0 5).toInt = _; rw [m3, sF_k (by decide)]; exact o2.2⟩
  | inr v =>
    obtain ⟨o1, p, hp, hw, z27, hK, ⟨z28, z80⟩, zl⟩ : r2 = 1 ∧ ∃ p, p ≤ n ∧ Gz5 t n (p, v) μ1 := hO
    have z27 : (μ1.1 0 27).toInt = (v.1.length : Int) := z27
    have z28 : (μ1.1 0 28).toInt = (tot v.1 : Int) := z28
    have zl : v.1.length ≤ p := zl
    have hn8 := hs.2.1
    rw [if_neg (by rw [o1]; decide)]
    refine pk_bvy (fun μ5 m5 => pk_bvy (fun μ6 m6 => pk_bvy (fun μ7 m7 => ?_)))
    have c17 : (μ7.1 0 17).toInt = (v.1.length : Int) := by rw [m7, sF_k (by decide), m6, sF_v, m5, sF_k (by decide), m3, sF_k (by decide)]; exact z27
    have c18 : (μ7.1 0 18).toInt = (tot v.1 : Int) := by rw [m7, sF_v, m6, sF_k (by decide), m5, sF_k (by decide), m3, sF_k (by decide)]; exact z28
    have c5 : μ7.1 0 5 = -1 := by rw [m7, sF_k (by decide), m6, sF_k (by decide), m5, sF_k (by decide), m3, sF_k (by decide)]; exact hw.2.1
    have ga : ∀ i k, i ≠ 0 → μ7.1 i k = μ1.1 i k := fun i k hi => by rw [m7, sF_i hi, m6, sF_i hi, m5, sF_i hi, m3, sF_i hi]
    have c13 : ∀ q : Mem, q.1 0 17 = μ7.1 0 17 → ((5 : Int32) * (q.1 0 17)).toInt = ((5 * v.1.length : Nat) : Int) := fun q e => by
      rw [e, Int32.mul_comm, ti_mulc e5 (by omega) (by omega), c17]; omega
    refine pk_bw (q_copyV (by decide) c17 _) (fun μ8 h8 => ?_)
    have k8 : ∀ k, μ8.1 0 k = μ7.1 0 k := fun k => h8.1 0 k (by decide)
    refine pk_bw (q_copyV (by decide) (by rw [k8]; exact c17) _) (fun μ10 h10 => ?_)
    have k10 : ∀ k, μ10.1 0 k = μ7.1 0 k := fun k => (h10.1 0 k (by decide)).trans (k8 k)
    refine pk_bw (q_copyV (by decide) (c13 μ10 (k10 17)) _) (fun μ12 h12 => ?_)
    have k12 : ∀ k, μ12.1 0 k = μ7.1 0 k := fun k => (h12.1 0 k (by decide)).trans (k10 k)
    refine pk_bw (q_copyV (by decide) (by rw [k12]; exact c17) _) (fun μ14 h14 => ?_)
    have k14 : ∀ k, μ14.1 0 k = μ7.1 0 k := fun k => (h14.1 0 k (by decide)).trans (k12 k)
    refine pk_bw (q_copyV (by decide) (by rw [k14]; exact c17) _) (fun μ16 h16 => ?_)
    have k16 : ∀ k, μ16.1 0 k = μ7.1 0 k := fun k => (h16.1 0 k (by decide)).trans (k14 k)
    refine pk_bw (q_copyV (by decide) (by rw [k16]; exact c18) _) (fun μ18 h18 => ?_)
    have k18 : ∀ k, μ18.1 0 k = μ7.1 0 k := fun k => (h18.1 0 k (by decide)).trans (k16 k)
    refine pk_bw (q_copyV (by decide) (by rw [k18]; exact c18) _) (fun μ20 h20 => ?_)
    have k20 : ∀ k, μ20.1 0 k = μ7.1 0 k := fun k => (h20.1 0 k (by decide)).trans (k18 k)
    refine pk_bw (q_copyV (by decide) (by rw [k20]; exact c18) _) (fun μ22 h22 => ?_)
    have k22 : ∀ k, μ22.1 0 k = μ7.1 0 k := fun k => (h22.1 0 k (by decide)).trans (k20 k)
    rw [p_X12_layBehind_eq]
    refine pk_bw (pk_bv (q_behf _ _ _)) (fun μ24 h24 => pk_some ?_)
    have k24 : ∀ k, μ24.1 0 k = μ7.1 0 k := fun k => (h24 0 k (by decide)).trans (k22 k)
    refine ⟨by show (μ24.1 0 17).toInt = _; rw [k24]; exact c17, by show μ24.1 0 5 = -1; rw [k24]; exact c5, by show (μ24.1 0 17).toInt = _; rw [k24]; exact c17, by show (μ24.1 0 18).toInt = _; rw [k24]; exact c18, ?_⟩
    have d2 : ∀ k, k < v.1.length → μ24.1 2 k = μ1.1 11 k := fun k hk => by
      rw [h24 2 k (by decide), h22.1 2 k (by decide), h20.1 2 k (by decide), h18.1 2 k (by decide), h16.1 2 k (by decide), h14.1 2 k (by decide), h12.1 2 k (by decide), h10.1 2 k (by decide), h8.2 k hk, ga 11 k (by decide)]
    have d3 : ∀ k, k < v.1.length → μ24.1 3 k = μ1.1 12 k := fun k hk => by
      rw [h24 3 k (by decide), h22.1 3 k (by decide), h20.1 3 k (by decide), h18.1 3 k (by decide), h16.1 3 k (by decide), h14.1 3 k (by decide), h12.1 3 k (by decide), h10.2 k hk, h8.1 12 k (by decide), ga 12 k (by decide)]
    have d4 : ∀ k, k < 5 * v.1.length → μ24.1 4 k = μ1.1 13 k := fun k hk => by
      rw [h24 4 k (by decide), h22.1 4 k (by decide), h20.1 4 k (by decide), h18.1 4 k (by decide), h16.1 4 k (by decide), h14.1 4 k (by decide), h12.2 k hk, h10.1 13 k (by decide), h8.1 13 k (by decide), ga 13 k (by decide)]
    have d5 : ∀ k, k < v.1.length → μ24.1 5 k = μ1.1 14 k := fun k hk => by
      rw [h24 5 k (by decide), h22.1 5 k (by decide), h20.1 5 k (by decide), h18.1 5 k (by decide), h16.1 5 k (by decide), h14.2 k hk, h12.1 14 k (by decide), h10.1 14 k (by decide), h8.1 14 k (by decide), ga 14 k (by decide)]
    have d6 : ∀ k, k < v.1.length → μ24.1 6 k = μ1.1 15 k := fun k hk => by
      rw [h24 6 k (by decide), h22.1 6 k (by decide), h20.1 6 k (by decide), h18.1 6 k (by decide), h16.2 k hk, h14.1 15 k (by decide), h12.1 15 k (by decide), h10.1 15 k (by decide), h8.1 15 k (by decide), ga 15 k (by decide)]
    have d7 : ∀ k, k < tot v.1 → μ24.1 7 k = μ1.1 16 k := fun k hk => by
      rw [h24 7 k (by decide), h22.1 7 k (by decide), h20.1 7 k (by decide), h18.2 k hk, h16.1 16 k (by decide), h14.1 16 k (by decide), h12.1 16 k (by decide), h10.1 16 k (by decide), h8.1 16 k (by decide), ga 16 k (by decide)]
    have d8 : ∀ k, k < tot v.1 → μ24.1 8 k = μ1.1 17 k := fun k hk => by
      rw [h24 8 k (by decide), h22.1 8 k (by decide), h20.2 k hk, h18.1 17 k (by decide), h16.1 17 k (by decide), h14.1 17 k (by decide), h12.1 17 k (by decide), h10.1 17 k (by decide), h8.1 17 k (by decide), ga 17 k (by decide)]
    have d9 : ∀ k, k < tot v.1 → μ24.1 9 k = μ1.1 18 k := fun k hk => by
      rw [h24 9 k (by decide), h22.2 k hk, h20.1 18 k (by decide), h18.1 18 k (by decide), h16.1 18 k (by decide), h14.1 18 k (by decide), h12.1 18 k (by decide), h10.1 18 k (by decide), h8.1 18 k (by decide), ga 18 k (by decide)]
    have hK : Kr6 μ1 v.1 := hK
    exact hK.cong (fun j hj => ⟨d2 j hj, d3 j hj, d5 j hj, d6 j hj⟩) (fun k hk => d4 k hk) (fun k hk => ⟨d7 k hk, d8 k hk, d9 k hk⟩)
