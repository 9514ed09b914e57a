def Pm4 (o : Rd Nat) (r : Int32 × Mem) : Prop := match o with | .inl _ => r.1 = 0 | .inr L => r.1 = 1 ∧ (r.2.1 0 27).toInt = (L : Int)
theorem q_Mb14 {t : Nat → Int32} {n : Nat} : ∀ (fu f p : Nat) (K : List Ky) (μ : Mem), n < f + p → Gz4 t n (p, K) μ → pk (p_X12_readProgram_b14 fu μ) (Pm4 (rpg t n f (p, K))) := by
  intro fu
  induction fu with
  | zero => intro f p K μ _ _ r e; rw [p_X12_readProgram_b14_z] at e; cases e
  | succ fu ih =>
    intro f p K μ hf h
    have hw : MwT t n p μ := h.1
    have hpn : p ≤ n := hw.2.2.2
    rw [p_X12_readProgram_b14_s]
    cases f with
    | zero => omega
    | succ f =>
      show pk _ (Pm4 (if n ≤ p then .inr K.length else bnd (rf t n K p) (rpg t n f)))
      refine pk_ite (fun c => ?_) (fun c => ?_)
      · rw [ti_le, hw.1.1, hw.2.2.1] at c
        rw [if_pos (show n ≤ p by omega)]
        exact pk_some ⟨rfl, h.2.1⟩
      · rw [ti_le, hw.1.1, hw.2.2.1] at c
        rw [if_neg (show ¬ n ≤ p by omega)]
        have hm := rf_mono (t := t) (n := n) (K := K) (p := p)
        refine pk_bd (q_Mfun h) ?_
        intro r7 μ6 ho
        generalize rf t n K p = o at ho hm ⊢
        cases o with
        | inl x =>
          obtain ⟨o1, _⟩ : r7 = 0 ∧ Mf t n x μ6 := ho
          rw [if_pos o1]
          exact pk_some rfl
        | inr v =>
          obtain ⟨o1, o2⟩ : r7 = 1 ∧ Gz4 t n v μ6 := ho
          have hm : p + 1 ≤ v.1 := hm
          rw [if_neg (by rw [o1]; decide)]
          exact ih f v.1 v.2 μ6 (by omega) o2
theorem q_Mprog {t : Nat → Int32} {n : Nat} {μ : Mem} (hs : Ms t n μ) : pk (p_X12_readProgram μ) (Pm4 (rpg t n 801 (0, []))) := by
  have e0 : (0 : Int32).toInt = 0 := by decide
  have hn8 := hs.2.1
  rw [p_X12_readProgram_eq, p_X12_beginText_eq]
  refine pk_bw (P := fun q => q = sF (sF μ 0 4 0) 0 5 (-1)) (pk_bv (pk_bv (pk_some rfl))) ?_
  intro μ1 m1
  refine pk_bvy (fun μ3 m3 => pk_bvy (fun μ4 m4 => ?_))
  have g0 : ∀ k, k ≠ 4 → k ≠ 5 → k ≠ 27 → k ≠ 28 → μ4.1 0 k = μ.1 0 k := fun k a b c d => by rw [m4, sF_k d, m3, sF_k c, m1, sF_k b, sF_k a]
  have g : ∀ i k, i ≠ 0 → μ4.1 i k = μ.1 i k := fun i k hi => by rw [m4, sF_i hi, m3, sF_i hi, m1, sF_i hi, sF_i hi]
  refine q_Mb14 FUEL 801 0 [] μ4 (by omega) ⟨⟨ms_of hs (g0 3 (by decide) (by decide) (by decide) (by decide)) (fun j => g 1 j (by decide)), ?_, ?_, Nat.zero_le _⟩, ?_, trivial, ?_, Nat.zero_le _⟩
  · rw [m4, sF_k (by decide), m3, sF_k (by decide), m1, sF_v]
  · rw [m4, sF_k (by decide), m3, sF_k (by decide), m1, sF_k (by decide), sF_v]; exact e0
  · rw [m4, sF_k (by decide), m3, sF_v]; exact e0
  · rw [m4, sF_v, e0]; show (0 : Int) ≤ 0 ∧ (0 : Int) ≤ 80 * ((0 : Nat) : Int); omega
theorem q_behg {K7 : Int32 → Mem → Option Mem} (hK : ∀ a μ, pk (K7 a μ) (fun q => ∀ i k, i ≠ 10 → q.1 i k = μ.1 i k)) : ∀ (fu : Nat) (a1 a2 a3 : Int32) (μ : Mem), pk (p_X12_layBehind_b17 K7 fu a1 a2 a3 μ) (fun q => ∀ i k, i ≠ 10 → q.1 i k = μ.1 i k) := by
  intro fu
  induction fu with
  | zero => intro a1 a2 a3 μ r e; rw [p_X12_layBehind_b17_z] at e; cases e
  | succ fu ih =>
    intro a1 a2 a3 μ
    rw [p_X12_layBehind_b17_s]
    refine pk_gd (fun _ => pk_ite (fun _ => pk_gd (fun _ => pk_bvy (fun μ5 e5 => pk_bv (pk_mono (hK _ μ5) (fun q hq i k hi => ?_))))) (fun _ => pk_gd (fun _ => pk_bv (pk_bv (ih _ _ _ μ)))))
    rw [hq i k hi, e5, sF_i hi]
theorem q_behf : ∀ (fu : Nat) (a1 : Int32) (μ : Mem), pk (p_X12_layBehind_b7 fu a1 μ) (fun q => ∀ i k, i ≠ 10 → q.1 i k = μ.1 i k) := by
  intro fu
  induction fu with
  | zero => intro a1 μ r e; rw [p_X12_layBehind_b7_z] at e; cases e
  | succ fu ih =>
    intro a1 μ
    rw [p_X12_layBehind_b7_s]
    exact pk_ite (fun _ => pk_some (fun _ _ _ => rfl)) (fun _ => pk_bv (q_behg ih _ _ _ _ μ))
theorem q_prog12 {t : Nat → Int32} {n : Nat} {μ : Mem} (hs : Ms t n μ) : pk (p_X12_program μ) (fun r => Ta (rpg t n 801 (0, [])) r.1) := by
  rw [p_X12_program_eq]
  refine pk_bd (q_Mprog hs) ?_
  intro r2 μ1 hO
  refine pk_bvy (fun μ3 m3 => ?_)
  generalize rpg t n 801 (0, []) = o at hO ⊢
  cases o with
  | inl f =>
    have hO : r2 = 0 := hO
    rw [if_pos hO]
    exact pk_some rfl
  | inr L =>
    obtain ⟨o1, o2⟩ : r2 = 1 ∧ (μ1.1 0 27).toInt = (L : Int) := hO
    rw [if_neg (by rw [o1]; decide)]
    refine pk_bvy (fun μ5 m5 => pk_bvy (fun μ6 m6 => pk_bvy (fun μ7 m7 => ?_)))
    have h7 : (μ7.1 0 17).toInt = (L : Int) := by rw [m7, sF_k (by decide), m6, sF_v, m5, sF_k (by decide), m3, sF_k (by decide)]; exact o2
    refine pk_bw (q_copy _ _ _ _ _ _) (fun μ8 h8 => pk_bw (q_copy _ _ _ _ _ _) (fun μ10 h10 => pk_bw (q_copy _ _ _ _ _ _) (fun μ12 h12 => pk_bw (q_copy _ _ _ _ _ _) (fun μ14 h14 => pk_bw (q_copy _ _ _ _ _ _) (fun μ16 h16 => pk_bw (q_copy _ _ _ _ _ _) (fun μ18 h18 => pk_bw (q_copy _ _ _ _ _ _) (fun μ20 h20 => pk_bw (q_copy _ _ _ _ _ _) (fun μ22 h22 => ?_))))))))
    rw [p_X12_layBehind_eq]
    refine pk_bw (pk_bv (q_behf _ _ _)) (fun μ24 h24 => pk_some ?_)
    show (μ24.1 0 17).toInt = (L : Int)
    rw [h24 0 17 (by decide), h22 0 17 (by decide), h20 0 17 (by decide), h18 0 17 (by decide), h16 0 17 (by decide), h14 0 17 (by decide), h12 0 17 (by decide), h10 0 17 (by decide), h8 0 17 (by decide)]
    exact h7
theorem rcq_program (μx μm : Mem) (h : Rc μx μm) : ok (p_X11_program μx) (fun q => ok (p_X12_program μm) (fun z => Rc q.2 z.2 ∧ q.1 = z.1)) := by
  obtain ⟨T, t1, t2, t3⟩ := h.T
  have hs : Ms (fun j => μx.1 1 j) T μm := ⟨t2, t3, fun j _ => (h.2.1 j).symm⟩
  refine ok_imp ?_ (ok_pk (rc_program μx μm h) (q_prog11 t1 t3))
  rintro q ⟨q1, q2⟩
  refine ok_imp ?_ (ok_pk q1 (q_prog12 hs))
  rintro z ⟨z1, z2⟩
  refine ⟨z1, ?_⟩
  cases ho : rpg (fun j => μx.1 1 j) T 801 (0, []) with
  | inl f => rw [ho] at q2 z2; exact Eq.trans q2 (Eq.symm z2)
  | inr s => rw [ho] at q2 z2; exact ti_eq.mpr (Eq.trans q2 (Eq.symm z2))
