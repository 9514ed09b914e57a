/-! THE VARS OF A FUNCTION -/
def Vr (μ μ1 : Mem) (n : Nat) : Prop := μ1.1 0 27 = μ.1 0 27 ∧ (∀ k, k ≠ nv μ 27 → iv μ1 12 k = iv μ 12 k) ∧ (∀ i, i < 5 * nv μ 27 → iv μ1 13 i = iv μ 13 i) ∧ (∀ i, i < n → 0 ≤ iv μ1 13 (5 * nv μ 27 + i) ∧ iv μ1 13 (5 * nv μ 27 + i) < 14) ∧ (∀ u, u < 14 → iv μ1 21 u = 0 ∨ (iv μ1 21 u = 1 ∧ Va (iv μ1 13) (nv μ 27) n u))
theorem Fs.vr {μ μ1 μ2 : Mem} {n : Nat} (h : Fs μ1 μ2) (v : Vr μ μ1 n) : Vr μ μ2 n := by
  obtain ⟨v1, v2, v3, v4, v5⟩ := v
  have e : iv μ2 13 = iv μ1 13 := funext (fun i => h.ivq (by decide) i)
  refine ⟨by rw [h.f (by decide) (by decide) (by decide) (by decide)]; exact v1, fun k hk => by rw [h.ivq (by decide)]; exact v2 k hk, by rw [e]; exact v3, by rw [e]; exact v4, fun u hu => ?_⟩
  rw [e, h.ivq (by decide)]; exact v5 u hu
def Qv (μ : Mem) (r : Int32 × Mem) : Prop := r.1 = 0 ∨ ∃ n : Nat, n ≤ 5 ∧ iv r.2 12 (nv μ 27) = (n : Int) ∧ Vr μ r.2 n
theorem q_readVars_b46 (μ : Mem) (hI : IM μ) : ∀ (m : Nat) (a1 a2 : Int32) (μ1 : Mem) (n : Nat), a1.toInt = (n : Int) → n ≤ 5 → (a2 ≠ 0 → n ≤ 4) → Vr μ μ1 n → pk (p_X12_readVars_b46 m a1 a2 μ1) (Qv μ) := by
  intro m
  have g := rgm_0_27 hI
  have n27 := ti_nat (a := μ.1 0 27) (by omega)
  have hN : nv μ 27 = (μ.1 0 27).toNatClampNeg := rfl
  induction m with
  | zero => intro a1 a2 μ1 n _ _ _ _ r e; rw [p_X12_readVars_b46_z] at e; exact absurd e (by simp)
  | succ m ih =>
    intro a1 a2 μ1 n h1 h2 h3 hv0
    rw [p_X12_readVars_b46_s]
    refine pk_ite (fun _ => pk_gd fun _ => pk_bv (pk_some (Or.inr ⟨n, h2, ?_, ?_⟩))) (fun ha => pk_bd (q_here _) ?_)
    · obtain ⟨v1, v2, v3, v4, v5⟩ := hv0
      rw [v1]
      show ((sF μ1 12 (nv μ 27) a1).1 12 (nv μ 27)).toInt = _
      rw [sF_v]; exact h1
    · obtain ⟨v1, v2, v3, v4, v5⟩ := hv0
      rw [v1]
      refine ⟨v1, fun k hk => ?_, v3, v4, v5⟩
      show ((sF μ1 12 (nv μ 27) a1).1 12 k).toInt = _
      rw [sF_k hk]; exact v2 k hk
    · have h4 := h3 ha
      rintro r μ2 e
      obtain ⟨rfl, rfl⟩ := Prod.mk.inj e
      have hfail : ∀ a, pk (bd (p_X12_fails a μ2) (fun r12 μ11 => gd (isB r12) (some (r12, μ11)))) (Qv μ) := by
        intro a
        refine pk_bd (q_fails _ _) ?_
        rintro r2 μ3 e2
        obtain ⟨rfl, rfl⟩ := Prod.mk.inj e2
        exact pk_gd fun _ => pk_some (Or.inl rfl)
      refine pk_ite (fun _ => hfail _) (fun _ => pk_gd fun hi => pk_ite (fun hle => pk_bv (pk_gd fun _ => pk_gd fun _ => pk_bv (pk_gd fun hg => pk_bv (pk_bv (pk_bv (pk_bd (q_here _) ?_)))))) (fun _ => hfail _))
      rintro r3 μ3 e3
      obtain ⟨rfl, rfl⟩ := Prod.mk.inj e3
      have hvi := inb_iff.mp hi
      have hgi := inb_iff.mp hg
      obtain ⟨v1, v2, v3, v4, v5⟩ := hv0
      have e1 : (1 : Int32).toInt = 1 := by decide
      have e5 : (5 : Int32).toInt = 5 := by decide
      have e0 : (0 : Int32).toInt = 0 := by decide
      have hvn := ti_nat (a := hv μ2 - 109) hvi.1
      generalize hV : (hv μ2 - 109).toNatClampNeg = V at *
      have ev18 : (a1 + 1).toInt = (n : Int) + 1 := by rw [ti_add (by omega) (by omega), e1, h1]
      have hold := v5 V (by omega)
      rw [ti_le] at hle
      have hz : iv μ2 21 V = 0 := by
        have : iv μ2 21 V = (μ2.1 21 V).toInt := rfl
        omega
      have hix : ((5 : Int32) * (μ2.1 0 27) + a1).toNatClampNeg = 5 * nv μ 27 + n := by
        have hm : ((5 : Int32) * (μ2.1 0 27)).toInt = 5 * (nv μ 27 : Int) := by rw [ti_mul (by rw [e5, v1]; omega) (by rw [e5, v1]; omega), e5, v1]; omega
        have hs : ((5 : Int32) * (μ2.1 0 27) + a1).toInt = 5 * (nv μ 27 : Int) + n := by rw [ti_add (by omega) (by omega), hm, h1]
        exact tn_of (by rw [hs]; omega)
      have hix2 : ((5 : Int32) * ((sF μ2 21 V (μ2.1 21 V + 1)).1 0 27) + a1).toNatClampNeg = 5 * nv μ 27 + n := hix
      rw [hix2]
      have hw : ∀ (x : Int32), x.toInt = (V : Int) → Vr μ (sF (sF μ2 21 V (μ2.1 21 V + 1)) 13 (5 * nv μ 27 + n) x) (n + 1) := by
        intro x hx
        have e13 : ∀ i, iv (sF (sF μ2 21 V (μ2.1 21 V + 1)) 13 (5 * nv μ 27 + n) x) 13 i = if i = 5 * nv μ 27 + n then (V : Int) else iv μ2 13 i := by
          intro i
          unfold iv
          rw [sF_1, if_pos rfl]
          split
          · exact hx
          · rfl
        refine ⟨v1, v2, fun i hi => by rw [e13, if_neg (by omega)]; exact v3 i hi, fun i hi => ?_, fun u hu => ?_⟩
        · rw [e13]
          by_cases ei : i = n
          · rw [if_pos (by omega)]; omega
          · rw [if_neg (by omega)]; exact v4 i (by omega)
        · have e21 : iv (sF (sF μ2 21 V (μ2.1 21 V + 1)) 13 (5 * nv μ 27 + n) x) 21 u = if u = V then 1 else iv μ2 21 u := by
            unfold iv
            rw [sF_i (by decide), sF_1, if_pos rfl]
            split
            · have : (μ2.1 21 V).toInt = 0 := hz
              rw [ti_add (by omega) (by omega), e1, this]; rfl
            · rfl
          rw [e21]
          by_cases eu : u = V
          · rw [if_pos eu]
            exact Or.inr ⟨rfl, n, by omega, by rw [e13, if_pos rfl, eu]⟩
          · rw [if_neg eu]
            rcases v5 u hu with h | ⟨h, i, hi, hi2⟩
            · exact Or.inl h
            · exact Or.inr ⟨h, i, by omega, by rw [e13, if_neg (by omega)]; exact hi2⟩
      have hw1 := hw (hv μ2 - 109) (by omega)
      have f144 : ∀ μ9, Vr μ μ9 (n + 1) → pk (p_X12_readVars_b144 (p_X12_readVars_b46 m) (a1 + 1) μ9) (Qv μ) := by
        intro μ9 h9
        rw [p_X12_readVars_b144_eq, p_X12_readVars_b145_eq]
        refine pk_ite (fun _ => ?_) (fun h => absurd rfl h)
        rw [p_X12_readVars_b160_eq]
        exact ih _ _ _ (n + 1) ev18 (by omega) (fun h => absurd rfl h) h9
      refine pk_ite (fun _ => pk_ite (fun _ => f144 _ ((Fs.s4 _).vr hw1)) (fun h5 => ?_)) (fun _ => f144 _ ((Fs.s4 _).vr hw1))
      rw [ti_le] at h5
      rw [p_X12_readVars_b145_eq]
      refine pk_ite (fun h => absurd h (by decide)) (fun _ => pk_bv ?_)
      rw [p_X12_readVars_b160_eq]
      exact ih _ _ _ (n + 1) ev18 (by omega) (fun _ => by omega) (((Fs.s4 _).tr (Fs.s4 _)).vr hw1)
theorem q_readVars_b4 (μ : Mem) (hI : IM μ) : ∀ (m : Nat) (a2 : Int32) (μ1 : Mem) (n : Nat), a2.toInt = (n : Int) → n ≤ 14 → μ1.1 0 27 = μ.1 0 27 → (∀ k, iv μ1 12 k = iv μ 12 k) → (∀ i, iv μ1 13 i = iv μ 13 i) → (∀ u, u < n → iv μ1 21 u = 0) → pk (p_X12_readVars_b4 m 0 a2 μ1) (Qv μ) := by
  intro m
  have e0 : (0 : Int32).toInt = 0 := by decide
  have e1 : (1 : Int32).toInt = 1 := by decide
  have e14 : (14 : Int32).toInt = 14 := by decide
  induction m with
  | zero => intro a2 μ1 n _ _ _ _ _ _ r e; rw [p_X12_readVars_b4_z] at e; exact absurd e (by simp)
  | succ m ih =>
    intro a2 μ1 n h1 h2 c1 c2 c3 c4
    rw [p_X12_readVars_b4_s]
    refine pk_ite (fun h14 => pk_gd fun _ => pk_bv (pk_bd (q_here _) ?_)) (fun h14 => pk_gd fun _ => pk_bv (pk_bv ?_))
    · rw [ti_le] at h14
      rintro r μ2 e
      obtain ⟨rfl, rfl⟩ := Prod.mk.inj e
      rw [c1]
      have hv0 : Vr μ (sF μ1 12 (nv μ 27) 0) 0 := by
        refine ⟨c1, fun k hk => ?_, fun i _ => c3 i, fun i hi => absurd hi (by omega), fun u hu => Or.inl (c4 u (by omega))⟩
        show ((sF μ1 12 (nv μ 27) 0).1 12 k).toInt = _
        rw [sF_k hk]; exact c2 k
      refine pk_ite (fun _ => pk_some (Or.inr ⟨0, by omega, ?_, hv0⟩)) (fun _ => q_readVars_b46 μ hI _ _ _ _ 0 e0 (by omega) (fun _ => by omega) hv0)
      show ((sF μ1 12 (nv μ 27) 0).1 12 (nv μ 27)).toInt = _
      rw [sF_v]; exact e0
    · rw [ti_le] at h14
      have ea : a2.toNatClampNeg = n := tn_of h1
      rw [ea]
      refine ih _ _ (n + 1) (by rw [ti_add (by omega) (by omega), e1, h1]; omega) (by omega) c1 c2 c3 (fun u hu => ?_)
      unfold iv
      rw [sF_1, if_pos rfl]
      split
      · exact e0
      · exact c4 u (by omega)
theorem q_readVars (μ : Mem) (hI : IM μ) : pk (p_X12_readVars μ) (Qv μ) := by
  rw [p_X12_readVars_eq]
  exact q_readVars_b4 μ hI _ _ _ 0 (by decide) (by omega) rfl (fun _ => rfl) (fun _ => rfl) (fun u hu => absurd hu (by omega))
