/-! THE TASK, VALUES -/
def TW (μ : Mem) : Prop := Sh (bp (iv μ 25)) (nv μ 43) 0 (nv μ 44) ∧ (∀ i, i < nv μ 44 → 0 ≤ iv μ 25 i ∧ iv μ 25 i ≤ 3) ∧ c3 (iv μ 25) (nv μ 44) = nv μ 45
def VW (μ : Mem) : Prop := Sh (bp (iv μ 27)) (nv μ 47) 0 (nv μ 46) ∧ (∀ i, i < nv μ 46 → 0 ≤ iv μ 27 i ∧ iv μ 27 i ≤ 2)
def Qt (r : Int32 × Mem) : Prop := r.1 = 0 ∨ (Ri r.2 ((1 : Int32) ≠ 0) ∧ Sh (bp (iv r.2 22)) (nv r.2 48) 0 (nv r.2 36))
theorem Fs.sh22 {μ μ' : Mem} (h : Fs μ μ') {n : Nat} (s : Sh (bp (iv μ 22)) n 0 (nv μ 36)) : Sh (bp (iv μ' 22)) n 0 (nv μ' 36) := by
  have e22 : iv μ' 22 = iv μ 22 := funext (fun i => h.ivq (by decide) i)
  rw [e22, h.nvq (by decide) (by decide) (by decide) (by decide)]; exact s
theorem q_readTask_b87 : ∀ (m : Nat) (a1 : Int32) (μ : Mem), IM μ → Ri μ ((1 : Int32) ≠ 0) → Sh (bp (iv μ 22)) (nv μ 48) 0 (nv μ 36) → (a1 ≠ 0 → (μ.1 0 48).toInt < 5) → pk (p_X12_readTask_b87 m a1 μ) Qt := by
  intro m
  have e1 : (1 : Int32).toInt = 1 := by decide
  have e5 : (5 : Int32).toInt = 5 := by decide
  induction m with
  | zero => intro a1 μ _ _ _ _ r e; rw [p_X12_readTask_b87_z] at e; exact absurd e (by simp)
  | succ m ih =>
    intro a1 μ hI hr hs h48
    rw [p_X12_readTask_b87_s]
    refine pk_ite (fun _ => pk_bd (q_takes _ _) ?_) (fun ha => pk_bd (pk_nd (q_readPart 1 _ μ hI hr hs) (pk_ok (k_X12_readPart 1 μ hI))) ?_)
    · rintro r21 μ20 (⟨e, _⟩ | e)
      · obtain ⟨rfl, rfl⟩ := pr_inj e
        refine pk_ite (fun h => absurd h (by decide)) (fun _ => pk_ite (fun _ => pk_some (Or.inr ⟨(Fs.s4 _).ri hr, (Fs.s4 _).sh22 hs⟩)) (fun _ => pk_bd (q_fails _ _) ?_))
        rintro r2 μ3 e2
        obtain ⟨rfl, rfl⟩ := pr_inj e2
        exact pk_ite (fun _ => pk_some (Or.inl rfl)) (fun h => absurd rfl h)
      · obtain ⟨rfl, rfl⟩ := pr_inj e
        exact pk_ite (fun _ => pk_some (Or.inl rfl)) (fun h => absurd rfl h)
    · have h48 := h48 ha
      have g48 := rgm_0_48 hI
      rintro r28 μ27 ⟨hp, hI27, hF27, _⟩
      have hI27 : IM μ27 := hI27
      have hp := hp
      refine pk_ite (fun _ => pk_some (Or.inl rfl)) (fun h28 => pk_bv (pk_bd (q_here _) ?_))
      obtain ⟨hr2, hs2⟩ := hp.resolve_left h28
      have e48 : μ27.1 0 48 = μ.1 0 48 := hF27.1 0 48 (by decide +kernel)
      have t48 : (μ27.1 0 48 + 1).toInt = (μ.1 0 48).toInt + 1 := by rw [e48, ti_add (by omega) (by omega), e1]
      have hI30 : IM (sF μ27 0 48 (μ27.1 0 48 + 1)) := IM_F hI27 (rpm_0_48 (by rw [t48]; omega))
      have hr3 : Ri (sF μ27 0 48 (μ27.1 0 48 + 1)) ((1 : Int32) ≠ 0) := hr2
      have en : nv (sF μ27 0 48 (μ27.1 0 48 + 1)) 48 = nv μ 48 + 1 := by
        have n48 := ti_nat (a := μ.1 0 48) (by omega)
        unfold nv
        rw [sF_v]
        exact tn_of (by rw [t48]; omega)
      have hs3 : Sh (bp (iv (sF μ27 0 48 (μ27.1 0 48 + 1)) 22)) (nv (sF μ27 0 48 (μ27.1 0 48 + 1)) 48) 0 (nv (sF μ27 0 48 (μ27.1 0 48 + 1)) 36) := by rw [en]; exact hs2
      rintro r32 μ31 e
      obtain ⟨rfl, rfl⟩ := pr_inj e
      have h132 : pk (p_X12_readTask_b132 (p_X12_readTask_b87 m) (sF μ27 0 48 (μ27.1 0 48 + 1))) Qt := by
        rw [p_X12_readTask_b132_eq, p_X12_readTask_b133_eq]
        exact pk_ite (fun _ => ih _ _ hI30 hr3 hs3 (fun h => absurd rfl h)) (fun h => absurd rfl h)
      refine pk_ite (fun h44 => pk_ite (fun _ => h132) (fun h5 => ?_)) (fun _ => h132)
      rw [ti_le] at h5
      rw [p_X12_readTask_b133_eq]
      have hlt := hv_lt hI30 (by rw [h44]; decide)
      refine pk_ite (fun h => absurd h (by decide)) (fun _ => pk_bv (ih _ _ (im_at hI30 hlt.2) ((Fs.s4 _).ri hr3) ?_ (fun _ => ?_)))
      · have : nv (sF (sF μ27 0 48 (μ27.1 0 48 + 1)) 0 4 ((sF μ27 0 48 (μ27.1 0 48 + 1)).1 0 4 + 1)) 48 = nv (sF μ27 0 48 (μ27.1 0 48 + 1)) 48 := rfl
        rw [this]
        exact (Fs.s4 _).sh22 hs3
      · show ((sF μ27 0 48 (μ27.1 0 48 + 1)).1 0 48).toInt < 5
        omega
theorem ri_0 {μ : Mem} {st : Prop} (h36 : μ.1 0 36 = 0) (h37 : μ.1 0 37 = 0) : Ri μ st := by
  have e0 : (0 : Int32).toInt = 0 := by decide
  have n : nv μ 36 = 0 := by unfold nv; rw [h36]; decide
  refine ⟨by rw [h36, e0]; omega, fun i hi => ?_, ?_⟩
  · rw [n] at hi; omega
  · rw [h37, n, e0]; rfl
theorem q_beginText (μ : Mem) : pk (p_X12_beginText μ) (fun q => q = sF (sF μ 0 4 0) 0 5 (-1)) := by rw [p_X12_beginText_eq]; exact pk_bv (pk_bv (pk_some rfl))
theorem q_readTask (μ : Mem) (hI : IM μ) : pk (p_X12_readTask μ) Qt := by
  rw [p_X12_readTask_eq]
  have e0 : (0 : Int32).toInt = 0 := by decide
  refine pk_bw (pk_nd (q_beginText μ) (pk_ok (k_X12_beginText μ hI))) ?_
  rintro μ1 ⟨_, hI1, _⟩
  refine pk_bv (pk_bv (pk_bv (pk_bd (q_here _) ?_)))
  rintro r μ6 e
  obtain ⟨er, rfl⟩ := pr_inj e
  generalize hm : sF (sF (sF μ1 0 36 0) 0 37 0) 0 48 0 = μ5 at *
  have hI5 : IM μ5 := by
    rw [← hm]
    exact IM_F (IM_F (IM_F hI1 (rpm_0_36 (by rw [e0]; omega))) (rpm_0_37 (by rw [e0]; omega))) (rpm_0_48 (by rw [e0]; omega))
  have h36 : μ5.1 0 36 = 0 := by rw [← hm]; rfl
  have h37 : μ5.1 0 37 = 0 := by rw [← hm]; rfl
  have h48 : μ5.1 0 48 = 0 := by rw [← hm]; rfl
  refine pk_ite (fun _ => pk_bd (q_fails _ _) ?_) (fun hl => pk_bd (q_here _) ?_)
  · rintro r2 μ3 e2
    obtain ⟨rfl, rfl⟩ := pr_inj e2
    exact pk_gd fun _ => pk_some (Or.inl rfl)
  rintro r10 μ9 e9
  obtain ⟨er9, rfl⟩ := pr_inj e9
  have hfl := tf_isFunctionLetter r
  have hl0 := i32_0 hl
  have hlt := hv_lt hI5 (by rw [er]; omega)
  have hI11 : IM (sF μ5 0 49 (r10 - 97 + 1)) := IM_F hI5 (rtm_0_49 _)
  have hI12 : IM (sF (sF μ5 0 49 (r10 - 97 + 1)) 0 4 ((sF μ5 0 49 (r10 - 97 + 1)).1 0 4 + 1)) := im_at hI11 hlt.2
  refine pk_bv (pk_bv (pk_bd (pk_nd (q_takes _ _) (pk_ok (k_X12_takes 40 _ hI12 (Or.inl (by decide))))) ?_))
  rintro r14 μ13 ⟨hq, hI13, hF13, _⟩
  have hI13 : IM μ13 := hI13
  have fld : ∀ k, k ≠ 4 → k ≠ 5 → k ≠ 49 → μ13.1 0 k = μ5.1 0 k := by
    intro k h4 h5 h49
    have h1 := hF13.1 0 k (by simp [hit, h4, h5])
    have h1 : μ13.1 0 k = _ := h1
    rw [h1, sF_k h4, sF_k h49]
  refine pk_ite (fun _ => pk_some (Or.inl rfl)) (fun _ => pk_bd (q_here _) ?_)
  rintro r17 μ16 e16
  obtain ⟨_, rfl⟩ := pr_inj e16
  have n48 : nv μ13 48 = 0 := by unfold nv; rw [fld 48 (by decide) (by decide) (by decide), h48]; decide
  have n36 : nv μ13 36 = 0 := by unfold nv; rw [fld 36 (by decide) (by decide) (by decide), h36]; decide
  have h86 : ∀ k0, pk (p_X12_readTask_b86 k0 μ13) Qt := by
    intro k0
    rw [p_X12_readTask_b86_eq]
    refine q_readTask_b87 _ _ _ hI13 (ri_0 (by rw [fld 36 (by decide) (by decide) (by decide)]; exact h36) (by rw [fld 37 (by decide) (by decide) (by decide)]; exact h37)) ?_ (fun _ => ?_)
    · rw [n48, n36]; exact Sh.nil
    · rw [fld 48 (by decide) (by decide) (by decide), h48]; decide
  exact pk_ite (fun _ => h86 _) (fun _ => h86 _)
def Qu (L : Nat) (r : Int32 × Mem) : Prop := r.1 = 0 ∨ (Ri r.2 ((0 : Int32) ≠ 0) ∧ Sh (bp (iv r.2 22)) L 0 (nv r.2 36) ∧ nv r.2 45 = L)
theorem q_readValues_b16 : ∀ (m : Nat) (a1 : Int32) (k : Nat) (μ : Mem), IM μ → a1.toInt = (k : Int) → k ≤ nv μ 45 → Ri μ ((0 : Int32) ≠ 0) → Sh (bp (iv μ 22)) k 0 (nv μ 36) → pk (p_X12_readValues_b16 m a1 μ) (Qu (nv μ 45)) := by
  intro m
  have e0 : (0 : Int32).toInt = 0 := by decide
  have e1 : (1 : Int32).toInt = 1 := by decide
  induction m with
  | zero => intro a1 k μ _ _ _ _ _ r e; rw [p_X12_readValues_b16_z] at e; exact absurd e (by simp)
  | succ m ih =>
    intro a1 k μ hI h1 hk hr hs
    rw [p_X12_readValues_b16_s]
    have g45 := rgm_0_45 hI
    have n45 := ti_nat (a := μ.1 0 45) (by omega)
    have hn : nv μ 45 = (μ.1 0 45).toNatClampNeg := rfl
    have h37 : ∀ μ1, IM μ1 → Fs μ μ1 → k < nv μ 45 → pk (p_X12_readValues_b37 (p_X12_readValues_b16 m) a1 μ1) (Qu (nv μ 45)) := by
      intro μ1 hI1 hF1 hk2
      rw [p_X12_readValues_b37_eq]
      refine pk_bd (pk_nd (q_readPart 0 k μ1 hI1 (hF1.ri hr) (hF1.sh22 hs)) (pk_ok (k_X12_readPart 0 μ1 hI1))) ?_
      rintro r12 μ11 ⟨hp, hI11, hF11, _⟩
      refine pk_ite (fun _ => pk_some (Or.inl rfl)) (fun hr12 => ?_)
      obtain ⟨hr2, hs2⟩ := hp.resolve_left hr12
      have e45 : nv μ11 45 = nv μ 45 := by
        have h2 := hF11.1 0 45 (by decide +kernel)
        have h2 : μ11.1 0 45 = μ1.1 0 45 := h2
        unfold nv
        rw [h2, hF1.f (by decide) (by decide) (by decide) (by decide)]
      have := ih (a1 + 1) (k + 1) μ11 hI11 (by rw [ti_add (by omega) (by omega), e1, h1]; omega) (by omega) hr2 hs2
      rw [e45] at this
      exact pk_bv this
    refine pk_ite (fun hle => pk_ite (fun _ => pk_some (Or.inr ⟨hr, ?_, rfl⟩)) (fun _ => pk_bd (q_fails _ _) ?_)) (fun hle => pk_ite (fun _ => ?_) (fun _ => ?_))
    · rw [ti_le] at hle
      have : k = nv μ 45 := by omega
      rw [← this]; exact hs
    · rintro r2 μ3 e2
      obtain ⟨rfl, rfl⟩ := pr_inj e2
      exact pk_ite (fun _ => pk_some (Or.inl rfl)) (fun h => absurd rfl h)
    · rw [ti_le] at hle
      exact h37 μ hI Fs.rf (by omega)
    · rw [ti_le] at hle
      refine pk_bd (pk_nd (q_takes _ _) (pk_ok (k_X12_takes 44 μ hI (Or.inl (by decide))))) ?_
      rintro r16 μ15 ⟨hq, hI15, hF15, _⟩
      refine pk_ite (fun _ => pk_some (Or.inl rfl)) (fun _ => h37 μ15 hI15 (Fr.mono hF15 (by decide +kernel) (fun h => h)) (by omega))
theorem q_readValues (μ : Mem) (hI : IM μ) : pk (p_X12_readValues μ) (Qu (nv μ 45)) := by
  rw [p_X12_readValues_eq]
  have e0 : (0 : Int32).toInt = 0 := by decide
  refine pk_bw (pk_nd (q_beginText μ) (pk_ok (k_X12_beginText μ hI))) ?_
  rintro μ1 ⟨em1, hI1, hF1⟩
  have hI4 : IM (sF (sF μ1 0 36 0) 0 37 0) := IM_F (IM_F hI1 (rpm_0_36 (by rw [e0]; omega))) (rpm_0_37 (by rw [e0]; omega))
  have n36 : nv (sF (sF μ1 0 36 0) 0 37 0) 36 = 0 := by
    have : (sF (sF μ1 0 36 0) 0 37 0).1 0 36 = 0 := rfl
    unfold nv; rw [this]; decide
  have n45 : nv (sF (sF μ1 0 36 0) 0 37 0) 45 = nv μ 45 := by rw [em1]; rfl
  have h := q_readValues_b16 FUEL 0 0 _ hI4 e0 (by omega) (ri_0 rfl rfl) (by rw [n36]; exact Sh.nil)
  rw [n45] at h
  exact pk_bv (pk_bv h)
def frT0 : List (Nat × Nat × Nat) := [(0, 0, 36), (0, 0, 37), (0, 0, 4), (0, 0, 48), (0, 0, 49), (0, 0, 5), (0, 0, 6), (0, 0, 7), (1, 22, 0), (1, 23, 0), (1, 24, 0), (0, 0, 3)]
def frT : List (Nat × Nat × Nat) := frT0 ++ [(0, 0, 42), (0, 0, 43), (0, 0, 44), (0, 0, 45), (0, 0, 46), (0, 0, 47), (0, 0, 95), (1, 25, 0), (1, 26, 0)]
def frV : List (Nat × Nat × Nat) := frT0 ++ [(0, 0, 46), (0, 0, 47), (1, 27, 0), (1, 28, 0)]
theorem k_task (μ : Mem) (hI : IM μ) : ok (p_X12_task μ) (fun r => IM r.2 ∧ (r.2.1 0 3).toInt = 0 ∧ (Fr frT0 true μ r.2 ∨ (Fr frT true μ r.2 ∧ r.2.1 0 95 = 0 ∧ TW r.2 ∧ VW r.2))) := by
  rw [p_X12_task_eq]
  have e0 : (0 : Int32).toInt = 0 := by decide
  refine ok_bd (ok_pk (k_X12_readTask μ hI) (q_readTask μ hI)) ?_
  rintro r2 μ1 ⟨⟨hI1, hF1, _⟩, hq⟩
  have hI1 : IM μ1 := hI1
  have hF1 : Fr [(0, 0, 36), (0, 0, 37), (0, 0, 4), (0, 0, 48), (0, 0, 49), (0, 0, 5), (0, 0, 6), (0, 0, 7), (1, 22, 0), (1, 23, 0), (1, 24, 0)] true μ μ1 := hF1
  refine ok_bv (fun μ3 em3 => ?_)
  have hI3 : IM μ3 := by rw [em3]; exact IM_F hI1 (rpm_0_3 (by rw [e0]; omega))
  refine ok_ite (fun _ => ok_some ⟨hI3, by show (μ3.1 0 3).toInt = 0; rw [em3, sF_v]; exact e0, Or.inl ?_⟩) (fun hr => ?_)
  · show Fr frT0 true μ μ3
    rw [em3]
    exact Fr.put (Fr.mono hF1 (by decide +kernel) (fun h => h)) (by decide +kernel)
  obtain ⟨hri, hs⟩ := hq.resolve_left hr
  have hri : Ri μ1 ((1 : Int32) ≠ 0) := hri
  have hs : Sh (bp (iv μ1 22)) (nv μ1 48) 0 (nv μ1 36) := hs
  refine ok_bv (fun μ5 em5 => ok_bv (fun μ6 em6 => ok_bv (fun μ7 em7 => ok_bv (fun μ8 em8 => ?_))))
  have hI5 : IM μ5 := by rw [em5]; exact IM_F hI3 (rtm_0_95 _)
  have hI6 : IM μ6 := by rw [em6]; exact IM_F hI5 (rtm_0_42 _)
  have hI7 : IM μ7 := by rw [em7]; exact IM_F hI6 (rpm_0_43 (rgm_0_48 hI6))
  have hI8 : IM μ8 := by rw [em8]; exact IM_F hI7 (rpm_0_44 (rgm_0_36 hI7))
  have fld : ∀ k, k ≠ 3 → k ≠ 95 → k ≠ 42 → k ≠ 43 → k ≠ 44 → μ8.1 0 k = μ1.1 0 k := by
    intro k h3 h95 h42 h43 h44
    rw [em8, sF_k h44, em7, sF_k h43, em6, sF_k h42, em5, sF_k h95, em3, sF_k h3]
  have a8 : ∀ c, c ≠ 0 → ∀ i, iv μ8 c i = iv μ1 c i := by
    intro c hc i
    unfold iv
    rw [em8, sF_i hc, em7, sF_i hc, em6, sF_i hc, em5, sF_i hc, em3, sF_i hc]
  have v43 : μ8.1 0 43 = μ1.1 0 48 := by
    rw [em8, sF_k (by decide), em7, sF_v, em6, sF_k (by decide), em5, sF_k (by decide), em3, sF_k (by decide)]
  have v44 : μ8.1 0 44 = μ1.1 0 36 := by
    rw [em8, sF_v, em7, sF_k (by decide), em6, sF_k (by decide), em5, sF_k (by decide), em3, sF_k (by decide)]
  have v95 : μ8.1 0 95 = 0 := by
    rw [em8, sF_k (by decide), em7, sF_k (by decide), em6, sF_k (by decide), em5, sF_v]
  have v3 : μ8.1 0 3 = 0 := by
    rw [em8, sF_k (by decide), em7, sF_k (by decide), em6, sF_k (by decide), em5, sF_k (by decide), em3, sF_v]
  have F8 : Fr frT true μ μ8 := by
    rw [em8]; refine Fr.put ?_ (by decide +kernel)
    rw [em7]; refine Fr.put ?_ (by decide +kernel)
    rw [em6]; refine Fr.put ?_ (by decide +kernel)
    rw [em5]; refine Fr.put ?_ (by decide +kernel)
    rw [em3]; refine Fr.put ?_ (by decide +kernel)
    exact Fr.mono hF1 (by decide +kernel) (fun h => h)
  have g36 := rgm_0_36 hI1
  have n36 := ti_nat (a := μ1.1 0 36) (by omega)
  have hn36 : nv μ1 36 = (μ1.1 0 36).toNatClampNeg := rfl
  rw [fld 36 (by decide) (by decide) (by decide) (by decide) (by decide)]
  refine ok_bw (t_copy hI8 22 25 (μ1.1 0 36) 30 30 shm_22 shm_25 (by omega) (by omega) (by decide)) ?_
  rintro μ9 ⟨hI9, F9, c9⟩
  have f9 : ∀ k, μ9.1 0 k = μ8.1 0 k := fun k => F9.1 0 k (by simp [hit])
  rw [f9, fld 36 (by decide) (by decide) (by decide) (by decide) (by decide)]
  refine ok_bw (t_copy hI9 23 26 (μ1.1 0 36) 30 30 shm_23 shm_26 (by omega) (by omega) (by decide)) ?_
  rintro μ11 ⟨hI11, F11, c11⟩
  have f11 : ∀ k, μ11.1 0 k = μ8.1 0 k := fun k => (F11.1 0 k (by simp [hit])).trans (f9 k)
  refine ok_bv (fun μ13 em13 => ok_bv (fun μ14 em14 => ok_bv (fun μ15 em15 => ?_)))
  have g37 := rgm_0_37 hI11
  have hI13 : IM μ13 := by rw [em13]; exact IM_F hI11 (rpm_0_45 g37)
  have hI14 : IM μ14 := by rw [em14]; exact IM_F hI13 (rpm_0_47 (by rw [e0]; omega))
  have hI15 : IM μ15 := by rw [em15]; exact IM_F hI14 (rpm_0_46 (by rw [e0]; omega))
  have w : ∀ k, k ≠ 45 → k ≠ 46 → k ≠ 47 → μ15.1 0 k = μ8.1 0 k := by
    intro k h45 h46 h47
    rw [em15, sF_k h46, em14, sF_k h47, em13, sF_k h45]; exact f11 k
  have w45 : μ15.1 0 45 = μ1.1 0 37 := by
    rw [em15, sF_k (by decide), em14, sF_k (by decide), em13, sF_v, f11]; exact fld 37 (by decide) (by decide) (by decide) (by decide) (by decide)
  have w47 : μ15.1 0 47 = 0 := by rw [em15, sF_k (by decide), em14, sF_v]
  have w46 : μ15.1 0 46 = 0 := by rw [em15, sF_v]
  have a15 : ∀ c, c ≠ 0 → ∀ i, iv μ15 c i = iv μ11 c i := by
    intro c hc i
    unfold iv
    rw [em15, sF_i hc, em14, sF_i hc, em13, sF_i hc]
  have z25 : ∀ i, i < nv μ1 36 → iv μ15 25 i = iv μ1 22 i := by
    intro i hi
    rw [a15 _ (by decide)]
    have h1 : iv μ11 25 i = iv μ9 25 i := congrArg Int32.toInt (F11.1 25 i (by simp [hit]))
    rw [h1, c9 i (by omega), a8 _ (by decide)]
  have F15 : Fr frT true μ μ15 := by
    rw [em15]; refine Fr.put ?_ (by decide +kernel)
    rw [em14]; refine Fr.put ?_ (by decide +kernel)
    rw [em13]; refine Fr.put ?_ (by decide +kernel)
    exact (F8.trans (Fr.mono F9 (by decide +kernel) (fun h => h))).trans (Fr.mono F11 (by decide +kernel) (fun h => h))
  have n43 : nv μ15 43 = nv μ1 48 := by unfold nv; rw [w 43 (by decide) (by decide) (by decide), v43]
  have n44 : nv μ15 44 = nv μ1 36 := by unfold nv; rw [w 44 (by decide) (by decide) (by decide), v44]
  have n46 : nv μ15 46 = 0 := by unfold nv; rw [w46]; decide
  have n47 : nv μ15 47 = 0 := by unfold nv; rw [w47]; decide
  refine ok_some ⟨hI15, by show (μ15.1 0 3).toInt = 0; rw [w 3 (by decide) (by decide) (by decide), v3]; exact e0, Or.inr ⟨F15, by show μ15.1 0 95 = 0; rw [w 95 (by decide) (by decide) (by decide), v95], ?_, ?_⟩⟩
  · show TW μ15
    unfold TW
    rw [n43, n44]
    refine ⟨hs.cong (fun i _ hi => by unfold bp; rw [z25 i hi]), fun i hi => by rw [z25 i hi]; exact ⟨(hri.2.1 i hi).1, (hri.2.1 i hi).2.1⟩, ?_⟩
    rw [c3_cong _ (fun i hi => z25 i hi)]
    have h37 := hri.2.2
    have : nv μ15 45 = (μ1.1 0 37).toNatClampNeg := by unfold nv; rw [w45]
    rw [this]
    exact (tn_of h37).symm
  · show VW μ15
    unfold VW
    rw [n46, n47]
    exact ⟨Sh.nil, fun i hi => absurd hi (by omega)⟩
theorem k_values (μ : Mem) (hI : IM μ) : ok (p_X12_values μ) (fun r => IM r.2 ∧ (r.2.1 0 3).toInt = 0 ∧ Fr frV true μ r.2 ∧ (Fr frT0 true μ r.2 ∨ VW r.2)) := by
  rw [p_X12_values_eq]
  have e0 : (0 : Int32).toInt = 0 := by decide
  refine ok_bd (ok_pk (k_X12_readValues μ hI) (q_readValues μ hI)) ?_
  rintro r2 μ1 ⟨⟨hI1, hF1, _⟩, hq⟩
  have hI1 : IM μ1 := hI1
  have hF1 : Fr [(0, 0, 36), (0, 0, 37), (0, 0, 4), (0, 0, 5), (0, 0, 6), (0, 0, 7), (1, 22, 0), (1, 23, 0), (1, 24, 0)] true μ μ1 := hF1
  refine ok_bv (fun μ3 em3 => ?_)
  have hI3 : IM μ3 := by rw [em3]; exact IM_F hI1 (rpm_0_3 (by rw [e0]; omega))
  have F3 : Fr frT0 true μ μ3 := by
    rw [em3]
    exact Fr.put (Fr.mono hF1 (by decide +kernel) (fun h => h)) (by decide +kernel)
  refine ok_ite (fun _ => ok_some ⟨hI3, by show (μ3.1 0 3).toInt = 0; rw [em3, sF_v]; exact e0, Fr.mono F3 (by decide +kernel) (fun h => h), Or.inl F3⟩) (fun hr => ?_)
  obtain ⟨hri, hs, h45⟩ := hq.resolve_left hr
  have hri : Ri μ1 ((0 : Int32) ≠ 0) := hri
  have h45 : nv μ1 45 = nv μ 45 := h45
  have hs : Sh (bp (iv μ1 22)) (nv μ 45) 0 (nv μ1 36) := hs
  refine ok_bv (fun μ5 em5 => ok_bv (fun μ6 em6 => ?_))
  have hI5 : IM μ5 := by rw [em5]; exact IM_F hI3 (rpm_0_47 (rgm_0_45 hI3))
  have hI6 : IM μ6 := by rw [em6]; exact IM_F hI5 (rpm_0_46 (rgm_0_36 hI5))
  have F6 : Fr frV true μ μ6 := by
    rw [em6]; refine Fr.put ?_ (by decide +kernel)
    rw [em5]; refine Fr.put ?_ (by decide +kernel)
    exact Fr.mono F3 (by decide +kernel) (fun h => h)
  have v36 : μ6.1 0 36 = μ1.1 0 36 := by rw [em6, sF_k (by decide), em5, sF_k (by decide), em3, sF_k (by decide)]
  have v47 : μ6.1 0 47 = μ1.1 0 45 := by rw [em6, sF_k (by decide), em5, sF_v, em3, sF_k (by decide)]
  have v46 : μ6.1 0 46 = μ1.1 0 36 := by rw [em6, sF_v, em5, sF_k (by decide), em3, sF_k (by decide)]
  have v3 : μ6.1 0 3 = 0 := by rw [em6, sF_k (by decide), em5, sF_k (by decide), em3, sF_v]
  have a6 : ∀ c, c ≠ 0 → ∀ i, iv μ6 c i = iv μ1 c i := by
    intro c hc i
    unfold iv
    rw [em6, sF_i hc, em5, sF_i hc, em3, sF_i hc]
  have g36 := rgm_0_36 hI1
  have n36 := ti_nat (a := μ1.1 0 36) (by omega)
  have hn36 : nv μ1 36 = (μ1.1 0 36).toNatClampNeg := rfl
  rw [v36]
  refine ok_bw (t_copy hI6 22 27 (μ1.1 0 36) 30 30 shm_22 shm_27 (by omega) (by omega) (by decide)) ?_
  rintro μ9 ⟨hI9, F9, c9⟩
  have f9 : ∀ k, μ9.1 0 k = μ6.1 0 k := fun k => F9.1 0 k (by simp [hit])
  rw [f9, v36]
  refine ok_bw (t_copy hI9 23 28 (μ1.1 0 36) 30 30 shm_23 shm_28 (by omega) (by omega) (by decide)) ?_
  rintro μ11 ⟨hI11, F11, c11⟩
  have f11 : ∀ k, μ11.1 0 k = μ6.1 0 k := fun k => (F11.1 0 k (by simp [hit])).trans (f9 k)
  have z27 : ∀ i, i < nv μ1 36 → iv μ11 27 i = iv μ1 22 i := by
    intro i hi
    have h1 : iv μ11 27 i = iv μ9 27 i := congrArg Int32.toInt (F11.1 27 i (by simp [hit]))
    rw [h1, c9 i (by omega), a6 _ (by decide)]
  have F11' : Fr frV true μ μ11 := (F6.trans (Fr.mono F9 (by decide +kernel) (fun h => h))).trans (Fr.mono F11 (by decide +kernel) (fun h => h))
  refine ok_some ⟨hI11, by show (μ11.1 0 3).toInt = 0; rw [f11, v3]; exact e0, F11', Or.inr ?_⟩
  have n47 : nv μ11 47 = nv μ 45 := by unfold nv; rw [f11, v47]; exact h45
  have n46 : nv μ11 46 = nv μ1 36 := by unfold nv; rw [f11, v46]
  show VW μ11
  unfold VW
  rw [n46, n47]
  refine ⟨hs.cong (fun i _ hi => by unfold bp; rw [z27 i hi]), fun i hi => ?_⟩
  rw [z27 i hi]
  have h := hri.2.1 i hi
  refine ⟨h.1, ?_⟩
  have h3 : iv μ1 22 i ≠ 3 := fun e => h.2.2 e rfl
  omega
