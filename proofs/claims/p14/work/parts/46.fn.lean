/-! A FUNCTION, A PROGRAM -/
theorem pr_inj {α β : Type} {a b : α} {c d : β} (h : (a, c) = (b, d)) : b = a ∧ d = c := ⟨(Prod.mk.inj h).1.symm, (Prod.mk.inj h).2.symm⟩
def Fn (le ar va bg lo th wo be : Nat → Int) (N k : Nat) : Prop := ∃ c n b l : Nat, le k = (c : Int) ∧ 1 ≤ c ∧ c ≤ 12 ∧ ar k = (n : Int) ∧ n ≤ 5 ∧ bg k = (b : Int) ∧ lo k = (l : Int) ∧ l ≤ 80 ∧ b + l ≤ N ∧ (∀ i, i < n → 0 ≤ va (5 * k + i) ∧ va (5 * k + i) < 14) ∧ Fo th wo be (Va va k n) 1 b (b + l)
def Pg (le ar va bg lo th wo be : Nat → Int) (F N : Nat) : Prop := N ≤ 800 ∧ (∀ k, k < F → Fn le ar va bg lo th wo be N k) ∧ (∀ i j, i < j → j < F → le i ≠ le j ∨ ar i ≠ ar j) ∧ Sh be F 0 N
theorem Fn.cong {le ar va bg lo th wo be le2 ar2 va2 bg2 lo2 th2 wo2 be2 : Nat → Int} {N N2 k : Nat} (h : Fn le ar va bg lo th wo be N k) (c1 : le2 k = le k) (c2 : ar2 k = ar k) (c3 : ∀ i, i < 5 → va2 (5 * k + i) = va (5 * k + i)) (c4 : bg2 k = bg k) (c5 : lo2 k = lo k) (c6 : ∀ i, i < N → th2 i = th i ∧ wo2 i = wo i ∧ be2 i = be i) (hN : N ≤ N2) : Fn le2 ar2 va2 bg2 lo2 th2 wo2 be2 N2 k := by
  obtain ⟨c, n, b, l, h1, h2, h3, h4, h5, h6, h7, h8, h9, h10, h11⟩ := h
  refine ⟨c, n, b, l, by rw [c1]; exact h1, h2, h3, by rw [c2]; exact h4, h5, by rw [c4]; exact h6, by rw [c5]; exact h7, h8, by omega, fun i hi => by rw [c3 i (by omega)]; exact h10 i hi, ?_⟩
  refine (h11.cong (fun j _ hj => c6 j (by omega))).mono _ ?_
  rintro u ⟨i, hi, e⟩
  exact ⟨i, hi, by rw [c3 i (by omega)]; exact e⟩
theorem q_isNew_b2 (a1 a2 : Int32) (μ : Mem) (hI : IM μ) : ∀ (m : Nat) (a3 : Int32) (i : Nat), a3.toInt = (i : Int) → (∀ k, k < i → μ.1 11 k ≠ a1 ∨ μ.1 12 k ≠ a2) → pk (p_X12_isNew_b2 m a1 a2 a3 μ) (fun r => r.1 = 0 ∨ ∀ k, k < nv μ 27 → μ.1 11 k ≠ a1 ∨ μ.1 12 k ≠ a2) := by
  intro m
  have g := rgm_0_27 hI
  have n27 := ti_nat (a := μ.1 0 27) (by omega)
  have hN : nv μ 27 = (μ.1 0 27).toNatClampNeg := rfl
  have e1 : (1 : Int32).toInt = 1 := by decide
  induction m with
  | zero => intro a3 i _ _ r e; rw [p_X12_isNew_b2_z] at e; exact absurd e (by simp)
  | succ m ih =>
    intro a3 i h1 h2
    rw [p_X12_isNew_b2_s]
    have ea : a3.toNatClampNeg = i := tn_of h1
    rw [ea]
    have h32 : (i < 73) → (μ.1 11 i ≠ a1 ∨ μ.1 12 i ≠ a2) → pk (p_X12_isNew_b32 (p_X12_isNew_b2 m) a1 a2 a3 μ) (fun r => r.1 = 0 ∨ ∀ k, k < nv μ 27 → μ.1 11 k ≠ a1 ∨ μ.1 12 k ≠ a2) := by
      intro hi h
      rw [p_X12_isNew_b32_eq]
      refine pk_bv (ih _ (i + 1) (by rw [ti_add (by omega) (by omega), e1, h1]; omega) (fun k hk => ?_))
      by_cases ek : k = i
      · rw [ek]; exact h
      · exact h2 k (by omega)
    refine pk_ite (fun hle => pk_some (Or.inr (fun k hk => h2 k ?_))) (fun _ => pk_gd fun hb => ?_)
    · rw [ti_le] at hle; omega
    · have hb := inb_iff.mp hb
      exact pk_ite (fun _ => pk_gd fun _ => pk_ite (fun _ => pk_some (Or.inl rfl)) (fun h => h32 (by omega) (Or.inr h))) (fun h => h32 (by omega) (Or.inl h))
theorem q_isNew (a1 a2 : Int32) (μ : Mem) (hI : IM μ) : pk (p_X12_isNew a1 a2 μ) (fun r => r.1 = 0 ∨ ∀ k, k < nv μ 27 → μ.1 11 k ≠ a1 ∨ μ.1 12 k ≠ a2) := by
  rw [p_X12_isNew_eq]; exact q_isNew_b2 a1 a2 μ hI _ _ 0 (by decide) (fun k hk => absurd hk (by omega))
/-- no more than 72 functions -/
theorem fn_72 {le ar : Nat → Int} {F : Nat} (h1 : ∀ k, k < F → 1 ≤ le k ∧ le k ≤ 12 ∧ 0 ≤ ar k ∧ ar k ≤ 5) (h2 : ∀ i j, i < j → j < F → le i ≠ le j ∨ ar i ≠ ar j) : F ≤ 72 := by
  refine pigeon 72 F (fun k => ((le k - 1) * 6 + ar k).toNat) (fun k hk => ?_) (fun i j hi hj e => ?_)
  · have := h1 k hk
    omega
  · have a := h1 i hi
    have b := h1 j hj
    rcases Nat.lt_trichotomy i j with q | q | q
    · have := h2 i j q hj
      omega
    · exact q
    · have := h2 j i q hi
      omega
def PgN (μ : Mem) : Prop := Pg (iv μ 11) (iv μ 12) (iv μ 13) (iv μ 14) (iv μ 15) (iv μ 16) (iv μ 17) (iv μ 18) (nv μ 27) (nv μ 28)
theorem t_here {μ : Mem} (hI : IM μ) : ok (p_X12_here μ) (fun q => q = (hv μ, μ) ∧ -1 ≤ (hv μ).toInt ∧ (hv μ).toInt ≤ 255 ∧ ((hv μ).toInt = -1 ∨ (μ.1 0 4).toInt < (μ.1 0 3).toInt)) := by
  refine ok_mono (ok_pk (k_X12_here μ hI) (q_here μ)) ?_
  rintro q ⟨⟨_, h⟩, rfl⟩
  dsimp only at h
  exact ⟨rfl, by omega, by omega, by omega⟩
theorem t_takes {μ : Mem} (hI : IM μ) {a : Int32} (ha : 0 ≤ a.toInt) : ok (p_X12_takes a μ) (fun q => IM q.2 ∧ Fs μ q.2 ∧ (μ.1 0 4).toInt ≤ (q.2.1 0 4).toInt ∧ ((q.1 = 0) ∨ q.1 = 1)) := by
  refine ok_mono (ok_pk (k_X12_takes a μ hI (Or.inl ha)) (q_takes a μ)) ?_
  rintro q ⟨⟨h1, h2, h3⟩, h4⟩
  refine ⟨h1, Fr.mono h2 (by decide +kernel) (fun h => h), h3.2.1, ?_⟩
  rcases h4 with ⟨rfl, _⟩ | rfl
  · exact Or.inr rfl
  · exact Or.inl rfl
def frP : List (Nat × Nat × Nat) := [(0, 0, 4), (0, 0, 5), (0, 0, 6), (0, 0, 7), (0, 0, 27), (0, 0, 28), (0, 0, 32), (1, 11, 0), (1, 12, 0), (1, 13, 0), (1, 14, 0), (1, 15, 0), (1, 16, 0), (1, 17, 0), (1, 18, 0), (1, 19, 0), (1, 20, 0), (1, 21, 0)]
theorem Fs.frP {μ μ' : Mem} (h : Fs μ μ') : Fr frP true μ μ' := Fr.mono h (by decide +kernel) (fun h => h)
set_option maxHeartbeats 4000000 in
theorem k_readFunction (μ : Mem) (hI : IM μ) (hJ : (μ.1 0 28).toInt ≤ (μ.1 0 4).toInt) (hP : PgN μ) : ok (p_X12_readFunction μ) (fun r => IM r.2 ∧ Fr frP true μ r.2 ∧ (r.1 = 0 ∨ (r.1 = 1 ∧ (r.2.1 0 28).toInt ≤ (r.2.1 0 4).toInt ∧ (μ.1 0 4).toInt < (r.2.1 0 4).toInt ∧ PgN r.2))) := by
  rw [p_X12_readFunction_eq]
  have g27 := rgm_0_27 hI
  have g28 := rgm_0_28 hI
  have g4 := rgm_0_4 hI
  have g3 := rgm_0_3 hI
  have n27 := ti_nat (a := μ.1 0 27) (by omega)
  have n28 := ti_nat (a := μ.1 0 28) (by omega)
  have e1 : (1 : Int32).toInt = 1 := by decide
  have e97 : (97 : Int32).toInt = 97 := by decide
  have hfail : ∀ (a : Int32) (μ1 : Mem), IM μ1 → Fr frP true μ μ1 → ok (bd (p_X12_fails a μ1) (fun r12 μ11 => gd (isB r12) (some (r12, μ11)))) (fun r => IM r.2 ∧ Fr frP true μ r.2 ∧ (r.1 = 0 ∨ (r.1 = 1 ∧ (r.2.1 0 28).toInt ≤ (r.2.1 0 4).toInt ∧ (μ.1 0 4).toInt < (r.2.1 0 4).toInt ∧ PgN r.2))) := by
    intro a μ1 h1 h2
    refine ok_bd (ok_pk (k_X12_fails a μ1 h1) (q_fails a μ1)) ?_
    rintro r μ2 ⟨⟨h3, h4, _⟩, h5⟩
    obtain ⟨rfl, rfl⟩ := pr_inj h5
    exact ok_gd (by decide) (ok_some ⟨h3, h2.trans (Fr.mono h4 (by decide +kernel) (fun h => h)), Or.inl rfl⟩)
  refine ok_bv (fun v1 ev1 => ok_bd (t_here hI) ?_)
  rintro r μ1 ⟨e, hh1, hh2, hh3⟩
  obtain ⟨rfl, rfl⟩ := pr_inj e
  refine ok_ite (fun _ => hfail _ _ hI Fr.rf) (fun hl => ok_bd (t_here hI) ?_)
  rintro r μ2 ⟨e, _⟩
  obtain ⟨rfl, rfl⟩ := pr_inj e
  have hfl := tf_isFunctionLetter (hv μ)
  have hl0 := i32_0 hl
  have hlt : (μ.1 0 4).toInt < (μ.1 0 3).toInt := by omega
  have hc7 : ((hv μ - 97) + 1).toInt = (hv μ).toInt - 96 := by
    have : (hv μ - 97).toInt = (hv μ).toInt - 97 := by rw [ti_sub (by omega) (by omega), e97]
    rw [ti_add (by omega) (by omega), this, e1]; omega
  refine ok_bv (fun v7 ev7 => ok_bv (fun μ8 em8 => ?_))
  have hI8 : IM μ8 := by rw [em8]; exact IM_F hI (rpm_0_4 (by rw [ti_add (by omega) (by omega), e1]; omega))
  have t48 : (μ8.1 0 4).toInt = (μ.1 0 4).toInt + 1 := by rw [em8, sF_v, ti_add (by omega) (by omega), e1]
  have f8 : Fr frP true μ μ8 := by rw [em8]; exact (Fs.s4 _).frP
  have e827 : μ8.1 0 27 = μ.1 0 27 := by rw [em8]; rfl
  have e828 : μ8.1 0 28 = μ.1 0 28 := by rw [em8]; rfl
  rw [e827, e828]
  refine ok_gd (inb_iff.mpr (by omega)) (ok_bv (fun μ9 em9 => ?_))
  have hF : (μ.1 0 27).toNatClampNeg = nv μ 27 := rfl
  rw [hF] at em9
  have hI9 : IM μ9 := by rw [em9]; exact IM_F hI8 (rtma_14 _ _)
  have f9 : Fr frP true μ μ9 := by rw [em9]; exact Fr.puta f8 (by decide +kernel)
  -- what stays of the new rows up to here
  have k9 : ∀ c, c ≠ 0 → c ≠ 14 → ∀ i, iv μ9 c i = iv μ c i := by
    intro c c0 c14 i
    unfold iv
    rw [em9, sF_i c14, em8, sF_i c0]
  have k914 : ∀ i, i ≠ nv μ 27 → iv μ9 14 i = iv μ 14 i := by
    intro i hi
    unfold iv
    rw [em9, sF_k hi, em8, sF_i (by decide)]
  have v914 : iv μ9 14 (nv μ 27) = (nv μ 28 : Int) := by
    unfold iv
    rw [em9, sF_v]
    show _ = ((μ.1 0 28).toNatClampNeg : Int)
    omega
  have n9 : ∀ k, k ≠ 4 → μ9.1 0 k = μ.1 0 k := by
    intro k hk
    rw [em9, sF_i (by decide), em8, sF_k hk]
  have t49 : (μ9.1 0 4).toInt = (μ.1 0 4).toInt + 1 := by rw [em9, sF_i (by decide)]; exact t48
  refine ok_bd (t_takes hI9 (by decide)) ?_
  rintro r11 μ10 ⟨hI10, s10, a10, _⟩
  have s10 : Fs μ9 μ10 := s10
  have a10 : (μ9.1 0 4).toInt ≤ (μ10.1 0 4).toInt := a10
  refine ok_ite (fun _ => ok_some ⟨hI10, f9.trans s10.frP, Or.inl rfl⟩) (fun _ => ok_bd (ok_pk (k_X12_readVars μ10 hI10) (q_readVars μ10 hI10)) ?_)
  rintro r14 μ13 ⟨⟨hI13, f13, p13⟩, q13⟩
  have hI13 : IM μ13 := hI13
  have f13 : Fr [(0, 0, 4), (0, 0, 5), (1, 12, 0), (1, 13, 0), (1, 21, 0)] true μ10 μ13 := f13
  dsimp only at p13
  have F13 : Fr frP true μ μ13 := (f9.trans s10.frP).trans (Fr.mono f13 (by decide +kernel) (fun h => h))
  refine ok_ite (fun _ => ok_some ⟨hI13, F13, Or.inl rfl⟩) (fun h14 => ok_bd (t_takes hI13 (by decide)) ?_)
  obtain ⟨n, hn5, hna, hvr⟩ := q13.resolve_left h14
  dsimp only at hna hvr
  have e27 : nv μ10 27 = nv μ 27 := by rw [s10.nvq (by decide) (by decide) (by decide) (by decide)]; unfold nv; rw [n9 _ (by decide)]
  have e28 : nv μ10 28 = nv μ 28 := by rw [s10.nvq (by decide) (by decide) (by decide) (by decide)]; unfold nv; rw [n9 _ (by decide)]
  rw [e27] at hna
  rintro r17 μ16 ⟨hI16, s16, a16, _⟩
  have hI16 : IM μ16 := hI16
  have s16 : Fs μ13 μ16 := s16
  have a16 : (μ13.1 0 4).toInt ≤ (μ16.1 0 4).toInt := a16
  refine ok_ite (fun _ => ok_some ⟨hI16, F13.trans s16.frP, Or.inl rfl⟩) (fun _ => ok_bd (t_here hI16) ?_)
  rintro r20 μ19 ⟨e, hv1, hv2, hv3⟩
  obtain ⟨rfl, rfl⟩ := pr_inj e
  have hvr16 : Vr μ10 μ16 n := s16.vr hvr
  obtain ⟨w1, w2, w3, w4, w5⟩ := hvr16
  rw [e27] at w2 w3 w4 w5
  have e27b : μ16.1 0 27 = μ.1 0 27 := by
    rw [w1, s10.f (by decide) (by decide) (by decide) (by decide)]; exact n9 _ (by decide)
  have e28b : μ16.1 0 28 = μ.1 0 28 := by
    rw [s16.f (by decide) (by decide) (by decide) (by decide), f13.1 0 28 (by decide +kernel), s10.f (by decide) (by decide) (by decide) (by decide)]; exact n9 _ (by decide)
  refine ok_ite (fun h61 => ?_) (fun _ => hfail _ _ hI16 (F13.trans s16.frP))
  have hlt19 : (μ16.1 0 4).toInt < (μ16.1 0 3).toInt := by
    rcases hv3 with h | h
    · rw [h61] at h; exact absurd h (by decide)
    · exact h
  rw [e27b, hF]
  refine ok_gd (inb_iff.mpr (by omega)) (ok_bd (ok_pk (k_X12_isNew v7 (μ16.1 12 (nv μ 27)) μ16 hI16) (q_isNew v7 _ μ16 hI16)) ?_)
  rintro r23 μ22 ⟨⟨e22, _⟩, q22⟩
  have e22 : μ16 = μ22 := e22
  subst e22
  refine ok_ite (fun _ => hfail _ _ hI16 (F13.trans s16.frP)) (fun h23 => ?_)
  have hnew := q22.resolve_left h23
  have hnn : nv μ16 27 = nv μ 27 := by unfold nv; rw [e27b]
  rw [hnn] at hnew
  refine ok_bv (fun μ25 em25 => ?_)
  have g19 := rgm_0_4 hI16
  have g193 := rgm_0_3 hI16
  have hI25 : IM μ25 := by rw [em25]; exact IM_F hI16 (rpm_0_4 (by rw [ti_add (by omega) (by omega), e1]; omega))
  have t25 : (μ25.1 0 4).toInt = (μ16.1 0 4).toInt + 1 := by rw [em25, sF_v, ti_add (by omega) (by omega), e1]
  have e25 : μ25.1 0 27 = μ.1 0 27 := by rw [em25]; exact e27b
  rw [e25, hF]
  refine ok_gd (inb_iff.mpr (by omega)) (ok_bv (fun μ26 em26 => ?_))
  have hI26 : IM μ26 := by rw [em26]; exact IM_F hI25 (rtma_11 _ _)
  have F26 : Fr frP true μ μ26 := by
    rw [em26]; refine Fr.puta ?_ (by decide +kernel)
    rw [em25]; exact (F13.trans s16.frP).trans (Fs.s4 _).frP
  have k26 : ∀ c, c ≠ 0 → c ≠ 11 → ∀ i, iv μ26 c i = iv μ16 c i := by
    intro c c0 c11 i
    unfold iv
    rw [em26, sF_i c11, em25, sF_i c0]
  have m26 : ∀ k, k ≠ 4 → μ26.1 0 k = μ16.1 0 k := by
    intro k hk
    rw [em26, sF_i (by decide), em25, sF_k hk]
  have t26 : (μ26.1 0 4).toInt = (μ16.1 0 4).toInt + 1 := by rw [em26, sF_i (by decide)]; exact t25
  have b11 : ∀ i, i ≠ nv μ 27 → iv μ26 11 i = iv μ16 11 i := by
    intro i hi
    unfold iv
    rw [em26, sF_k hi, em25, sF_i (by decide)]
  have v11 : iv μ26 11 (nv μ 27) = (hv μ).toInt - 96 := by
    unfold iv
    rw [em26, sF_v, ev7]; exact hc7
  -- rows from μ to μ16
  have r19 : ∀ c, c ≠ 0 → c ≠ 12 → c ≠ 13 → c ≠ 14 → c ≠ 21 → ∀ i, iv μ16 c i = iv μ c i := by
    intro c c0 c12 c13 c14 c21 i
    rw [s16.ivq c0]
    have : iv μ13 c i = iv μ10 c i := congrArg Int32.toInt (f13.1 c i (by simp [hit, c0, c12, c13, c21]))
    rw [this, s10.ivq c0]
    exact k9 c c0 c14 i
  have r1914 : ∀ i, iv μ16 14 i = iv μ9 14 i := by
    intro i
    rw [s16.ivq (by decide)]
    have : iv μ13 14 i = iv μ10 14 i := congrArg Int32.toInt (f13.1 14 i (by simp [hit]))
    rw [this, s10.ivq (by decide)]
  have hB : iv μ26 14 (nv μ26 27) = (nv μ 28 : Int) := by
    have : nv μ26 27 = nv μ 27 := by unfold nv; rw [m26 _ (by decide), e27b]
    rw [this, k26 14 (by decide) (by decide), r1914]; exact v914
  have hJ26 : (μ26.1 0 28).toInt ≤ (μ26.1 0 4).toInt := by
    rw [m26 _ (by decide), e28b, t26]
    omega
  have hb26 : nv μ 28 = nv μ26 28 := by unfold nv; rw [m26 _ (by decide), e28b]
  have hv26 : ∀ u, u < 14 → iv μ26 21 u = 0 ∨ (iv μ26 21 u = 1 ∧ Va (iv μ26 13) (nv μ 27) n u) := by
    intro u hu
    have e13 : iv μ26 13 = iv μ16 13 := funext (fun i => k26 13 (by decide) (by decide) i)
    rw [k26 21 (by decide) (by decide), e13]
    exact w5 u hu
  refine ok_bd (ok_pk (k_X12_readExpression μ26 hI26 hJ26) (q_readExpression μ26 hI26 hJ26 hb26 hB hv26)) ?_
  rintro r28 μ27 ⟨⟨hI27, f27, p27⟩, q27⟩
  have hI27 : IM μ27 := hI27
  have f27 : Fr [(0, 0, 28), (0, 0, 32), (0, 0, 4), (0, 0, 5), (0, 0, 6), (0, 0, 7), (1, 16, 0), (1, 17, 0), (1, 18, 0), (1, 19, 0), (1, 20, 0), (1, 21, 0)] true μ26 μ27 := f27
  dsimp only at p27
  have F27 : Fr frP true μ μ27 := F26.trans (Fr.mono f27 (by decide +kernel) (fun h => h))
  refine ok_ite (fun _ => ok_some ⟨hI27, F27, Or.inl rfl⟩) (fun h28 => ok_bd (t_takes hI27 (by decide)) ?_)
  obtain ⟨hkp, hfo, hbn⟩ := q27.resolve_left h28
  dsimp only at hkp hfo hbn
  have h280 := i32_0 h28
  rintro r31 μ30 ⟨hI30, s30, a30, _⟩
  have hI30 : IM μ30 := hI30
  have s30 : Fs μ27 μ30 := s30
  have a30 : (μ27.1 0 4).toInt ≤ (μ30.1 0 4).toInt := a30
  refine ok_ite (fun _ => ok_some ⟨hI30, F27.trans s30.frP, Or.inl rfl⟩) (fun _ => ?_)
  have e2730 : μ30.1 0 27 = μ.1 0 27 := by
    rw [s30.f (by decide) (by decide) (by decide) (by decide), f27.1 0 27 (by decide +kernel), m26 _ (by decide)]; exact e27b
  have e2830 : μ30.1 0 28 = μ27.1 0 28 := s30.f (by decide) (by decide) (by decide) (by decide)
  rw [e2730, hF]
  refine ok_gd (inb_iff.mpr (by omega)) (ok_gd (inb_iff.mpr (by omega)) (ok_bv (fun μ33 em33 => ok_bv (fun μ34 em34 => ?_))))
  -- the rows at the end
  have z30 : ∀ c, c ≠ 0 → c ≠ 11 → c ≠ 16 → c ≠ 17 → c ≠ 18 → c ≠ 19 → c ≠ 20 → c ≠ 21 → ∀ i, iv μ30 c i = iv μ16 c i := by
    intro c c0 c11 c16 c17 c18 c19 c20 c21 i
    rw [s30.ivq c0]
    have : iv μ27 c i = iv μ26 c i := congrArg Int32.toInt (f27.1 c i (by simp [hit, c0, c16, c17, c18, c19, c20, c21]))
    rw [this]
    exact k26 c c0 c11 i
  have z3011 : ∀ i, iv μ30 11 i = iv μ26 11 i := by
    intro i
    rw [s30.ivq (by decide)]
    exact congrArg Int32.toInt (f27.1 11 i (by simp [hit]))
  have y34 : ∀ c, c ≠ 0 → c ≠ 15 → ∀ i, iv μ34 c i = iv μ30 c i := by
    intro c c0 c15 i
    unfold iv
    rw [em34, sF_i c0, em33, sF_i c15]
  have y3415 : ∀ i, i ≠ nv μ 27 → iv μ34 15 i = iv μ30 15 i := by
    intro i hi
    unfold iv
    rw [em34, sF_i (by decide), em33, sF_k hi]
  have e34n : nv μ34 28 = nv μ27 28 := by
    unfold nv
    rw [em34, sF_k (by decide), em33, sF_i (by decide), e2830]
  have g27n := rgm_0_28 hI27
  have n27n := ti_nat (a := μ27.1 0 28) (by omega)
  have hN27 : nv μ27 28 = (μ27.1 0 28).toNatClampNeg := rfl
  have hN28 : nv μ 28 = (μ.1 0 28).toNatClampNeg := rfl
  have hlen := hfo.le
  have hbn2 := hbn.2
  have hu14 : (μ30.1 14 (nv μ 27)).toInt = (nv μ 28 : Int) := by
    have h1 := z30 14 (by decide) (by decide) (by decide) (by decide) (by decide) (by decide) (by decide) (by decide) (nv μ 27)
    have h2 := r1914 (nv μ 27)
    show iv μ30 14 (nv μ 27) = _
    rw [h1, h2]; exact v914
  have v15 : iv μ34 15 (nv μ 27) = ((nv μ27 28 - nv μ 28 : Nat) : Int) := by
    unfold iv
    rw [em34, sF_i (by decide), em33, sF_v, ti_sub (by rw [e2830, hu14]; omega) (by rw [e2830, hu14]; omega), e2830, hu14]
    omega
  obtain ⟨P1, P2, P3, P4⟩ := hP
  have th34 : ∀ i, iv μ34 16 i = iv μ27 16 i ∧ iv μ34 17 i = iv μ27 17 i ∧ iv μ34 18 i = iv μ27 18 i := fun i => ⟨by rw [y34 _ (by decide) (by decide), s30.ivq (by decide)], by rw [y34 _ (by decide) (by decide), s30.ivq (by decide)], by rw [y34 _ (by decide) (by decide), s30.ivq (by decide)]⟩
  have th26 : ∀ i, iv μ26 16 i = iv μ 16 i ∧ iv μ26 17 i = iv μ 17 i ∧ iv μ26 18 i = iv μ 18 i := fun i => ⟨by rw [k26 _ (by decide) (by decide), r19 _ (by decide) (by decide) (by decide) (by decide) (by decide)], by rw [k26 _ (by decide) (by decide), r19 _ (by decide) (by decide) (by decide) (by decide) (by decide)], by rw [k26 _ (by decide) (by decide), r19 _ (by decide) (by decide) (by decide) (by decide) (by decide)]⟩
  have low : ∀ i, i < nv μ 28 → iv μ34 16 i = iv μ 16 i ∧ iv μ34 17 i = iv μ 17 i ∧ iv μ34 18 i = iv μ 18 i := by
    intro i hi
    obtain ⟨a1, a2, a3⟩ := th34 i
    obtain ⟨b1, b2, b3⟩ := hkp i hi
    obtain ⟨c1, c2, c3⟩ := th26 i
    exact ⟨by rw [a1, b1, c1], by rw [a2, b2, c2], by rw [a3, b3, c3]⟩
  have E11 : ∀ i, i ≠ nv μ 27 → iv μ34 11 i = iv μ 11 i := fun i hi => by
    rw [y34 _ (by decide) (by decide), z3011, b11 i hi, r19 _ (by decide) (by decide) (by decide) (by decide) (by decide)]
  have V11 : iv μ34 11 (nv μ 27) = (hv μ).toInt - 96 := by rw [y34 _ (by decide) (by decide), z3011]; exact v11
  have E12a : ∀ i, iv μ34 12 i = iv μ16 12 i := fun i => by
    rw [y34 _ (by decide) (by decide), z30 _ (by decide) (by decide) (by decide) (by decide) (by decide) (by decide) (by decide) (by decide)]
  have k12 : ∀ i, iv μ10 12 i = iv μ 12 i := fun i => by rw [s10.ivq (by decide)]; exact k9 _ (by decide) (by decide) i
  have k13 : ∀ i, iv μ10 13 i = iv μ 13 i := fun i => by rw [s10.ivq (by decide)]; exact k9 _ (by decide) (by decide) i
  have E12 : ∀ i, i ≠ nv μ 27 → iv μ34 12 i = iv μ 12 i := fun i hi => by rw [E12a, w2 i hi, k12]
  have V12 : iv μ34 12 (nv μ 27) = (n : Int) := by rw [E12a, s16.ivq (by decide)]; exact hna
  have E13a : ∀ i, iv μ34 13 i = iv μ16 13 i := fun i => by
    rw [y34 _ (by decide) (by decide), z30 _ (by decide) (by decide) (by decide) (by decide) (by decide) (by decide) (by decide) (by decide)]
  have E13 : ∀ i, i < 5 * nv μ 27 → iv μ34 13 i = iv μ 13 i := fun i hi => by rw [E13a, w3 i hi, k13]
  have E14a : ∀ i, iv μ34 14 i = iv μ9 14 i := fun i => by
    rw [y34 _ (by decide) (by decide), z30 _ (by decide) (by decide) (by decide) (by decide) (by decide) (by decide) (by decide) (by decide), r1914]
  have E15 : ∀ i, i ≠ nv μ 27 → iv μ34 15 i = iv μ 15 i := fun i hi => by
    rw [y3415 i hi, z30 _ (by decide) (by decide) (by decide) (by decide) (by decide) (by decide) (by decide) (by decide), r19 _ (by decide) (by decide) (by decide) (by decide) (by decide)]
  have newF : Fn (iv μ34 11) (iv μ34 12) (iv μ34 13) (iv μ34 14) (iv μ34 15) (iv μ34 16) (iv μ34 17) (iv μ34 18) (nv μ27 28) (nv μ 27) := by
    refine ⟨((hv μ).toInt - 96).toNat, n, nv μ 28, nv μ27 28 - nv μ 28, by rw [V11]; omega, by omega, by omega, V12, hn5, by rw [E14a]; exact v914, v15, by omega, by omega, fun i hi => by rw [E13a]; exact w4 i hi, ?_⟩
    have el : nv μ 28 + (nv μ27 28 - nv μ 28) = nv μ27 28 := by omega
    rw [el]
    refine (hfo.cong (fun i _ _ => th34 i)).mono _ ?_
    rintro u ⟨i, hi, e⟩
    refine ⟨i, hi, ?_⟩
    rw [E13a, ← k26 13 (by decide) (by decide)]; exact e
  have dist : ∀ i j, i < j → j < nv μ 27 + 1 → iv μ34 11 i ≠ iv μ34 11 j ∨ iv μ34 12 i ≠ iv μ34 12 j := by
    intro i j hij hj
    by_cases ej : j = nv μ 27
    · rw [ej, E11 i (by omega), E12 i (by omega), V11, V12]
      rcases hnew i (by omega) with h | h
      · left
        intro e
        apply h
        apply ti_eq.mpr
        have h1 := r19 11 (by decide) (by decide) (by decide) (by decide) (by decide) i
        show iv μ16 11 i = _
        rw [h1, e, ev7, hc7]
      · right
        intro e
        apply h
        apply ti_eq.mpr
        show iv μ16 12 i = iv μ16 12 (nv μ 27)
        rw [← E12a, E12 i (by omega), e, ← E12a, V12]
    · rw [E11 i (by omega), E12 i (by omega), E11 j ej, E12 j ej]
      exact P3 i j hij (by omega)
  have allF : ∀ k, k < nv μ 27 + 1 → Fn (iv μ34 11) (iv μ34 12) (iv μ34 13) (iv μ34 14) (iv μ34 15) (iv μ34 16) (iv μ34 17) (iv μ34 18) (nv μ27 28) k := by
    intro k hk
    by_cases ek : k = nv μ 27
    · rw [ek]; exact newF
    · refine (P2 k (by omega)).cong (E11 k ek) (E12 k ek) (fun i hi => E13 _ (by omega)) (by rw [E14a]; exact k914 k ek) (E15 k ek) low (by omega)
  have h72 : nv μ 27 + 1 ≤ 72 := by
    refine fn_72 (le := iv μ34 11) (ar := iv μ34 12) (fun k hk => ?_) dist
    obtain ⟨c, m, b, l, q1, q2, q3, q4, q5, _⟩ := allF k hk
    rw [q1, q4]; omega
  have hI33 : IM μ33 := by rw [em33]; exact IM_F hI30 (rtma_15 _ _)
  have e3327 : μ33.1 0 27 = μ.1 0 27 := by rw [em33]; exact e2730
  have hN27 : nv μ 27 = (μ.1 0 27).toNatClampNeg := rfl
  have t2734 : (μ34.1 0 27).toInt = (μ.1 0 27).toInt + 1 := by rw [em34, sF_v, e3327, ti_add (by omega) (by omega), e1]
  have hI34 : IM μ34 := by rw [em34]; exact IM_F hI33 (rpm_0_27 (by rw [e3327, ti_add (by omega) (by omega), e1]; omega))
  have F34 : Fr frP true μ μ34 := by
    rw [em34]; refine Fr.put ?_ (by decide +kernel)
    rw [em33]; refine Fr.puta ?_ (by decide +kernel)
    exact F27.trans s30.frP
  have e34f : nv μ34 27 = nv μ 27 + 1 := tn_of (by rw [t2734]; omega)
  have t434 : (μ34.1 0 4).toInt = (μ30.1 0 4).toInt := by rw [em34, sF_k (by decide), em33, sF_i (by decide)]
  have t2834 : (μ34.1 0 28).toInt = (μ27.1 0 28).toInt := by rw [em34, sF_k (by decide), em33, sF_i (by decide), e2830]
  refine ok_some ⟨hI34, F34, Or.inr ⟨rfl, ?_, ?_, ?_⟩⟩
  · show (μ34.1 0 28).toInt ≤ (μ34.1 0 4).toInt
    omega
  · show (μ.1 0 4).toInt < (μ34.1 0 4).toInt
    omega
  · show PgN μ34
    unfold PgN
    rw [e34f, e34n]
    refine ⟨by omega, allF, dist, ?_⟩
    have hs : Sh (iv μ34 18) (nv μ 27) 0 (nv μ 28) := P4.cong (fun i _ hi => (low i hi).2.2)
    have hs1 : Sh (iv μ34 18) 1 (nv μ 28) (nv μ27 28) := (hfo.cong (fun i _ _ => th34 i)).sh
    exact hs.app hs1
