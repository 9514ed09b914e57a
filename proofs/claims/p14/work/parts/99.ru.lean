/-! WHAT ALWAYS HOLDS, AND RUNS -/
def IW (μ : Mem) : Prop := IM μ ∧ PW μ ∧ TW μ ∧ VW μ ∧ (0 ≤ iv μ 29 0 ∧ iv μ 29 0 ≤ 12) ∧ (0 ≤ (μ.1 0 73).toInt ∧ (μ.1 0 73).toInt ≤ 500001) ∧ (μ.1 0 95 ≠ 0 → RI μ)
def nW (F : List (Nat × Nat × Nat)) : Bool := nP F && (nT F && nV F) && na F 25 && na F 27 && na F 29 && nf F 43 && nf F 44 && nf F 45 && nf F 46 && nf F 47 && nf F 95
theorem IW.fr {F : List (Nat × Nat × Nat)} {bb : Bool} {μ μ' : Mem} (h : IW μ) (f : Fr F bb μ μ') (hI : IM μ') (h73 : 0 ≤ (μ'.1 0 73).toInt ∧ (μ'.1 0 73).toInt ≤ 500001) (n : nW F = true) : IW μ' := by
  unfold nW at n
  simp only [Bool.and_eq_true] at n
  obtain ⟨⟨⟨⟨⟨⟨⟨⟨⟨⟨n1, n2⟩, n25⟩, n27⟩, n29⟩, n43⟩, n44⟩, n45⟩, n46⟩, n47⟩, n95⟩ := n
  obtain ⟨h1, h2, h3, h4, h5, h6, h7⟩ := h
  refine ⟨hI, h2.fr f n1, ?_, ?_, ?_, h73, fun h => ?_⟩
  · unfold TW
    rw [f.fe (c := 25) n25, f.n n43, f.n n44, f.n n45]; exact h3
  · unfold VW
    rw [f.fe (c := 27) n27, f.n n46, f.n n47]; exact h4
  · rw [f.a n29]; exact h5
  · rw [f.v n95] at h
    exact (h7 h).fr f (by simp only [Bool.and_eq_true]; exact n2)
/-- what a call leaves, the tape's length aside -/
def KpW (μ q : Mem) : Prop := IW q ∧ q.1 0 3 = μ.1 0 3
theorem q_canRun (a1 : Int32) (μ : Mem) : pk (p_X12_canRun a1 μ) (fun r => r.2 = μ ∧ (r.1 = 0 ∨ (nv μ 47 = nv μ 45 ∧ (a1 = 0 ∨ (a1 = 1 ∧ μ.1 0 95 ≠ 0))))) := by
  have b16 : (a1 = 0 ∨ (a1 = 1 ∧ μ.1 0 95 ≠ 0)) → pk (p_X12_canRun_b16 μ) (fun r => r.2 = μ ∧ (r.1 = 0 ∨ (nv μ 47 = nv μ 45 ∧ (a1 = 0 ∨ (a1 = 1 ∧ μ.1 0 95 ≠ 0))))) := by
    intro h
    rw [p_X12_canRun_b16_eq]
    exact pk_ite (fun e => pk_some ⟨rfl, Or.inr ⟨by unfold nv; rw [e], h⟩⟩) (fun _ => pk_some ⟨rfl, Or.inl rfl⟩)
  rw [p_X12_canRun_eq]
  exact pk_ite (fun h => b16 (Or.inl h)) (fun _ => pk_ite (fun h => pk_ite (fun _ => pk_some ⟨rfl, Or.inl rfl⟩) (fun h2 => b16 (Or.inr ⟨h, h2⟩))) (fun _ => pk_some ⟨rfl, Or.inl rfl⟩))
theorem k_can {a1 : Int32} {μ : Mem} (h : IM μ) : ok (p_X12_canRun a1 μ) (fun r => r.2 = μ ∧ (r.1 = 0 ∨ (nv μ 47 = nv μ 45 ∧ (a1 = 0 ∨ (a1 = 1 ∧ μ.1 0 95 ≠ 0))))) := ok_imp (fun _ h => h.2) (ok_pk (k_X12_canRun a1 μ h) (q_canRun a1 μ))
def frRW : List (Nat × Nat × Nat) := frRT ++ frRU
def RV (μ q : Mem) : Prop := IM q ∧ Fr frRW true μ q ∧ (0 ≤ (q.1 0 122).toInt ∧ (q.1 0 122).toInt ≤ 40) ∧ 0 ≤ (q.1 0 73).toInt ∧ (q.1 0 73).toInt ≤ 500001
theorem RV.iw {μ q : Mem} (h : RV μ q) (hW : IW μ) : IW q := hW.fr h.2.1 h.1 h.2.2.2 (by decide +kernel)
theorem k_rvT {μ : Mem} (h : IW μ) (hc : nv μ 47 = nv μ 45) : ok (p_X12_runTask μ) (RV μ) := by
  obtain ⟨h1, h2, h3, h4, h5, h6, h7⟩ := h
  exact ok_imp (fun q ⟨q1, q2, q3, q4⟩ => ⟨q1, Fr.mono q2 (by decide +kernel) (fun h => h), q3, q4⟩) (k_runTask h1 h4 h3 h2 h5 hc)
theorem k_rvR {μ : Mem} (h : IW μ) (hc : nv μ 47 = nv μ 45) (hL : μ.1 0 95 ≠ 0) : ok (p_X12_runResidue μ) (RV μ) := by
  obtain ⟨h1, h2, h3, h4, h5, h6, h7⟩ := h
  exact ok_imp (fun q ⟨q1, q2, q3, q4⟩ => ⟨q1, Fr.mono q2 (by decide +kernel) (fun h => h), q3, q4⟩) (k_runResidue h1 h4 (h7 hL) hc)
theorem c_copy {μ : Mem} (hI : IM μ) (a b : Nat) (n m : Int32) (na nb : Nat) (q0 : sh 1 a = (1, na)) (q3 : sh 1 b = (1, nb)) (hm : 0 ≤ m.toInt) (h1 : n.toInt ≤ (na : Int)) (h2 : m.toInt + n.toInt ≤ (nb : Int)) (hb : (b ≠ 19 ∧ b ≠ 35 ∧ b ≠ 36 ∧ b ≠ 40 ∧ b ≠ 45 ∧ b ≠ 56 ∧ b ≠ 57 ∧ b ≠ 58 ∧ b ≠ 62 ∧ b ≠ 63 ∧ b ≠ 69 ∧ b ≠ 72 ∧ b ≠ 76 ∧ b ≠ 16 ∧ b ≠ 17 ∧ a ≠ b)) : ok (p_X12_copy a 0 n b m μ) (fun q => IM q ∧ Fr [(1, b, 0)] true μ q) := by
  have e0 : (0 : Int32).toInt = 0 := by decide
  refine ok_imp ?_ (k_X12_copy a (by rw [q0]) 0 n b (by rw [q3]) m μ hI ⟨by decide, hm, by rw [q0, e0]; omega, by rw [q3]; exact h2, hb⟩)
  rintro q ⟨h1, h2, _⟩
  exact ⟨h1, h2⟩
set_option maxHeartbeats 2000000 in
theorem k_run {μ : Mem} (h : IW μ) (a1 a2 : Int32) : ok (p_X12_run a1 a2 μ) (fun q => KpW μ q.2) := by
  have e0 : (0 : Int32).toInt = 0 := by decide
  have e5 : (5 : Int32).toInt = 5 := by decide
  have e8 : (8 : Int32).toInt = 8 := by decide
  have e60 : (60 : Int32).toInt = 60 := by decide
  rw [p_X12_run_eq]
  refine ok_bd (k_can h.1) ?_
  rintro r2 μ1 ⟨q1, q2⟩
  have q1 : μ = μ1 := Eq.symm q1
  subst q1
  have q2 : r2 = 0 ∨ (nv μ 47 = nv μ 45 ∧ (a1 = 0 ∨ (a1 = 1 ∧ μ.1 0 95 ≠ 0))) := q2
  refine ok_ite (fun _ => ok_some ⟨h, rfl⟩) (fun hr => ok_ite (fun _ => ok_some ⟨h, rfl⟩) (fun hi => ?_))
  obtain ⟨hc, ha⟩ := q2.resolve_left hr
  have hin : inb a2 6 = true := by
    rcases tf_isIn a2 0 5 with ⟨x, _⟩ | ⟨_, x⟩
    · exact absurd (ti_eq.mpr (by rw [x, e0])) hi
    · exact inb_iff.mpr (by omega)
  have hN : ok (p_X12_runNow a1 μ) (RV μ) := by
    rw [p_X12_runNow_eq]
    refine ok_ite (fun _ => ok_bw (k_rvT h hc) (fun q hq => ok_some hq)) (fun h0 => ?_)
    exact ok_bw (k_rvR h hc (ha.resolve_left h0).2) (fun q hq => ok_some hq)
  refine ok_bw hN (fun μ5 hV => ?_)
  have hW5 := hV.iw h
  obtain ⟨v1, v2, v3, v4, v5⟩ := hV
  have b43 : ∀ k0 : Int32, 0 ≤ k0.toInt → k0.toInt ≤ 60 → ok (p_X12_run_b43 a2 k0 μ5) (fun q => KpW μ q.2) := by
    intro k0 k1 k2
    rw [p_X12_run_b43_eq]
    refine ok_bv (fun μ8 em => ?_)
    have f8 : Fr [(0, 0, 132)] true μ5 μ8 := by rw [em]; exact Fr.put Fr.rf (by decide +kernel)
    have hI8 : IM μ8 := by rw [em]; exact IM_F v1 (rpm_0_132 (by omega))
    have t132 : (μ8.1 0 132).toInt = k0.toInt := by rw [em, sF_v]
    refine ok_bw (c_copy hI8 43 79 _ 0 60 60 shm_43 shm_79 (by omega) (by omega) (by omega) (by decide)) ?_
    rintro μ9 ⟨hI9, f9⟩
    have t9 : (μ9.1 0 132).toInt = k0.toInt := by rw [f9.v (by decide +kernel)]; exact t132
    refine ok_bw (c_copy hI9 44 80 _ 0 60 60 shm_44 shm_80 (by omega) (by omega) (by omega) (by decide)) ?_
    rintro μ11 ⟨hI11, f11⟩
    refine ok_bw (c_copy hI11 42 81 _ 0 8 8 shm_42 shm_81 (by omega) (by omega) (by omega) (by decide)) ?_
    rintro μ13 ⟨hI13, f13⟩
    have F13 : Fr [(0, 0, 132), (1, 79, 0), (1, 80, 0), (1, 81, 0)] true μ5 μ13 := (((Fr.mono f8 (by decide +kernel) (fun h => h)).trans (Fr.mono f9 (by decide +kernel) (fun h => h))).trans (Fr.mono f11 (by decide +kernel) (fun h => h))).trans (Fr.mono f13 (by decide +kernel) (fun h => h))
    have t122 : (μ13.1 0 122).toInt = (μ5.1 0 122).toInt := by rw [F13.v (by decide +kernel)]
    refine ok_ite (fun _ => ?_) (fun _ => ok_gd hin (ok_some ⟨hW5.fr F13 hI13 (by rw [F13.v (by decide +kernel)]; exact ⟨v4, v5⟩) (by decide +kernel), by show μ13.1 0 3 = _; rw [F13.v (by decide +kernel), v2.v (by decide +kernel)]⟩))
    refine ok_bv (fun μ16 em16 => ?_)
    have f16 : Fr [(0, 0, 133)] true μ13 μ16 := by rw [em16]; exact Fr.put Fr.rf (by decide +kernel)
    have hI16 : IM μ16 := by rw [em16]; exact IM_F hI13 (rpm_0_133 (by omega))
    have u122 : (μ16.1 0 122).toInt = (μ5.1 0 122).toInt := by rw [f16.v (by decide +kernel)]; exact t122
    refine ok_bw (c_copy hI16 74 82 _ 0 41 41 shm_74 shm_82 (by omega) (by omega) (by omega) (by decide)) ?_
    rintro μ17 ⟨hI17, f17⟩
    have w122 : (μ17.1 0 122).toInt = (μ5.1 0 122).toInt := by rw [f17.v (by decide +kernel)]; exact u122
    refine ok_bw (c_copy hI17 75 83 _ 0 41 41 shm_75 shm_83 (by omega) (by omega) (by omega) (by decide)) ?_
    rintro μ19 ⟨hI19, f19⟩
    have F19 : Fr [(0, 0, 132), (1, 79, 0), (1, 80, 0), (1, 81, 0), (0, 0, 133), (1, 82, 0), (1, 83, 0)] true μ5 μ19 := (((Fr.mono F13 (by decide +kernel) (fun h => h)).trans (Fr.mono f16 (by decide +kernel) (fun h => h))).trans (Fr.mono f17 (by decide +kernel) (fun h => h))).trans (Fr.mono f19 (by decide +kernel) (fun h => h))
    exact ok_gd hin (ok_some ⟨hW5.fr F19 hI19 (by rw [F19.v (by decide +kernel)]; exact ⟨v4, v5⟩) (by decide +kernel), by show μ19.1 0 3 = _; rw [F19.v (by decide +kernel), v2.v (by decide +kernel)]⟩)
  refine ok_ite (fun _ => b43 60 (by omega) (by omega)) (fun hle => b43 _ v4 ?_)
  rw [ti_le] at hle; omega
theorem k_saved {μ : Mem} (h : IW μ) : ok (p_X12_saved μ) (fun q => KpW μ q.2) := by
  rw [p_X12_saved_eq]
  refine ok_bd (k_can h.1) ?_
  rintro r2 μ1 ⟨q1, q2⟩
  have q1 : μ = μ1 := Eq.symm q1
  subst q1
  refine ok_ite (fun _ => ok_some ⟨h, rfl⟩) (fun hr => ?_)
  obtain ⟨hc, _⟩ := Or.resolve_left q2 hr
  refine ok_bd (k_can h.1) ?_
  rintro r5 μ1 ⟨q1, q3⟩
  have q1 : μ = μ1 := Eq.symm q1
  subst q1
  refine ok_ite (fun _ => ok_some ⟨h, rfl⟩) (fun hr2 => ?_)
  obtain ⟨_, hL⟩ := Or.resolve_left q3 hr2
  have hL : μ.1 0 95 ≠ 0 := (hL.resolve_left (by decide)).2
  refine ok_bw (k_rvT h hc) (fun μ7 hV => ok_bv (fun v9 _ => ?_))
  have h7 := hV.iw h
  have f7 := hV.2.1
  refine ok_ite (fun _ => ?_) (fun _ => ok_some ⟨h7, f7.v (by decide +kernel)⟩)
  refine ok_bw (k_rvR h7 (by rw [f7.n (by decide +kernel), f7.n (by decide +kernel)]; exact hc) (by rw [f7.v (by decide +kernel)]; exact hL)) (fun μ11 hV2 => ?_)
  have h11 := hV2.iw h7
  have t3 : μ11.1 0 3 = μ.1 0 3 := by rw [hV2.2.1.v (by decide +kernel), f7.v (by decide +kernel)]
  exact ok_ite (fun _ => ok_some ⟨h11, t3⟩) (fun _ => ok_some ⟨h11, t3⟩)
theorem k_areLike (a b : Nat) (n : Int32) (μ : Mem) (h1 : n.toInt ≤ ((sh 1 a).2 : Int)) (h2 : n.toInt ≤ ((sh 1 b).2 : Int)) (h3 : n.toInt ≤ 1000) : ok (p_X12_areLike a b n μ) (fun q => q.2 = μ) := by
  have e0 : (0 : Int32).toInt = 0 := by decide
  have e1 : (1 : Int32).toInt = 1 := by decide
  have loop : ∀ (m k : Nat) (a3 : Int32), a3.toInt = (k : Int) → k ≤ 1000 → 1000 < m + k → ok (p_X12_areLike_b2 m a b n a3 μ) (fun q => q.2 = μ) := by
    intro m
    induction m with
    | zero => intro k a3 _ h4 h5; omega
    | succ m ih =>
      intro k a3 ha hk hm
      rw [p_X12_areLike_b2_s]
      refine ok_ite (fun _ => ok_some rfl) (fun hle => ?_)
      rw [ti_le] at hle
      exact ok_gd (inb_iff.mpr (by omega)) (ok_gd (inb_iff.mpr (by omega)) (ok_ite (fun _ => ok_bv (fun v3 ev => ih (k + 1) v3 (by rw [ev, ti_add (by omega) (by omega), e1, ha]; omega) (by omega) (by omega))) (fun _ => ok_some rfl)))
  rw [p_X12_areLike_eq]
  exact loop FUEL 0 0 e0 (by omega) (by show 1000 < 10000000000 + 0; omega)
theorem k_areLikeFrom (a b : Nat) (n d : Int32) (μ : Mem) (h1 : n.toInt ≤ ((sh 1 a).2 : Int)) (hd : 0 ≤ d.toInt ∧ d.toInt ≤ 1000) (h2 : d.toInt + n.toInt ≤ ((sh 1 b).2 : Int)) (h3 : n.toInt ≤ 1000) : ok (p_X12_areLikeFrom a n b d μ) (fun q => q.2 = μ) := by
  have e0 : (0 : Int32).toInt = 0 := by decide
  have e1 : (1 : Int32).toInt = 1 := by decide
  have loop : ∀ (m k : Nat) (a3 : Int32), a3.toInt = (k : Int) → k ≤ 1000 → 1000 < m + k → ok (p_X12_areLikeFrom_b3 m a n b d a3 μ) (fun q => q.2 = μ) := by
    intro m
    induction m with
    | zero => intro k a3 _ h4 h5; omega
    | succ m ih =>
      intro k a3 ha hk hm
      rw [p_X12_areLikeFrom_b3_s]
      refine ok_ite (fun _ => ok_some rfl) (fun hle => ?_)
      rw [ti_le] at hle
      have hs : (d + a3).toInt = d.toInt + (k : Int) := by rw [ti_add (by omega) (by omega), ha]
      exact ok_gd (inb_iff.mpr (by omega)) (ok_gd (inb_iff.mpr (by omega)) (ok_ite (fun _ => ok_bv (fun v3 ev => ih (k + 1) v3 (by rw [ev, ti_add (by omega) (by omega), e1, ha]; omega) (by omega) (by omega))) (fun _ => ok_some rfl)))
  rw [p_X12_areLikeFrom_eq]
  exact loop FUEL 0 0 e0 (by omega) (by show 1000 < 10000000000 + 0; omega)
set_option maxHeartbeats 2000000 in
theorem k_agree {μ : Mem} (h : IW μ) : ok (p_X12_agree μ) (fun q => KpW μ q.2) := by
  have e0 : (0 : Int32).toInt = 0 := by decide
  have e8 : (8 : Int32).toInt = 8 := by decide
  have e60 : (60 : Int32).toInt = 60 := by decide
  have s43 : (sh 1 43).2 = 60 := by rw [shm_43]
  have s44 : (sh 1 44).2 = 60 := by rw [shm_44]
  have s42 : (sh 1 42).2 = 8 := by rw [shm_42]
  have s74 : (sh 1 74).2 = 41 := by rw [shm_74]
  have s75 : (sh 1 75).2 = 41 := by rw [shm_75]
  have s84 : (sh 1 84).2 = 101 := by rw [shm_84]
  have s85 : (sh 1 85).2 = 101 := by rw [shm_85]
  have s86 : (sh 1 86).2 = 8 := by rw [shm_86]
  rw [p_X12_agree_eq]
  refine ok_bd (k_can h.1) ?_
  rintro r2 μ1 ⟨q1, q2⟩
  have q1 : μ = μ1 := Eq.symm q1
  subst q1
  refine ok_ite (fun _ => ok_some ⟨h, rfl⟩) (fun hr => ?_)
  obtain ⟨hc, _⟩ := Or.resolve_left q2 hr
  refine ok_bd (k_can h.1) ?_
  rintro r5 μ1 ⟨q1, q3⟩
  have q1 : μ = μ1 := Eq.symm q1
  subst q1
  refine ok_ite (fun _ => ok_some ⟨h, rfl⟩) (fun hr2 => ?_)
  obtain ⟨_, hL⟩ := Or.resolve_left q3 hr2
  have hL : μ.1 0 95 ≠ 0 := (hL.resolve_left (by decide)).2
  refine ok_bw (k_rvT h hc) (fun μ7 hV => ?_)
  have h7 := hV.iw h
  obtain ⟨v1, v2, v3, v4, v5⟩ := hV
  have b216 : ∀ (a4 k0 : Int32) (q : Mem), 0 ≤ a4.toInt → a4.toInt ≤ 40 → KpW μ q → ok (p_X12_agree_b216 a4 k0 q) (fun q => KpW μ q.2) := by
    intro a4 k0 q h1 h2 hq
    rw [p_X12_agree_b216_eq]
    refine ok_ite (fun _ => ok_some hq) (fun _ => ?_)
    refine ok_bd (k_areLikeFrom 74 84 a4 60 q (by omega) (by omega) (by omega) (by omega)) ?_
    rintro r28 μ27 q1
    have q1 : q = μ27 := Eq.symm q1
    subst q1
    refine ok_ite (fun _ => ok_some hq) (fun _ => ?_)
    refine ok_bd (k_areLikeFrom 75 85 a4 60 q (by omega) (by omega) (by omega) (by omega)) ?_
    rintro r31 μ30 q1
    have q1 : q = μ30 := Eq.symm q1
    subst q1
    exact ok_ite (fun _ => ok_some hq) (fun _ => ok_some hq)
  have b215 : ∀ (a4 : Int32) (q : Mem), 0 ≤ a4.toInt → a4.toInt ≤ 40 → KpW μ q → ok (p_X12_agree_b215 a4 q) (fun q => KpW μ q.2) := by
    intro a4 q h1 h2 hq
    rw [p_X12_agree_b215_eq]
    exact b216 a4 0 q h1 h2 hq
  have b40 : ∀ k0 : Int32, 0 ≤ k0.toInt → k0.toInt ≤ 60 → ok (p_X12_agree_b40 k0 μ7) (fun q => KpW μ q.2) := by
    intro k0 k1 k2
    rw [p_X12_agree_b40_eq]
    refine ok_bw (c_copy v1 43 84 _ 0 60 101 shm_43 shm_84 (by omega) (by omega) (by omega) (by decide)) ?_
    rintro μ10 ⟨hI10, f10⟩
    refine ok_bw (c_copy hI10 44 85 _ 0 60 101 shm_44 shm_85 (by omega) (by omega) (by omega) (by decide)) ?_
    rintro μ12 ⟨hI12, f12⟩
    have t12 : (μ12.1 0 122).toInt = (μ7.1 0 122).toInt := by rw [f12.v (by decide +kernel), f10.v (by decide +kernel)]
    refine ok_bw (c_copy hI12 74 84 _ 60 41 101 shm_74 shm_84 (by omega) (by omega) (by omega) (by decide)) ?_
    rintro μ14 ⟨hI14, f14⟩
    have t14 : (μ14.1 0 122).toInt = (μ7.1 0 122).toInt := by rw [f14.v (by decide +kernel)]; exact t12
    refine ok_bw (c_copy hI14 75 85 _ 60 41 101 shm_75 shm_85 (by omega) (by omega) (by omega) (by decide)) ?_
    rintro μ16 ⟨hI16, f16⟩
    refine ok_bw (c_copy hI16 42 86 _ 0 8 8 shm_42 shm_86 (by omega) (by omega) (by omega) (by decide)) ?_
    rintro μ18 ⟨hI18, f18⟩
    have F18 : Fr [(1, 84, 0), (1, 85, 0), (1, 86, 0)] true μ7 μ18 := ((((Fr.mono f10 (by decide +kernel) (fun h => h)).trans (Fr.mono f12 (by decide +kernel) (fun h => h))).trans (Fr.mono f14 (by decide +kernel) (fun h => h))).trans (Fr.mono f16 (by decide +kernel) (fun h => h))).trans (Fr.mono f18 (by decide +kernel) (fun h => h))
    refine ok_bv (fun v20 _ => ok_bv (fun v21 _ => ok_bv (fun v22 e22 => ?_)))
    have t22 : v22.toInt = (μ7.1 0 122).toInt := by rw [e22, F18.v (by decide +kernel)]
    have h18 : IW μ18 := h7.fr F18 hI18 (by rw [F18.v (by decide +kernel)]; exact ⟨v4, v5⟩) (by decide +kernel)
    refine ok_bw (k_rvR h18 (by rw [F18.n (by decide +kernel), F18.n (by decide +kernel), v2.n (by decide +kernel), v2.n (by decide +kernel)]; exact hc) (by rw [F18.v (by decide +kernel), v2.v (by decide +kernel)]; exact hL)) (fun μ23 hV2 => ?_)
    have hq : KpW μ μ23 := ⟨hV2.iw h18, by rw [hV2.2.1.v (by decide +kernel), F18.v (by decide +kernel), v2.v (by decide +kernel)]⟩
    have b := b215 v22 μ23 (by omega) (by omega) hq
    refine ok_ite (fun _ => ok_ite (fun _ => ok_ite (fun _ => ?_) (fun _ => b)) (fun _ => b)) (fun _ => b)
    refine ok_bd (k_areLike 43 84 k0 μ23 (by omega) (by omega) (by omega)) ?_
    rintro r36 μ35 q1
    have q1 : μ23 = μ35 := Eq.symm q1
    subst q1
    refine ok_ite (fun _ => b) (fun _ => ?_)
    refine ok_bd (k_areLike 44 85 k0 μ23 (by omega) (by omega) (by omega)) ?_
    rintro r39 μ38 q1
    have q1 : μ23 = μ38 := Eq.symm q1
    subst q1
    refine ok_ite (fun _ => b) (fun _ => ?_)
    refine ok_bd (k_areLike 42 86 8 μ23 (by omega) (by omega) (by omega)) ?_
    rintro r42 μ41 q1
    have q1 : μ23 = μ41 := Eq.symm q1
    subst q1
    exact ok_ite (fun _ => b) (fun _ => b216 v22 1 μ23 (by omega) (by omega) hq)
  refine ok_ite (fun _ => b40 60 (by omega) (by omega)) (fun hle => b40 _ v4 ?_)
  rw [ti_le] at hle; omega
