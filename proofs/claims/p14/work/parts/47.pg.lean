/-! THE PROGRAM IS TOLD -/
theorem k_readProgram_b14 (μ0 : Mem) : ∀ (m : Nat) (μ : Mem), IM μ → (μ.1 0 28).toInt ≤ (μ.1 0 4).toInt → PgN μ → Fr frP true μ0 μ → 801 - (μ.1 0 4).toInt < m → ok (p_X12_readProgram_b14 m μ) (fun r => IM r.2 ∧ Fr frP true μ0 r.2 ∧ (r.1 = 0 ∨ (r.1 = 1 ∧ PgN r.2))) := by
  intro m
  induction m with
  | zero => intro μ hI _ _ _ h; have g := rgm_0_4 hI; omega
  | succ m ih =>
    intro μ hI hJ hP hF hm
    rw [p_X12_readProgram_b14_s]
    refine ok_ite (fun _ => ok_some ⟨hI, hF, Or.inr ⟨rfl, hP⟩⟩) (fun _ => ok_bd (k_readFunction μ hI hJ hP) ?_)
    rintro r μ1 ⟨hI1, hF1, h1⟩
    refine ok_ite (fun _ => ok_some ⟨hI1, hF.trans hF1, Or.inl rfl⟩) (fun hr => ?_)
    obtain ⟨_, h2, h3, h4⟩ := h1.resolve_left hr
    have h3 : (μ.1 0 4).toInt < (μ1.1 0 4).toInt := h3
    exact ih μ1 hI1 h2 h4 (hF.trans hF1) (by omega)
theorem k_readProgram (μ : Mem) (hI : IM μ) : ok (p_X12_readProgram μ) (fun r => IM r.2 ∧ Fr frP true μ r.2 ∧ (r.1 = 0 ∨ (r.1 = 1 ∧ PgN r.2))) := by
  rw [p_X12_readProgram_eq]
  refine ok_bw (ok_pk (k_X12_beginText μ hI) (Q := fun q => q = sF (sF μ 0 4 0) 0 5 (-1)) (by rw [p_X12_beginText_eq]; exact pk_bv (pk_bv (pk_some rfl)))) ?_
  rintro μ1 ⟨⟨hI1, hF1⟩, e1⟩
  have e0 : (0 : Int32).toInt = 0 := by decide
  refine ok_bv (fun μ3 em3 => ok_bv (fun μ4 em4 => ?_))
  have hI3 : IM μ3 := by rw [em3]; exact IM_F hI1 (rpm_0_27 (by rw [e0]; omega))
  have hI4 : IM μ4 := by rw [em4]; exact IM_F hI3 (rpm_0_28 (by rw [e0]; omega))
  have hF4 : Fr frP true μ μ4 := by
    rw [em4]; refine Fr.put ?_ (by decide +kernel)
    rw [em3]; refine Fr.put ?_ (by decide +kernel)
    exact Fr.mono hF1 (by decide +kernel) (fun h => h)
  have h28 : μ4.1 0 28 = 0 := by rw [em4, sF_v]
  have h27 : μ4.1 0 27 = 0 := by rw [em4, sF_k (by decide), em3, sF_v]
  have g4 := rgm_0_4 hI4
  refine k_readProgram_b14 μ _ μ4 hI4 (by rw [h28, e0]; omega) ?_ hF4 (by show _ < ((10000000000 : Nat) : Int); omega)
  have n27 : nv μ4 27 = 0 := by unfold nv; rw [h27]; decide
  have n28 : nv μ4 28 = 0 := by unfold nv; rw [h28]; decide
  unfold PgN
  rw [n27, n28]
  exact ⟨by omega, fun k hk => absurd hk (by omega), fun i j _ hj => absurd hj (by omega), Sh.nil⟩
/-- where what is behind each thing begins is right from p on -/
def Bh (μ : Mem) (p N : Nat) : Prop := ∀ r, p ≤ r → r < N → ∃ q, Sh (iv μ 9) 1 r q ∧ iv μ 10 r = (q : Int) ∧ q ≤ N
theorem k_layBehind_b17 (μ : Mem) (F N : Nat) (hS : Sh (iv μ 9) F 0 N) (hN : N ≤ 800) (K7 : Int32 → Mem → Option Mem) (Q : Mem → Prop) (p : Nat) (hp : p < N) (a1 : Int32) (ha1 : a1.toInt = (p : Int))
    (hK : ∀ μ1, IM μ1 → Fr [(1, 10, 0)] true μ μ1 → Bh μ1 p N → ok (K7 (a1 + (-1)) μ1) Q) (μ1 : Mem) (hI : IM μ1) (hF : Fr [(1, 10, 0)] true μ μ1) (hB : Bh μ1 (p + 1) N) :
    ∀ (m : Nat) (k q z : Nat) (a2 a3 : Int32), a2.toInt = (q : Int) → a3.toInt = (k : Int) → Sh (iv μ1 9) k (p + 1) q → Sh (iv μ1 9) z q N → (∃ K : Nat, iv μ1 9 p = (K : Int) ∧ k ≤ K ∧ ∃ e j, K = k + j ∧ Sh (iv μ1 9) j q e ∧ e ≤ N ∧ j < m) → ok (p_X12_layBehind_b17 K7 m a1 a2 a3 μ1) Q := by
  intro m
  have ea : a1.toNatClampNeg = p := tn_of ha1
  induction m with
  | zero => rintro k q z a2 a3 _ _ _ _ ⟨K, _, _, e, j, _, _, _, h⟩; omega
  | succ m ih =>
    rintro k q z a2 a3 h2 h3 hs1 hs2 ⟨K, hK1, hkK, e, j, hj, hs3, he, hjm⟩
    rw [p_X12_layBehind_b17_s, ea]
    refine ok_gd (inb_iff.mpr (by omega)) (ok_ite (fun hle => ok_gd (inb_iff.mpr (by omega)) (ok_bv (fun μ5 em5 => ok_bv (fun v6 ev6 => ?_)))) (fun hle => ?_))
    · rw [ti_le] at hle
      have hle : iv μ1 9 p ≤ a3.toInt := hle
      have ej : j = 0 := by omega
      subst ej
      rw [ev6]
      have e9 : ∀ i, iv μ5 9 i = iv μ1 9 i := fun i => by unfold iv; rw [em5, sF_i (by decide)]
      refine hK μ5 (by rw [em5]; exact IM_F hI (rtma_10 _ _)) (by rw [em5]; exact Fr.puta hF (by decide +kernel)) ?_
      intro r hr hrN
      by_cases er : r = p
      · subst er
        have l2 := hs2.le
        have lq := hs3.zero
        refine ⟨q, ?_, ?_, by omega⟩
        · exact (Sh.cons (k := K) hK1 (by rw [hj, Nat.add_zero]; exact hs1) Sh.nil).cong (fun i _ _ => e9 i)
        · unfold iv; rw [em5, sF_v]; exact h2
      · obtain ⟨q', b1, b2, b3⟩ := hB r (by omega) hrN
        refine ⟨q', b1.cong (fun i _ _ => e9 i), ?_, b3⟩
        unfold iv
        rw [em5, sF_k er]; exact b2
    · rw [ti_le] at hle
      have hle : ¬ iv μ1 9 p ≤ a3.toInt := hle
      obtain ⟨j', rfl⟩ : ∃ j', j = j' + 1 := ⟨j - 1, by omega⟩
      obtain ⟨q2, o1, o2⟩ := hs3.one
      have l1 := o1.le
      have l2 := o2.le
      have l3 := hs1.le
      have eq : a2.toNatClampNeg = q := tn_of h2
      rw [eq]
      obtain ⟨q3, b1, b2, b3⟩ := hB q (by omega) (by omega)
      have e23 := o1.det _ b1
      subst e23
      have hz : ∃ z', Sh (iv μ1 9) z' q2 N := by
        cases z with
        | zero => have := hs2.zero; omega
        | succ z =>
          obtain ⟨m2, c1, c2⟩ := hs2.one
          have := c1.det _ o1
          subst this
          exact ⟨z, c2⟩
      obtain ⟨z', hz'⟩ := hz
      have e1 : (1 : Int32).toInt = 1 := by decide
      have h5 := ti_hi (μ1.1 9 p)
      have h6 : (μ1.1 9 p).toInt = (K : Int) := hK1
      refine ok_gd (inb_iff.mpr (by omega)) (ok_bv (fun v7 ev7 => ok_bv (fun v8 ev8 => ?_)))
      exact ih (k + 1) q2 z' v7 v8 (by rw [ev7]; exact b2) (by rw [ev8, ti_add (by omega) (by omega), e1, h3]; omega) (hs1.app o1) hz' ⟨K, hK1, by omega, e, j', by omega, o2, he, by omega⟩
theorem sh_ahead {be : Nat → Int} {F N p : Nat} (h : Sh be F 0 N) (hp : p < N) : ∃ K e z : Nat, be p = (K : Int) ∧ Sh be K (p + 1) e ∧ e ≤ N ∧ Sh be z (p + 1) N := by
  refine Sh.ind (M := fun F a N => ∀ p, a ≤ p → p < N → ∃ K e z : Nat, be p = (K : Int) ∧ Sh be K (p + 1) e ∧ e ≤ N ∧ Sh be z (p + 1) N) ?_ ?_ h p (Nat.zero_le _) hp
  · intro a p h1 h2; omega
  · intro n a m q k hk x ix y iy p h1 h2
    have l1 := x.le
    have l2 := y.le
    by_cases e : p = a
    · subst e; exact ⟨k, m, k + n, hk, x, by omega, x.app y⟩
    · by_cases e2 : p < m
      · obtain ⟨K, e3, z, i1, i2, i3, i4⟩ := ix p (by omega) e2
        exact ⟨K, e3, z + n, i1, i2, by omega, i4.app y⟩
      · exact iy p (by omega) h2
theorem k_layBehind_b7 (μ : Mem) (F N : Nat) (hS : Sh (iv μ 9) F 0 N) (hN : N ≤ 800) : ∀ (m : Nat) (a1 : Int32) (p : Nat) (μ1 : Mem), a1.toInt = (p : Int) - 1 → p ≤ N → p < m → IM μ1 → Fr [(1, 10, 0)] true μ μ1 → Bh μ1 p N → ok (p_X12_layBehind_b7 m a1 μ1) (fun q => IM q ∧ Fr [(1, 10, 0)] true μ q ∧ Bh q 0 N) := by
  intro m
  induction m with
  | zero => intro a1 p μ1 _ _ h; omega
  | succ m ih =>
    intro a1 p μ1 h1 hp hm hI hF hB
    rw [p_X12_layBehind_b7_s]
    have e0 : (0 : Int32).toInt = 0 := by decide
    have e1 : (1 : Int32).toInt = 1 := by decide
    have em1 : (-1 : Int32).toInt = -1 := by decide
    refine ok_ite (fun hlt => ok_some ⟨hI, hF, ?_⟩) (fun hlt => ok_bv (fun v3 ev3 => ?_))
    · rw [ti_lt] at hlt
      have : p = 0 := by omega
      subst this; exact hB
    · rw [ti_lt] at hlt
      obtain ⟨p', rfl⟩ : ∃ p', p = p' + 1 := ⟨p - 1, by omega⟩
      have e9 : ∀ i, iv μ1 9 i = iv μ 9 i := fun i => congrArg Int32.toInt (hF.1 9 i (by simp [hit]))
      have hS1 : Sh (iv μ1 9) F 0 N := hS.cong (fun i _ _ => e9 i)
      obtain ⟨K, e, z, k1, k2, k3, k4⟩ := sh_ahead hS1 (p := p') (by omega)
      have h5 := ti_hi (μ1.1 9 p')
      have h6 : (μ1.1 9 p').toInt = (K : Int) := k1
      refine k_layBehind_b17 μ F N hS hN _ _ p' (by omega) a1 (by omega) (fun μ2 i1 i2 i3 => ?_) μ1 hI hF hB FUEL 0 (p' + 1) z v3 0 (by rw [ev3, ti_add (by omega) (by omega), e1]; omega) e0 Sh.nil k4 ⟨K, k1, by omega, e, K, by omega, k2, k3, by show _ < 10000000000; omega⟩
      exact ih _ p' μ2 (by rw [ti_add (by omega) (by omega), em1]; omega) (by omega) (by omega) i1 i2 i3
theorem k_layBehind (μ : Mem) (hI : IM μ) {F : Nat} (hS : Sh (iv μ 9) F 0 (nv μ 18)) : ok (p_X12_layBehind μ) (fun q => IM q ∧ Fr [(1, 10, 0)] true μ q ∧ Bh q 0 (nv μ 18)) := by
  rw [p_X12_layBehind_eq]
  have g := rgm_0_18 hI
  have n := ti_nat (a := μ.1 0 18) (by omega)
  have e1 : (1 : Int32).toInt = 1 := by decide
  have hn : nv μ 18 = (μ.1 0 18).toNatClampNeg := rfl
  refine ok_bv (fun v1 ev1 => k_layBehind_b7 μ F _ hS (by omega) _ v1 (nv μ 18) μ ?_ (by omega) (by show _ < 10000000000; omega) hI Fr.rf (fun r h1 h2 => absurd h2 (by omega)))
  rw [ev1, ti_sub (by omega) (by omega), e1]; omega
/-- the PROGRAM is well -/
def PW (μ : Mem) : Prop := Pg (iv μ 2) (iv μ 3) (iv μ 4) (iv μ 5) (iv μ 6) (iv μ 7) (iv μ 8) (iv μ 9) (nv μ 17) (nv μ 18) ∧ Bh μ 0 (nv μ 18)
theorem t_copy {μ : Mem} (hI : IM μ) (a b : Nat) (n : Int32) (na nb : Nat) (q0 : sh 1 a = (1, na)) (q3 : sh 1 b = (1, nb)) (h1 : n.toInt ≤ (na : Int)) (h2 : n.toInt ≤ (nb : Int)) (hb : (b ≠ 19 ∧ b ≠ 35 ∧ b ≠ 36 ∧ b ≠ 40 ∧ b ≠ 45 ∧ b ≠ 56 ∧ b ≠ 57 ∧ b ≠ 58 ∧ b ≠ 62 ∧ b ≠ 63 ∧ b ≠ 69 ∧ b ≠ 72 ∧ b ≠ 76 ∧ b ≠ 16 ∧ b ≠ 17 ∧ a ≠ b)) : ok (p_X12_copy a 0 n b 0 μ) (fun q => IM q ∧ Fr [(1, b, 0)] true μ q ∧ ∀ k : Nat, (k : Int) < n.toInt → iv q b k = iv μ a k) := by
  have e0 : (0 : Int32).toInt = 0 := by decide
  refine ok_mono (k_X12_copy a (by rw [q0]) 0 n b (by rw [q3]) 0 μ hI ⟨by decide, by decide, by rw [q0, e0]; omega, by rw [q3, e0]; omega, hb⟩) ?_
  rintro q ⟨c1, c2, c3, _⟩
  refine ⟨c1, c2, fun k hk => ?_⟩
  have := c3 k hk
  simp only [e0, Int.toNat_zero, Nat.zero_add] at this
  exact congrArg Int32.toInt this
def frQ : List (Nat × Nat × Nat) := frP ++ [(0, 0, 3), (0, 0, 95), (0, 0, 17), (0, 0, 18), (1, 2, 0), (1, 3, 0), (1, 4, 0), (1, 5, 0), (1, 6, 0), (1, 7, 0), (1, 8, 0), (1, 9, 0), (1, 10, 0)]
def frP3 : List (Nat × Nat × Nat) := frP ++ [(0, 0, 3)]
set_option maxHeartbeats 4000000 in
theorem k_program (μ : Mem) (hI : IM μ) : ok (p_X12_program μ) (fun r => IM r.2 ∧ (r.2.1 0 3).toInt = 0 ∧ (Fr frP3 true μ r.2 ∨ (Fr frQ true μ r.2 ∧ r.2.1 0 95 = 0 ∧ PW r.2))) := by
  rw [p_X12_program_eq]
  have e0 : (0 : Int32).toInt = 0 := by decide
  have e5 : (5 : Int32).toInt = 5 := by decide
  refine ok_bd (k_readProgram μ hI) ?_
  rintro r μ1 ⟨hI1, hF1, h1⟩
  have hI1 : IM μ1 := hI1
  have hF1 : Fr frP true μ μ1 := hF1
  refine ok_bv (fun μ3 em3 => ?_)
  have hI3 : IM μ3 := by rw [em3]; exact IM_F hI1 (rpm_0_3 (by rw [e0]; omega))
  refine ok_ite (fun _ => ok_some ⟨hI3, by show (μ3.1 0 3).toInt = 0; rw [em3, sF_v]; exact e0, Or.inl ?_⟩) (fun hr => ?_)
  · show Fr frP3 true μ μ3
    rw [em3]
    exact Fr.put (Fr.mono hF1 (by decide +kernel) (fun h => h)) (by decide +kernel)
  have hP := (h1.resolve_left hr).2
  have hP : PgN μ1 := hP
  obtain ⟨P1, P2, P3, P4⟩ := hP
  refine ok_bv (fun μ5 em5 => ok_bv (fun μ6 em6 => ok_bv (fun μ7 em7 => ?_)))
  have hI5 : IM μ5 := by rw [em5]; exact IM_F hI3 (rtm_0_95 _)
  have g27 := rgm_0_27 hI5
  have hI6 : IM μ6 := by rw [em6]; exact IM_F hI5 (rpm_0_17 g27)
  have g28 := rgm_0_28 hI6
  have hI7 : IM μ7 := by rw [em7]; exact IM_F hI6 (rpm_0_18 g28)
  have F7 : Fr frQ true μ μ7 := by
    rw [em7]; refine Fr.put ?_ (by decide +kernel)
    rw [em6]; refine Fr.put ?_ (by decide +kernel)
    rw [em5]; refine Fr.put ?_ (by decide +kernel)
    rw [em3]; refine Fr.put ?_ (by decide +kernel)
    exact Fr.mono hF1 (by decide +kernel) (fun h => h)
  have e17 : μ7.1 0 17 = μ1.1 0 27 := by
    rw [em7, sF_k (by decide), em6, sF_v, em5, sF_k (by decide), em3, sF_k (by decide)]
  have e18 : μ7.1 0 18 = μ1.1 0 28 := by
    rw [em7, sF_v, em6, sF_k (by decide), em5, sF_k (by decide), em3, sF_k (by decide)]
  have e95 : μ7.1 0 95 = 0 := by
    rw [em7, sF_k (by decide), em6, sF_k (by decide), em5, sF_v]
  have e3 : μ7.1 0 3 = 0 := by
    rw [em7, sF_k (by decide), em6, sF_k (by decide), em5, sF_k (by decide), em3, sF_v]
  have a7 : ∀ c, c ≠ 0 → ∀ i, iv μ7 c i = iv μ1 c i := by
    intro c hc i
    unfold iv
    rw [em7, sF_i hc, em6, sF_i hc, em5, sF_i hc, em3, sF_i hc]
  have g27 := rgm_0_27 hI1
  have g28 := rgm_0_28 hI1
  have n27 := ti_nat (a := μ1.1 0 27) (by omega)
  have n28 := ti_nat (a := μ1.1 0 28) (by omega)
  have nF : nv μ1 27 = (μ1.1 0 27).toNatClampNeg := rfl
  have nN : nv μ1 28 = (μ1.1 0 28).toNatClampNeg := rfl
  rw [e17]
  refine ok_bw (t_copy hI7 11 2 (μ1.1 0 27) 73 73 shm_11 shm_2 (by omega) (by omega) (by decide)) ?_
  rintro μ8 ⟨hI8, F8, c8⟩
  have f8 : ∀ k, μ8.1 0 k = μ7.1 0 k := fun k => F8.1 0 k (by simp [hit])
  rw [f8, e17]
  refine ok_bw (t_copy hI8 12 3 (μ1.1 0 27) 73 73 shm_12 shm_3 (by omega) (by omega) (by decide)) ?_
  rintro μ10 ⟨hI10, F10, c10⟩
  have f10 : ∀ k, μ10.1 0 k = μ7.1 0 k := fun k => (F10.1 0 k (by simp [hit])).trans (f8 k)
  rw [f10, e17]
  have t5 : ((5 : Int32) * (μ1.1 0 27)).toInt = 5 * (μ1.1 0 27).toInt := by rw [ti_mul (by rw [e5]; omega) (by rw [e5]; omega), e5]
  refine ok_bw (t_copy hI10 13 4 ((5 : Int32) * (μ1.1 0 27)) 365 365 shm_13 shm_4 (by rw [t5]; omega) (by rw [t5]; omega) (by decide)) ?_
  rintro μ12 ⟨hI12, F12, c12⟩
  have f12 : ∀ k, μ12.1 0 k = μ7.1 0 k := fun k => (F12.1 0 k (by simp [hit])).trans (f10 k)
  rw [f12, e17]
  refine ok_bw (t_copy hI12 14 5 (μ1.1 0 27) 73 73 shm_14 shm_5 (by omega) (by omega) (by decide)) ?_
  rintro μ14 ⟨hI14, F14, c14⟩
  have f14 : ∀ k, μ14.1 0 k = μ7.1 0 k := fun k => (F14.1 0 k (by simp [hit])).trans (f12 k)
  rw [f14, e17]
  refine ok_bw (t_copy hI14 15 6 (μ1.1 0 27) 73 73 shm_15 shm_6 (by omega) (by omega) (by decide)) ?_
  rintro μ16 ⟨hI16, F16, c16⟩
  have f16 : ∀ k, μ16.1 0 k = μ7.1 0 k := fun k => (F16.1 0 k (by simp [hit])).trans (f14 k)
  rw [f16, e18]
  refine ok_bw (t_copy hI16 16 7 (μ1.1 0 28) 800 800 shm_16 shm_7 (by omega) (by omega) (by decide)) ?_
  rintro μ18 ⟨hI18, F18, c18⟩
  have f18 : ∀ k, μ18.1 0 k = μ7.1 0 k := fun k => (F18.1 0 k (by simp [hit])).trans (f16 k)
  rw [f18, e18]
  refine ok_bw (t_copy hI18 17 8 (μ1.1 0 28) 800 800 shm_17 shm_8 (by omega) (by omega) (by decide)) ?_
  rintro μ20 ⟨hI20, F20, c20⟩
  have f20 : ∀ k, μ20.1 0 k = μ7.1 0 k := fun k => (F20.1 0 k (by simp [hit])).trans (f18 k)
  rw [f20, e18]
  refine ok_bw (t_copy hI20 18 9 (μ1.1 0 28) 800 800 shm_18 shm_9 (by omega) (by omega) (by decide)) ?_
  rintro μ22 ⟨hI22, F22, c22⟩
  have f22 : ∀ k, μ22.1 0 k = μ7.1 0 k := fun k => (F22.1 0 k (by simp [hit])).trans (f20 k)
  -- the rows
  have g8 : ∀ c, c ≠ 2 → ∀ i, iv μ8 c i = iv μ7 c i := fun c h i => congrArg Int32.toInt (F8.1 c i (by simp [hit, h]))
  have g10 : ∀ c, c ≠ 3 → ∀ i, iv μ10 c i = iv μ8 c i := fun c h i => congrArg Int32.toInt (F10.1 c i (by simp [hit, h]))
  have g12 : ∀ c, c ≠ 4 → ∀ i, iv μ12 c i = iv μ10 c i := fun c h i => congrArg Int32.toInt (F12.1 c i (by simp [hit, h]))
  have g14 : ∀ c, c ≠ 5 → ∀ i, iv μ14 c i = iv μ12 c i := fun c h i => congrArg Int32.toInt (F14.1 c i (by simp [hit, h]))
  have g16 : ∀ c, c ≠ 6 → ∀ i, iv μ16 c i = iv μ14 c i := fun c h i => congrArg Int32.toInt (F16.1 c i (by simp [hit, h]))
  have g18 : ∀ c, c ≠ 7 → ∀ i, iv μ18 c i = iv μ16 c i := fun c h i => congrArg Int32.toInt (F18.1 c i (by simp [hit, h]))
  have g20 : ∀ c, c ≠ 8 → ∀ i, iv μ20 c i = iv μ18 c i := fun c h i => congrArg Int32.toInt (F20.1 c i (by simp [hit, h]))
  have g22 : ∀ c, c ≠ 9 → ∀ i, iv μ22 c i = iv μ20 c i := fun c h i => congrArg Int32.toInt (F22.1 c i (by simp [hit, h]))
  have z2 : ∀ k : Nat, k < nv μ1 27 → iv μ22 2 k = iv μ1 11 k := fun k hk => by
    rw [g22 _ (by decide), g20 _ (by decide), g18 _ (by decide), g16 _ (by decide), g14 _ (by decide), g12 _ (by decide), g10 _ (by decide), c8 k (by omega), a7 _ (by decide)]
  have z3 : ∀ k : Nat, k < nv μ1 27 → iv μ22 3 k = iv μ1 12 k := fun k hk => by
    rw [g22 _ (by decide), g20 _ (by decide), g18 _ (by decide), g16 _ (by decide), g14 _ (by decide), g12 _ (by decide), c10 k (by omega), g8 _ (by decide), a7 _ (by decide)]
  have z4 : ∀ k : Nat, k < 5 * nv μ1 27 → iv μ22 4 k = iv μ1 13 k := fun k hk => by
    rw [g22 _ (by decide), g20 _ (by decide), g18 _ (by decide), g16 _ (by decide), g14 _ (by decide), c12 k (by rw [t5]; omega), g10 _ (by decide), g8 _ (by decide), a7 _ (by decide)]
  have z5 : ∀ k : Nat, k < nv μ1 27 → iv μ22 5 k = iv μ1 14 k := fun k hk => by
    rw [g22 _ (by decide), g20 _ (by decide), g18 _ (by decide), g16 _ (by decide), c14 k (by omega), g12 _ (by decide), g10 _ (by decide), g8 _ (by decide), a7 _ (by decide)]
  have z6 : ∀ k : Nat, k < nv μ1 27 → iv μ22 6 k = iv μ1 15 k := fun k hk => by
    rw [g22 _ (by decide), g20 _ (by decide), g18 _ (by decide), c16 k (by omega), g14 _ (by decide), g12 _ (by decide), g10 _ (by decide), g8 _ (by decide), a7 _ (by decide)]
  have z7 : ∀ k : Nat, k < nv μ1 28 → iv μ22 7 k = iv μ1 16 k := fun k hk => by
    rw [g22 _ (by decide), g20 _ (by decide), c18 k (by omega), g16 _ (by decide), g14 _ (by decide), g12 _ (by decide), g10 _ (by decide), g8 _ (by decide), a7 _ (by decide)]
  have z8 : ∀ k : Nat, k < nv μ1 28 → iv μ22 8 k = iv μ1 17 k := fun k hk => by
    rw [g22 _ (by decide), c20 k (by omega), g18 _ (by decide), g16 _ (by decide), g14 _ (by decide), g12 _ (by decide), g10 _ (by decide), g8 _ (by decide), a7 _ (by decide)]
  have z9 : ∀ k : Nat, k < nv μ1 28 → iv μ22 9 k = iv μ1 18 k := fun k hk => by
    rw [c22 k (by omega), g20 _ (by decide), g18 _ (by decide), g16 _ (by decide), g14 _ (by decide), g12 _ (by decide), g10 _ (by decide), g8 _ (by decide), a7 _ (by decide)]
  have n18 : nv μ22 18 = nv μ1 28 := by unfold nv; rw [f22, e18]
  have n17 : nv μ22 17 = nv μ1 27 := by unfold nv; rw [f22, e17]
  have hS : Sh (iv μ22 9) (nv μ1 27) 0 (nv μ22 18) := by rw [n18]; exact P4.cong (fun j _ hj => z9 j hj)
  refine ok_bw (k_layBehind μ22 hI22 hS) ?_
  rintro μ24 ⟨hI24, F24, B24⟩
  have f24 : ∀ k, μ24.1 0 k = μ7.1 0 k := fun k => (F24.1 0 k (by simp [hit])).trans (f22 k)
  have g24 : ∀ c, c ≠ 10 → ∀ i, iv μ24 c i = iv μ22 c i := fun c h i => congrArg Int32.toInt (F24.1 c i (by simp [hit, h]))
  have m18 : nv μ24 18 = nv μ1 28 := by unfold nv; rw [f24, e18]
  have m17 : nv μ24 17 = nv μ1 27 := by unfold nv; rw [f24, e17]
  have mm : ∀ {L : List (Nat × Nat × Nat)} {μ1 μ2 : Mem}, Fr L true μ1 μ2 → L.all (fun t => frQ.contains t) = true → Fr frQ true μ1 μ2 := fun h h2 => Fr.mono h h2 (fun h => h)
  refine ok_some ⟨hI24, by show (μ24.1 0 3).toInt = 0; rw [f24, e3]; exact e0, Or.inr ⟨?_, by show μ24.1 0 95 = 0; rw [f24, e95], ?_, ?_⟩⟩
  · exact (((((((((F7.trans (mm F8 (by decide +kernel))).trans (mm F10 (by decide +kernel))).trans (mm F12 (by decide +kernel))).trans (mm F14 (by decide +kernel))).trans (mm F16 (by decide +kernel))).trans (mm F18 (by decide +kernel))).trans (mm F20 (by decide +kernel))).trans (mm F22 (by decide +kernel))).trans (mm F24 (by decide +kernel)))
  · show Pg (iv μ24 2) (iv μ24 3) (iv μ24 4) (iv μ24 5) (iv μ24 6) (iv μ24 7) (iv μ24 8) (iv μ24 9) (nv μ24 17) (nv μ24 18)
    rw [m17, m18]
    refine ⟨P1, fun k hk => ?_, fun i j hij hj => ?_, ?_⟩
    · refine (P2 k hk).cong (by rw [g24 _ (by decide)]; exact z2 k hk) (by rw [g24 _ (by decide)]; exact z3 k hk) (fun i hi => by rw [g24 _ (by decide)]; exact z4 _ (by omega)) (by rw [g24 _ (by decide)]; exact z5 k hk) (by rw [g24 _ (by decide)]; exact z6 k hk) (fun i hi => ⟨by rw [g24 _ (by decide)]; exact z7 i hi, by rw [g24 _ (by decide)]; exact z8 i hi, by rw [g24 _ (by decide)]; exact z9 i hi⟩) (Nat.le_refl _)
    · rw [g24 _ (by decide), g24 _ (by decide), g24 _ (by decide), g24 _ (by decide), z2 i (by omega), z2 j hj, z3 i (by omega), z3 j hj]
      exact P3 i j hij hj
    · exact P4.cong (fun j _ hj => by rw [g24 _ (by decide)]; exact z9 j hj)
  · show Bh μ24 0 (nv μ24 18)
    rw [m18, ← n18]; exact B24
