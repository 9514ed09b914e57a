/-! VARIANTS BY THEIR PATTERNS -/
theorem bp_c {s t : Nat → Int} {i j : Nat} (h : s i = t j) : bp s i = bp t j := by unfold bp; rw [h]
theorem k_starsMade {μ : Mem} (h0 : 0 ≤ (μ.1 0 118).toInt) (h2 : nv μ 118 ≤ 210) : ok (p_X12_starsMade μ) (fun r => r.1.toInt = (c3 (iv μ 67) (nv μ 118) : Int) ∧ r.2 = μ) := by
  rw [p_X12_starsMade_eq]
  have e0 : (0 : Int32).toInt = 0 := by decide
  have e1 : (1 : Int32).toInt = 1 := by decide
  have e3 : (3 : Int32).toInt = 3 := by decide
  have m118 := ti_nat (a := μ.1 0 118) h0
  have em118 : nv μ 118 = (μ.1 0 118).toNatClampNeg := rfl
  have loop : ∀ (m : Nat) (a1 a2 : Int32) (i : Nat), a2.toInt = (i : Int) → a1.toInt = (c3 (iv μ 67) i : Int) → i ≤ nv μ 118 → nv μ 118 < m + i → ok (p_X12_starsMade_b4 m a1 a2 μ) (fun r => r.1.toInt = (c3 (iv μ 67) (nv μ 118) : Int) ∧ r.2 = μ) := by
    intro m
    induction m with
    | zero => intro a1 a2 i _ _ h1 h2; omega
    | succ m ih =>
      intro a1 a2 i ha2 ha1 hi hm
      rw [p_X12_starsMade_b4_s]
      have hcl := c3_le (iv μ 67) i
      refine ok_ite (fun hle => ok_some ⟨?_, rfl⟩) (fun hle => ?_)
      · rw [ti_le] at hle
        have : i = nv μ 118 := by omega
        rw [← this]; exact ha1
      · rw [ti_le] at hle
        rw [tn_of ha2]
        have hc : c3 (iv μ 67) (i + 1) = c3 (iv μ 67) i + (if iv μ 67 i = 3 then 1 else 0) := rfl
        refine ok_gd (inb_iff.mpr (by omega)) (ok_ite (fun h3 => ?_) (fun h3 => ?_))
        · rw [p_X12_starsMade_b28_eq]
          have h3' : iv μ 67 i = 3 := by unfold iv; rw [h3]; exact e3
          rw [if_pos h3'] at hc
          refine ok_bv (fun v3 ev3 => ok_bv (fun v4 ev4 => ih v3 v4 (i + 1) ?_ ?_ (by omega) (by omega)))
          · rw [ev4, ti_add (by omega) (by omega), e1, ha2]; omega
          · rw [ev3, ti_add (by omega) (by omega), e1, ha1]; omega
        · rw [p_X12_starsMade_b28_eq]
          have h3' : iv μ 67 i ≠ 3 := fun h => h3 (ti_eq.mpr (by rw [e3]; exact h))
          rw [if_neg h3'] at hc
          refine ok_bv (fun v3 ev3 => ok_bv (fun v4 ev4 => ih v3 v4 (i + 1) ?_ ?_ (by omega) (by omega)))
          · rw [ev4, ti_add (by omega) (by omega), e1, ha2]; omega
          · rw [ev3, ti_add (by omega) (by omega), e0, ha1]; omega
  exact loop FUEL 0 0 0 e0 e0 (by omega) (by show _ < 10000000000 + _; omega)
theorem k_isPattern {μ : Mem} (h0 : 0 ≤ (μ.1 0 118).toInt) (h2 : nv μ 118 ≤ 200) {a f : Int32} {v : Nat} (ha : a.toInt = (v : Int)) (hv : v < 25) : ok (p_X12_isPattern a f μ) (fun r => r.2 = μ ∧ (r.1 = 0 ∨ (r.1 = 1 ∧ μ.1 57 v = f ∧ iv μ 58 v = (nv μ 118 : Int) ∧ ∀ p, p < nv μ 118 → iv μ 60 (210 * v + p) = iv μ 67 p))) := by
  rw [p_X12_isPattern_eq, tn_of ha]
  have e0 : (0 : Int32).toInt = 0 := by decide
  have e1 : (1 : Int32).toInt = 1 := by decide
  have e210 : (210 : Int32).toInt = 210 := by decide
  have m118 := ti_nat (a := μ.1 0 118) h0
  have em118 : nv μ 118 = (μ.1 0 118).toNatClampNeg := rfl
  have t210 : ((210 : Int32) * a).toInt = 210 * (v : Int) := by rw [ti_mul (by rw [e210, ha]; omega) (by rw [e210, ha]; omega), e210, ha]
  have loop : ∀ (m : Nat) (a3 : Int32) (i : Nat), a3.toInt = (i : Int) → i ≤ nv μ 118 → nv μ 118 < m + i → (∀ p, p < i → iv μ 60 (210 * v + p) = iv μ 67 p) → ok (p_X12_isPattern_b27 m a a3 μ) (fun r => r.2 = μ ∧ (r.1 = 0 ∨ (r.1 = 1 ∧ ∀ p, p < nv μ 118 → iv μ 60 (210 * v + p) = iv μ 67 p))) := by
    intro m
    induction m with
    | zero => intro a3 i _ h1 h2; omega
    | succ m ih =>
      intro a3 i ha3 hi hm hk
      rw [p_X12_isPattern_b27_s]
      refine ok_ite (fun hle => ok_some ⟨rfl, Or.inr ⟨rfl, fun p hp => hk p ?_⟩⟩) (fun hle => ?_)
      · rw [ti_le] at hle; omega
      · rw [ti_le] at hle
        have ti : ((210 : Int32) * a + a3).toInt = ((210 * v + i : Nat) : Int) := by rw [ti_add (by omega) (by omega), t210, ha3]; omega
        rw [tn_of ti, tn_of ha3]
        have b1 : inb ((210 : Int32) * a + a3) 5250 = true := inb_iff.mpr (by omega)
        have b2 : inb a3 210 = true := inb_iff.mpr (by omega)
        refine ok_gd b1 (ok_gd b2 (ok_ite (fun h => ok_gd b1 (ok_gd b2 (ok_ite (fun _ => ok_bv (fun v6 ev6 => ih v6 (i + 1) ?_ (by omega) (by omega) (fun p hp => ?_))) (fun _ => ok_some ⟨rfl, Or.inl rfl⟩)))) (fun _ => ok_some ⟨rfl, Or.inl rfl⟩)))
        · rw [ev6, ti_add (by omega) (by omega), e1, ha3]; omega
        · by_cases e : p = i
          · rw [e]; unfold iv; rw [h]
          · exact hk p (by omega)
  have b25 : inb a 25 = true := inb_iff.mpr (by omega)
  refine ok_gd b25 (ok_ite (fun h57 => ok_gd b25 (ok_ite (fun h58 => ?_) (fun _ => ok_some ⟨rfl, Or.inl rfl⟩))) (fun _ => ok_some ⟨rfl, Or.inl rfl⟩))
  refine ok_mono (loop FUEL 0 0 e0 (by omega) (by show _ < 10000000000 + _; omega) (fun p hp => absurd hp (by omega))) ?_
  rintro r ⟨r1, r2 | ⟨r2, r3⟩⟩
  · exact ⟨r1, Or.inl r2⟩
  · refine ⟨r1, Or.inr ⟨r2, h57, ?_, r3⟩⟩
    unfold iv; rw [h58]; omega
theorem k_variantBy {μ : Mem} (hI : IM μ) (h0 : 0 ≤ (μ.1 0 118).toInt) (h2 : nv μ 118 ≤ 200) (f : Int32) : ok (p_X12_variantBy f μ) (fun r => r.2 = μ ∧ (r.1 = -1 ∨ ∃ v : Nat, r.1.toInt = (v : Int) ∧ v < nv μ 110 ∧ μ.1 57 v = f ∧ iv μ 58 v = (nv μ 118 : Int) ∧ ∀ p, p < nv μ 118 → iv μ 60 (210 * v + p) = iv μ 67 p)) := by
  rw [p_X12_variantBy_eq]
  have e0 : (0 : Int32).toInt = 0 := by decide
  have e1 : (1 : Int32).toInt = 1 := by decide
  have g110 := rgm_0_110 hI
  have m110 := ti_nat (a := μ.1 0 110) (by omega)
  have em110 : nv μ 110 = (μ.1 0 110).toNatClampNeg := rfl
  have loop : ∀ (m : Nat) (a2 : Int32) (i : Nat), a2.toInt = (i : Int) → i ≤ nv μ 110 → nv μ 110 < m + i → ok (p_X12_variantBy_b2 m f a2 μ) (fun r => r.2 = μ ∧ (r.1 = -1 ∨ ∃ v : Nat, r.1.toInt = (v : Int) ∧ v < nv μ 110 ∧ μ.1 57 v = f ∧ iv μ 58 v = (nv μ 118 : Int) ∧ ∀ p, p < nv μ 118 → iv μ 60 (210 * v + p) = iv μ 67 p)) := by
    intro m
    induction m with
    | zero => intro a2 i _ h1 h2; omega
    | succ m ih =>
      intro a2 i ha hi hm
      rw [p_X12_variantBy_b2_s]
      refine ok_ite (fun _ => ok_some ⟨rfl, Or.inl rfl⟩) (fun hle => ?_)
      rw [ti_le] at hle
      refine ok_bd (k_isPattern h0 h2 (f := f) ha (by omega)) ?_
      rintro r3 μ2 ⟨q1, q2⟩
      have q1 : μ = μ2 := Eq.symm q1
      subst q1
      refine ok_ite (fun _ => ok_bv (fun v5 ev5 => ih v5 (i + 1) ?_ (by omega) (by omega))) (fun h => ok_some ⟨rfl, Or.inr ⟨i, ha, by omega, ?_⟩⟩)
      · rw [ev5, ti_add (by omega) (by omega), e1, ha]; omega
      · rcases q2 with q2 | ⟨_, q3⟩
        · exact absurd q2 h
        · exact q3
  exact loop FUEL 0 0 e0 (by omega) (by show _ < 10000000000 + _; omega)
theorem k_variantsOf {μ : Mem} (hI : IM μ) (f : Int32) : ok (p_X12_variantsOf f μ) (fun r => r.2 = μ) := by
  rw [p_X12_variantsOf_eq]
  have e1 : (1 : Int32).toInt = 1 := by decide
  have g110 := rgm_0_110 hI
  have m110 := ti_nat (a := μ.1 0 110) (by omega)
  have em110 : nv μ 110 = (μ.1 0 110).toNatClampNeg := rfl
  have loop : ∀ (m : Nat) (a2 a3 : Int32) (i : Nat), a3.toInt = (i : Int) → i ≤ nv μ 110 → nv μ 110 < m + i → ok (p_X12_variantsOf_b4 m f a2 a3 μ) (fun r => r.2 = μ) := by
    intro m
    induction m with
    | zero => intro a2 a3 i _ h1 h2; omega
    | succ m ih =>
      intro a2 a3 i ha hi hm
      rw [p_X12_variantsOf_b4_s]
      refine ok_ite (fun _ => ok_some rfl) (fun hle => ?_)
      rw [ti_le] at hle
      have nx : ∀ k0, ok (p_X12_variantsOf_b28 (p_X12_variantsOf_b4 m) f a3 k0 a2 μ) (fun r => r.2 = μ) := by
        intro k0
        rw [p_X12_variantsOf_b28_eq]
        exact ok_bv (fun v3 _ => ok_bv (fun v4 ev4 => ih v3 v4 (i + 1) (by rw [ev4, ti_add (by omega) (by omega), e1, ha]; omega) (by omega) (by omega)))
      exact ok_gd (inb_iff.mpr (by omega)) (ok_ite (fun _ => nx _) (fun _ => nx _))
  exact loop FUEL 0 0 0 (by decide) (by omega) (by show _ < 10000000000 + _; omega)
def frSt : List (Nat × Nat × Nat) := [(0, 0, 118), (1, 67, 0), (1, 68, 0), (1, 69, 0)]
theorem c3_all {s : Nat → Int} : ∀ n, (∀ i, i < n → s i = 3) → c3 s n = n := by
  intro n
  induction n with
  | zero => intro _; rfl
  | succ n ih => intro h; unfold c3; rw [ih (fun i hi => h i (by omega)), if_pos (h n (by omega))]
theorem k_layStars {μ : Mem} (hI : IM μ) {V : Nat → Prop} {l : List Nat} (hl1 : Lst (iv μ 45) 0 l) (hl5 : l.length ≤ 5) (hl3 : ∀ x, x ∈ l → Gd μ V x) {a : Int32} (ha : a.toInt = (l.length : Int)) : ok (p_X12_layStars a μ) (fun q => IM q ∧ Fr frSt true μ q ∧ Md q V l.length ∧ c3 (iv q 67) (nv q 118) ≤ 5) := by
  rw [p_X12_layStars_eq]
  have e0 : (0 : Int32).toInt = 0 := by decide
  have e1 : (1 : Int32).toInt = 1 := by decide
  have e3 : (3 : Int32).toInt = 3 := by decide
  have loop : ∀ (m : Nat) (a2 : Int32) (i : Nat) (μ1 : Mem), a2.toInt = (i : Int) → i ≤ l.length → l.length < m + i → IM μ1 → Fr frSt true μ μ1 → (∀ k, k < i → iv μ1 67 k = 3 ∧ iv μ1 69 k = iv μ 45 k) → ok (p_X12_layStars_b2 m a a2 μ1) (fun q => IM q ∧ Fr frSt true μ q ∧ Md q V l.length ∧ c3 (iv q 67) (nv q 118) ≤ 5) := by
    intro m
    induction m with
    | zero => intro a2 i μ1 _ h1 h2; omega
    | succ m ih =>
      intro a2 i μ1 ha2 hi hm hI1 F1 hk
      rw [p_X12_layStars_b2_s]
      refine ok_ite (fun hle => ok_bv (fun μ2 em2 => ok_some ?_)) (fun hle => ?_)
      · rw [ti_le] at hle
        have hil : i = l.length := by omega
        have F2 : Fr frSt true μ μ2 := by rw [em2]; exact Fr.put F1 (by decide +kernel)
        have n2 : nv μ2 118 = l.length := tn_of (by rw [em2, sF_v]; exact ha)
        have k67 : ∀ k, k < l.length → iv μ2 67 k = 3 ∧ iv μ2 69 k = iv μ 45 k := by
          intro k hk2
          rw [em2]; exact hk k (by omega)
        have G2 := F2.gr (by decide +kernel)
        refine ⟨by rw [em2]; exact IM_F hI1 (rtm_0_118 _), F2, ⟨by rw [em2, sF_v]; omega, by omega, ?_, ?_, ?_⟩, ?_⟩
        · rw [n2]
          have gen : ∀ (n p : Nat), p + n = l.length → Sw (bp (iv μ2 67)) n p l.length := by
            intro n
            induction n with
            | zero => intro p hp; show p = _; omega
            | succ n ihn =>
              intro p hp
              refine ⟨p + 1, Sh.cons (k := 0) ?_ Sh.nil Sh.nil, by omega, ihn (p + 1) (by omega)⟩
              unfold bp
              rw [(k67 p (by omega)).1]; rfl
          exact gen l.length 0 (by omega)
        · rw [n2]; intro p hp; rw [(k67 p hp).1]; omega
        · rw [n2]
          intro p hp
          obtain ⟨x, h1, h2⟩ := hl1.get p hp
          rw [Nat.zero_add] at h2
          exact ⟨x, by rw [(k67 p hp).2]; exact h2, (hl3 x h1).gr G2⟩
        · rw [n2, c3_all _ (fun i hi => (k67 i hi).1)]; exact hl5
      · rw [ti_le] at hle
        rw [tn_of ha2]
        have b1 : inb a2 210 = true := inb_iff.mpr (by omega)
        refine ok_gd b1 (ok_bv (fun μ3 em3 => ok_gd b1 (ok_bv (fun μ4 em4 => ok_gd (inb_iff.mpr (by omega)) (ok_gd b1 (ok_bv (fun μ5 em5 => ok_bv (fun v6 ev6 => ?_))))))))
        have hI3 : IM μ3 := by rw [em3]; exact IM_F hI1 (rtma_67 _ _)
        have hI4 : IM μ4 := by rw [em4]; exact IM_F hI3 (rtma_68 _ _)
        have g45 := rgm_45 hI4 i
        have hI5 : IM μ5 := by rw [em5]; exact IM_F hI4 (rpm_69 g45)
        have F5 : Fr frSt true μ μ5 := by
          rw [em5]; refine Fr.puta ?_ (by decide +kernel)
          rw [em4]; refine Fr.puta ?_ (by decide +kernel)
          rw [em3]; exact Fr.puta F1 (by decide +kernel)
        refine ih v6 (i + 1) μ5 (by rw [ev6, ti_add (by omega) (by omega), e1, ha2]; omega) (by omega) (by omega) hI5 F5 (fun k hk2 => ?_)
        have z45 : μ4.1 45 i = μ.1 45 i := by rw [em4, sF_i (by decide), em3, sF_i (by decide)]; exact F1.1 45 i (na_a (by decide) i)
        by_cases e : k = i
        · unfold iv
          rw [e, em5, sF_i (by decide), sF_v, em4, sF_i (by decide), em3, sF_v]
          refine ⟨e3, ?_⟩
          have : (sF (sF μ1 67 i 3) 68 i 0).1 45 i = μ.1 45 i := by rw [← em3, ← em4]; exact z45
          rw [this]
        · unfold iv
          rw [em5, sF_i (by decide), sF_k e, em4, sF_i (by decide), sF_i (by decide), em3, sF_k e, sF_i (by decide)]
          exact hk k (by omega)
  exact loop FUEL 0 0 μ e0 (by omega) (by show _ < 10000000000 + _; omega) hI Fr.rf (fun k hk => absurd hk (by omega))
def frNv : List (Nat × Nat × Nat) := [(0, 0, 68), (0, 0, 110), (1, 57, 0), (1, 58, 0), (1, 59, 0), (1, 60, 0), (1, 61, 0), (1, 66, 0)]
set_option maxHeartbeats 2000000 in
theorem k_newVariant {μ : Mem} (hI : IM μ) (hVP : VP μ) {V : Nat → Prop} {n f : Nat} (hMd : Md μ V n) (hf : f < nv μ 17) (hn : iv μ 3 f = (n : Int)) (hc8 : c3 (iv μ 67) (nv μ 118) ≤ 8) {a1 a2 : Int32} (h1 : a1.toInt = (f : Int)) (h2 : a2.toInt = -1 ∨ ∃ w : Nat, w < nv μ 110 ∧ a2.toInt = (w : Int)) : ok (p_X12_newVariant a1 a2 μ) (fun q => IM q.2 ∧ Fr frNv true μ q.2 ∧ (q.2.1 0 68 ≠ 0 ∨ (q.2.1 0 68 = μ.1 0 68 ∧ q.1.toInt = (nv μ 110 : Int) ∧ nv q.2 110 = nv μ 110 + 1 ∧ VP q.2 ∧ iv q.2 59 (nv μ 110) = (c3 (iv μ 67) (nv μ 118) : Int) ∧ (∀ w, w < nv μ 110 → iv q.2 59 w = iv μ 59 w)))) := by
  rw [p_X12_newVariant_eq]
  obtain ⟨d1, d2, d3, d4, d5⟩ := hMd
  have e0 : (0 : Int32).toInt = 0 := by decide
  have e1 : (1 : Int32).toInt = 1 := by decide
  have e24 : (24 : Int32).toInt = 24 := by decide
  have e210 : (210 : Int32).toInt = 210 := by decide
  have g110 := rgm_0_110 hI
  have m110 := ti_nat (a := μ.1 0 110) (by omega)
  have em110 : nv μ 110 = (μ.1 0 110).toNatClampNeg := rfl
  have m118 := ti_nat (a := μ.1 0 118) d1
  have em118 : nv μ 118 = (μ.1 0 118).toNatClampNeg := rfl
  have g17 := rgm_0_17 hI
  have m17 := ti_nat (a := μ.1 0 17) (by omega)
  have em17 : nv μ 17 = (μ.1 0 17).toNatClampNeg := rfl
  refine ok_ite (fun _ => ok_bv (fun q eq => ok_some ⟨by rw [eq]; exact IM_F hI (rtm_0_68 _), by rw [eq]; exact Fr.put Fr.rf (by decide +kernel), Or.inl (by show q.1 0 68 ≠ 0; rw [eq, sF_v]; decide)⟩)) (fun h24 => ?_)
  have hne : (μ.1 0 110).toInt ≠ 24 := fun h => h24 (ti_eq.mpr (by rw [h, e24]))
  refine ok_bv (fun v2 ev2 => ok_bv (fun μ3 em3 => ?_))
  have tv2 : v2.toInt = (nv μ 110 : Int) := by rw [ev2]; omega
  have nv2 : v2.toNatClampNeg = nv μ 110 := tn_of tv2
  have bv2 : inb v2 25 = true := inb_iff.mpr (by omega)
  rw [nv2]
  have t110 : (μ.1 0 110 + 1).toInt = (μ.1 0 110).toInt + 1 := by rw [ti_add (by omega) (by omega), e1]
  have hI3 : IM μ3 := by rw [em3]; exact IM_F hI (rpm_0_110 (by rw [t110]; omega))
  refine ok_gd bv2 (ok_bv (fun μ4 em4 => ok_gd bv2 (ok_bv (fun μ5 em5 => ok_gd bv2 (ok_bv (fun μ6 em6 => ?_))))))
  have hI4 : IM μ4 := by rw [em4]; exact IM_F hI3 (rpm_57 (by omega))
  have hI5 : IM μ5 := by rw [em5]; exact IM_F hI4 (rtma_66 _ _)
  have x118 : μ5.1 0 118 = μ.1 0 118 := by rw [em5, sF_i (by decide), em4, sF_i (by decide), em3, sF_k (by decide)]
  have hI6 : IM μ6 := by rw [em6]; exact IM_F hI5 (rpm_58 (by rw [x118]; omega))
  have F6 : Fr frNv true μ μ6 := by
    rw [em6]; refine Fr.puta ?_ (by decide +kernel)
    rw [em5]; refine Fr.puta ?_ (by decide +kernel)
    rw [em4]; refine Fr.puta ?_ (by decide +kernel)
    rw [em3]; exact Fr.put Fr.rf (by decide +kernel)
  have y118 : μ6.1 0 118 = μ.1 0 118 := F6.v (by decide +kernel)
  have n118 : nv μ6 118 = nv μ 118 := F6.n (by decide +kernel)
  have y67 : iv μ6 67 = iv μ 67 := F6.fe (by decide)
  refine ok_bd (k_starsMade (μ := μ6) (by rw [y118]; exact d1) (by omega)) ?_
  rintro r8 μ7 ⟨q1, q2⟩
  have q1 : r8.toInt = (c3 (iv μ6 67) (nv μ6 118) : Int) := q1
  have q2 : μ6 = μ7 := Eq.symm q2
  subst q2
  rw [y67, n118] at q1
  refine ok_gd bv2 (ok_bv (fun μ9 em9 => ?_))
  have hI9 : IM μ9 := by rw [em9]; exact IM_F hI6 (rtma_59 _ _)
  have F9 : Fr frNv true μ μ9 := by rw [em9]; exact Fr.puta F6 (by decide +kernel)
  have z118 : μ9.1 0 118 = μ.1 0 118 := F9.v (by decide +kernel)
  have t210 : ((210 : Int32) * v2).toInt = 210 * (nv μ 110 : Int) := by rw [ti_mul (by rw [e210, tv2]; omega) (by rw [e210, tv2]; omega), e210, tv2]
  have hs67 : (sh 1 67).2 = 210 := by rw [shm_67]
  have hs60 : (sh 1 60).2 = 5250 := by rw [shm_60]
  have hs68 : (sh 1 68).2 = 210 := by rw [shm_68]
  have hs61 : (sh 1 61).2 = 5250 := by rw [shm_61]
  refine ok_bw (k_X12_copy 67 (by rw [shm_67]) 0 (μ9.1 0 118) 60 (by rw [shm_60]) ((210 : Int32) * v2) μ9 hI9 ⟨by omega, by omega, by rw [hs67, z118, e0]; omega, by rw [hs60, z118]; omega, by decide⟩) ?_
  rintro μ10 ⟨hI10, f10, c10, o10⟩
  have w118 : μ10.1 0 118 = μ.1 0 118 := by rw [f10.v (by decide +kernel)]; exact z118
  refine ok_bw (k_X12_copy 68 (by rw [shm_68]) 0 (μ10.1 0 118) 61 (by rw [shm_61]) ((210 : Int32) * v2) μ10 hI10 ⟨by omega, by omega, by rw [hs68, w118, e0]; omega, by rw [hs61, w118]; omega, by decide⟩) ?_
  rintro μ12 ⟨hI12, f12, c12, o12⟩
  have F12 : Fr frNv true μ μ12 := (F9.trans (Fr.mono f10 (by decide +kernel) (fun h => h))).trans (Fr.mono f12 (by decide +kernel) (fun h => h))
  -- the rows
  have f912 : ∀ c, c ≠ 60 → c ≠ 61 → ∀ i, iv μ12 c i = iv μ9 c i := fun c h60 h61 i => by
    have a := f12.1 c i (by simp [hit, h61])
    have b := f10.1 c i (by simp [hit, h60])
    unfold iv; rw [a, b]
  have r57 : ∀ i, iv μ12 57 i = if i = nv μ 110 then (f : Int) else iv μ 57 i := by
    intro i
    rw [f912 57 (by decide) (by decide)]
    unfold iv
    rw [em9, sF_i (by decide), em6, sF_i (by decide), em5, sF_i (by decide), em4, sF_1, if_pos rfl]
    split
    · exact h1
    · rw [em3, sF_i (by decide)]
  have r58 : ∀ i, iv μ12 58 i = if i = nv μ 110 then (nv μ 118 : Int) else iv μ 58 i := by
    intro i
    rw [f912 58 (by decide) (by decide)]
    unfold iv
    rw [em9, sF_i (by decide), em6, sF_1, if_pos rfl, x118]
    split
    · omega
    · rw [em5, sF_i (by decide), em4, sF_i (by decide), em3, sF_i (by decide)]
  have r59 : ∀ i, iv μ12 59 i = if i = nv μ 110 then (c3 (iv μ 67) (nv μ 118) : Int) else iv μ 59 i := by
    intro i
    rw [f912 59 (by decide) (by decide)]
    unfold iv
    rw [em9, sF_1, if_pos rfl]
    split
    · exact q1
    · rw [em6, sF_i (by decide), em5, sF_i (by decide), em4, sF_i (by decide), em3, sF_i (by decide)]
  have r66 : ∀ i, iv μ12 66 i = if i = nv μ 110 then a2.toInt else iv μ 66 i := by
    intro i
    rw [f912 66 (by decide) (by decide)]
    unfold iv
    rw [em9, sF_i (by decide), em6, sF_i (by decide), em5, sF_1, if_pos rfl]
    split
    · rfl
    · rw [em4, sF_i (by decide), em3, sF_i (by decide)]
  have r60n : ∀ p, p < nv μ 118 → iv μ12 60 (210 * nv μ 110 + p) = iv μ 67 p := by
    intro p hp
    have a := f12.a (c := 60) (by decide) (210 * nv μ 110 + p)
    have b := c10 p (by rw [z118]; omega)
    rw [a]
    have e1' : ((210 : Int32) * v2).toInt.toNat = 210 * nv μ 110 := by omega
    rw [e1', e0] at b
    simp only [Int.toNat_zero, Nat.zero_add] at b
    unfold iv
    rw [b]
    exact congrArg Int32.toInt (F9.1 67 p (na_a (by decide) p))
  have r60o : ∀ i, i < 210 * nv μ 110 → iv μ12 60 i = iv μ 60 i := by
    intro i hi
    have a := f12.a (c := 60) (by decide) i
    have b := o10 i (Or.inl (by omega))
    rw [a]
    unfold iv
    rw [b]
    have h9 : iv μ9 60 i = iv μ 60 i := by
      unfold iv
      rw [em9, sF_i (by decide), em6, sF_i (by decide), em5, sF_i (by decide), em4, sF_i (by decide), em3, sF_i (by decide)]
    exact h9
  have n110 : nv μ12 110 = nv μ 110 + 1 := by
    have a : μ12.1 0 110 = μ.1 0 110 + 1 := by
      rw [f12.v (by decide +kernel), f10.v (by decide +kernel), em9, sF_i (by decide), em6, sF_i (by decide), em5, sF_i (by decide), em4, sF_i (by decide), em3, sF_v]
    exact tn_of (by rw [a, t110]; omega)
  have r3 : iv μ12 3 = iv μ 3 := F12.fe (by decide)
  have n17 : nv μ12 17 = nv μ 17 := F12.n (by decide +kernel)
  have x68 : μ12.1 0 68 = μ.1 0 68 := by
    rw [f12.v (by decide +kernel), f10.v (by decide +kernel), em9, sF_i (by decide), em6, sF_i (by decide), em5, sF_i (by decide), em4, sF_i (by decide), em3, sF_k (by decide)]
  refine ok_some ⟨hI12, F12, Or.inr ⟨x68, tv2, n110, ?_, by show iv μ12 59 _ = _; rw [r59, if_pos rfl], fun w hw => by show iv μ12 59 w = _; rw [r59, if_neg (by omega)]⟩⟩
  intro w hw
  have hw : w < nv μ12 110 := hw
  rw [n110] at hw
  show Pt μ12 w
  unfold Pt
  rw [r3, n17]
  by_cases ew : w = nv μ 110
  · subst ew
    refine ⟨f, nv μ 118, by rw [r57, if_pos rfl], hf, by rw [r58, if_pos rfl], d2, ?_, fun p hp => by rw [r60n p hp]; exact d4 p hp, ?_, ?_, ?_⟩
    · have hnn : (iv μ 3 f).toNat = n := by rw [hn]; rfl
      rw [hnn]
      exact d3.cong (fun j _ hj => bp_c (r60n j hj))
    · rw [r59, if_pos rfl, c3_cong _ (fun i hi => r60n i hi)]
    · rw [c3_cong _ (fun i hi => r60n i hi)]; exact hc8
    · rw [r66, if_pos rfl]; exact h2
  · obtain ⟨f', n', p1, p2, p3, p4, p5, p6, p7, p8, p9⟩ := hVP w (by omega)
    have r60w : ∀ p, p < n' → iv μ12 60 (210 * w + p) = iv μ 60 (210 * w + p) := fun p hp => r60o _ (by omega)
    refine ⟨f', n', by rw [r57, if_neg ew]; exact p1, p2, by rw [r58, if_neg ew]; exact p3, p4, p5.cong (fun j _ hj => bp_c (r60w j hj)), fun p hp => by rw [r60w p hp]; exact p6 p hp, ?_, ?_, ?_⟩
    · rw [r59, if_neg ew, c3_cong _ (fun i hi => r60w i hi)]; exact p7
    · rw [c3_cong _ (fun i hi => r60w i hi)]; exact p8
    · rw [r66, if_neg ew]; exact p9
