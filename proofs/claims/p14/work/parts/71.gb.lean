/-! WHAT IS MADE IS HELD AGAINST A PATTERN -/
theorem Sh.shift {be b2 : Nat → Int} {n p q : Nat} (h : Sh be n p q) : ∀ j, (∀ i, p + i < q → b2 (j + i) = be (p + i)) → Sh b2 n j (j + (q - p)) := by
  refine Sh.ind (M := fun n p q => ∀ j, (∀ i, p + i < q → b2 (j + i) = be (p + i)) → Sh b2 n j (j + (q - p))) ?_ ?_ h
  · intro p j _; rw [Nat.sub_self]; exact Sh.nil
  · intro n p m q k hk x ix y iy j c
    have l1 := x.le
    have l2 := y.le
    have h1 := ix (j + 1) (fun i hi => by
      have := c (i + 1) (by omega)
      have e1 : j + (i + 1) = j + 1 + i := by omega
      have e2 : p + (i + 1) = p + 1 + i := by omega
      rw [e1, e2] at this; exact this)
    have h2 := iy (j + 1 + (m - (p + 1))) (fun i hi => by
      have := c (m - p + i) (by omega)
      have e1 : j + (m - p + i) = j + 1 + (m - (p + 1)) + i := by omega
      have e2 : p + (m - p + i) = m + i := by omega
      rw [e1, e2] at this; exact this)
    have e3 : j + 1 + (m - (p + 1)) + (q - m) = j + (q - p) := by omega
    rw [e3] at h2
    exact Sh.cons (by have := c 0 (by omega); simp only [Nat.add_zero] at this; rw [this]; exact hk) h1 h2
theorem k_behindPart {μ : Mem} {a0 : Nat} {sz0 : Nat} (hs : (sh 1 a0).2 = sz0) (hsz : sz0 ≤ 10000) : ∀ (m : Nat) (a2 a3 : Int32) (n p e : Nat), a2.toInt = (n : Int) → a3.toInt = (p : Int) → Sh (bp (iv μ a0)) n p e → e ≤ sz0 → e - p < m → ok (p_X12_behindPart_b4 m a0 a2 a3 μ) (fun r => r.1.toInt = (e : Int) ∧ r.2 = μ) := by
  intro m
  have e0 : (0 : Int32).toInt = 0 := by decide
  have e1 : (1 : Int32).toInt = 1 := by decide
  have e2 : (2 : Int32).toInt = 2 := by decide
  have em1 : (-1 : Int32).toInt = -1 := by decide
  induction m with
  | zero => intro a2 a3 n p e _ _ _ _ h; omega
  | succ m ih =>
    intro a2 a3 n p e ha2 ha3 h he hm
    rw [p_X12_behindPart_b4_s, hs]
    have hle := h.le
    refine ok_ite (fun hz => ?_) (fun hz => ?_)
    · rw [ti_le] at hz
      have : n = 0 := by omega
      subst this
      have := h.zero
      exact ok_some ⟨by show a3.toInt = _; omega, rfl⟩
    · rw [ti_le] at hz
      obtain ⟨n, rfl⟩ : ∃ n', n = n' + 1 := ⟨n - 1, by omega⟩
      obtain ⟨k, q, hk, x, y⟩ := h.suc
      rw [tn_of ha3]
      have l1 := x.le
      have l2 := y.le
      refine ok_gd (inb_iff.mpr (by omega)) (ok_ite (fun h2 => ?_) (fun h2 => ?_))
      · rw [p_X12_behindPart_b21_eq]
        have h2' : iv μ a0 p = 2 := by unfold iv; rw [h2]; exact e2
        have hk2 : k = 2 := by unfold bp at hk; rw [if_pos h2'] at hk; omega
        subst hk2
        refine ok_bv (fun v3 ev3 => ok_bv (fun v4 ev4 => ih v3 v4 (2 + n) (p + 1) e ?_ ?_ (x.app y) he (by omega)))
        · rw [ev3, ti_add (by omega) (by omega), e1, ha2]; omega
        · rw [ev4, ti_add (by omega) (by omega), e1, ha3]; omega
      · rw [p_X12_behindPart_b21_eq]
        have h2' : iv μ a0 p ≠ 2 := fun h => h2 (ti_eq.mpr (by rw [e2]; exact h))
        have hk0 : k = 0 := by unfold bp at hk; rw [if_neg h2'] at hk; omega
        subst hk0
        have := x.zero
        subst this
        refine ok_bv (fun v3 ev3 => ok_bv (fun v4 ev4 => ih v3 v4 n (p + 1) e ?_ ?_ y he (by omega)))
        · rw [ev3, ti_add (by omega) (by omega), em1, ha2]; omega
        · rw [ev4, ti_add (by omega) (by omega), e1, ha3]; omega
theorem tf_isNumber (x : Int32) (h : ¬ s_X12_isNumber x = 0) : x.toInt = 0 ∨ x.toInt = 1 := by
  rw [s_X12_isNumber_eq] at h
  by_cases e1 : x = 0
  · left; rw [e1]; decide
  · by_cases e2 : x = 1
    · right; rw [e2]; decide
    · exfalso
      apply h
      rw [if_neg e1, if_neg e2]
/-- m parts from p to N, and as many from j to e, none longer -/
def P2 (be b2 : Nat → Int) : Nat → Nat → Nat → Nat → Nat → Prop
  | 0, p, N, j, e => p = N ∧ j = e
  | m + 1, p, N, j, e => ∃ p1 j1, Sh be 1 p p1 ∧ Sh b2 1 j j1 ∧ j1 + p ≤ p1 + j ∧ P2 be b2 m p1 N j1 e
theorem P2.sw {be b2 : Nat → Int} : ∀ {n p N j e : Nat}, Sw be n p N → P2 be b2 n p N j e → Sw b2 n j e := by
  intro n
  induction n with
  | zero => intro p N j e _ h; exact h.2
  | succ n ih =>
    intro p N j e s h
    obtain ⟨m, s1, s2, s3⟩ := s
    obtain ⟨p1, j1, h1, h2, h3, h4⟩ := h
    have := s1.det _ h1
    subst this
    exact ⟨j1, h2, by omega, ih s3 h4⟩
def frGw : List (Nat × Nat × Nat) := [(0, 0, 96), (1, 70, 0), (1, 71, 0), (1, 72, 0)]
def frGr : List (Nat × Nat × Nat) := frGw ++ [(0, 0, 118), (1, 67, 0), (1, 68, 0), (1, 69, 0)]
/-- copying from 72 to 69: both hold nodes -/
theorem k_copy69 (n : Nat) (hn : n ≤ 210) {a2 : Int32} (ha : a2.toInt = (n : Int)) (μ0 : Mem) : ∀ (m : Nat) (a5 : Int32) (i : Nat) (μ : Mem), a5.toInt = (i : Int) → i ≤ n → n < m + i → IM μ → Fr [(1, 69, 0)] true μ0 μ → (∀ k, k < i → iv μ 69 k = iv μ0 72 k) → ok (p_X12_copy_b3 m 72 0 a2 69 0 a5 μ) (fun q => IM q ∧ Fr [(1, 69, 0)] true μ0 q ∧ ∀ k, k < n → iv q 69 k = iv μ0 72 k) := by
  intro m
  have e0 : (0 : Int32).toInt = 0 := by decide
  have e1 : (1 : Int32).toInt = 1 := by decide
  have hs72 : (sh 1 72).2 = 210 := by rw [shm_72]
  have hs69 : (sh 1 69).2 = 210 := by rw [shm_69]
  induction m with
  | zero => intro a5 i μ _ h1 h2; omega
  | succ m ih =>
    intro a5 i μ h5 hi hm hI hF hk
    rw [p_X12_copy_b3_s, hs72, hs69]
    have t0 : ((0 : Int32) + a5).toInt = (i : Int) := by rw [ti_add (by omega) (by omega), e0, h5]; omega
    rw [tn_of t0]
    refine ok_ite (fun hle => ok_some ⟨hI, hF, fun k hk2 => hk k ?_⟩) (fun hle => ?_)
    · rw [ti_le] at hle; omega
    · rw [ti_le] at hle
      refine ok_gd (inb_iff.mpr (by omega)) (ok_gd (inb_iff.mpr (by omega)) (ok_bv (fun μ2 em2 => ok_bv (fun v3 ev3 => ?_))))
      have g72 := rgm_72 hI i
      refine ih v3 (i + 1) μ2 (by rw [ev3, ti_add (by omega) (by omega), e1, h5]; omega) (by omega) (by omega) (by rw [em2]; exact IM_F hI (rpm_69 g72)) (by rw [em2]; exact Fr.puta hF (by decide +kernel)) (fun k hk2 => ?_)
      by_cases e : k = i
      · rw [e, ← hF.a (c := 72) (by decide) i]
        unfold iv
        rw [em2, sF_v]
      · unfold iv
        rw [em2, sF_k e]
        exact hk k (by omega)
set_option maxHeartbeats 4000000 in
theorem k_growBy {μ : Mem} (hI : IM μ) {V : Nat → Prop} {n v : Nat} (hMd : Md μ V n) (hv : v < 25) (M : Nat) (hM2 : M ≤ 200) (hSt : Sh (bp (fun j => iv μ 60 (210 * v + j))) n 0 M) {a : Int32} (ha : a.toInt = (v : Int)) : ok (p_X12_growBy a μ) (fun q => IM q ∧ Fr frGr true μ q ∧ Md q V n) := by
  obtain ⟨d1, d2, d3, d4, d5⟩ := hMd
  have e0 : (0 : Int32).toInt = 0 := by decide
  have e1 : (1 : Int32).toInt = 1 := by decide
  have e2 : (2 : Int32).toInt = 2 := by decide
  have e3 : (3 : Int32).toInt = 3 := by decide
  have e210 : (210 : Int32).toInt = 210 := by decide
  have m118 := ti_nat (a := μ.1 0 118) d1
  have em118 : nv μ 118 = (μ.1 0 118).toNatClampNeg := rfl
  have hSs : Sh (bp (iv μ 67)) n 0 (nv μ 118) := d3.sh
  rw [p_X12_growBy_eq]
  have loop : ∀ (m : Nat) (a2 a3 a4 : Int32) (r p j c : Nat) (μ1 : Mem), a2.toInt = (p : Int) → a3.toInt = ((210 * v + j : Nat) : Int) → a4.toInt = (c : Int) → nv μ 118 - p < m → IM μ1 → Fr frGw true μ μ1 → Sh (bp (iv μ 67)) r p (nv μ 118) → Sh (bp (fun j => iv μ 60 (210 * v + j))) r j M → c ≤ p → (∀ b2 e, (∀ i, i < c → b2 i = bp (iv μ1 70) i) → P2 (bp (iv μ 67)) b2 r p (nv μ 118) c e → Sw b2 n 0 e) → (∀ i, i < c → 0 ≤ iv μ1 70 i ∧ iv μ1 70 i ≤ 3) → (∀ i, i < c → ∃ x : Nat, iv μ1 72 i = (x : Int) ∧ Gd μ V x) → ok (p_X12_growBy_b11 m a2 a3 a4 μ1) (fun q => IM q ∧ Fr frGr true μ q ∧ Md q V n) := by
    intro m
    induction m with
    | zero => intro a2 a3 a4 r p j c μ1 _ _ _ h; omega
    | succ m ih =>
      intro a2 a3 a4 r p j c μ1 ha2 ha3 ha4 hm hI1 F1 hs1 hs2 hcp hK hso hat
      rw [p_X12_growBy_b11_s]
      have x118 : μ1.1 0 118 = μ.1 0 118 := F1.v (by decide +kernel)
      rw [x118]
      have hle := hs1.le
      have hle2 := hs2.le
      have np : a2.toNatClampNeg = p := tn_of ha2
      have nq : a3.toNatClampNeg = 210 * v + j := tn_of ha3
      have nc : a4.toNatClampNeg = c := tn_of ha4
      refine ok_ite (fun hz => ?_) (fun hz => ?_)
      · -- the end
        rw [ti_le] at hz
        have hr0 : r = 0 := by omega
        subst hr0
        have hp := hs1.zero
        refine ok_bv (fun μ3 em3 => ?_)
        have hI3 : IM μ3 := by rw [em3]; exact IM_F hI1 (rtm_0_118 _)
        have f3 : Fr [(0, 0, 118)] true μ1 μ3 := by rw [em3]; exact Fr.put Fr.rf (by decide +kernel)
        refine ok_bw (t_copy hI3 70 67 a4 210 210 shm_70 shm_67 (by omega) (by omega) (by decide)) ?_
        rintro μ4 ⟨hI4, f4, c4⟩
        refine ok_bw (t_copy hI4 71 68 a4 210 210 shm_71 shm_68 (by omega) (by omega) (by decide)) ?_
        rintro μ6 ⟨hI6, f6, c6⟩
        rw [p_X12_copy_eq]
        refine ok_bw (k_copy69 c (by omega) ha4 μ6 FUEL 0 0 μ6 e0 (by omega) (by show _ < 10000000000 + _; omega) hI6 Fr.rf (fun k hk => absurd hk (by omega))) ?_
        rintro μ8 ⟨hI8, f8, c8⟩
        have F8 : Fr frGr true μ μ8 := ((((Fr.mono F1 (by decide +kernel) (fun h => h)).trans (Fr.mono f3 (by decide +kernel) (fun h => h))).trans (Fr.mono f4 (by decide +kernel) (fun h => h))).trans (Fr.mono f6 (by decide +kernel) (fun h => h))).trans (Fr.mono f8 (by decide +kernel) (fun h => h))
        have G8 := F8.gr (by decide +kernel)
        have y118 : μ8.1 0 118 = a4 := by rw [f8.v (by decide +kernel), f6.v (by decide +kernel), f4.v (by decide +kernel), em3, sF_v]
        have n8 : nv μ8 118 = c := by unfold nv; rw [y118]; exact nc
        have y67 : ∀ i, i < c → iv μ8 67 i = iv μ1 70 i := by
          intro i hi
          rw [f8.a (by decide), f6.a (by decide), c4 i (by omega), f3.a (by decide)]
        have y69 : ∀ i, i < c → iv μ8 69 i = iv μ1 72 i := by
          intro i hi
          rw [c8 i hi, f6.a (by decide), f4.a (by decide), f3.a (by decide)]
        refine ok_some ⟨hI8, F8, by rw [y118]; omega, by omega, ?_, ?_, ?_⟩
        · rw [n8]
          refine hK _ c (fun i hi => by unfold bp; rw [y67 i hi]) ⟨hp, rfl⟩
        · rw [n8]
          intro i hi
          rw [y67 i hi]; exact hso i hi
        · rw [n8]
          intro i hi
          obtain ⟨x, x1, x2⟩ := hat i hi
          exact ⟨x, by rw [y69 i hi]; exact x1, x2.gr G8⟩
      · rw [ti_le] at hz
        -- there is one more
        obtain ⟨r, rfl⟩ : ∃ r', r = r' + 1 := by
          cases r with
          | zero => have := hs1.zero; omega
          | succ r => exact ⟨r, rfl⟩
        have hpl : p < nv μ 118 := by omega
        have bp2 : inb a2 210 = true := inb_iff.mpr (by omega)
        have bq : inb a3 5250 = true := inb_iff.mpr (by omega)
        have bc : inb a4 210 = true := inb_iff.mpr (by omega)
        rw [np, nq]
        obtain ⟨p1, u1, u2⟩ := hs1.one
        obtain ⟨j1, w1, w2⟩ := hs2.one
        have lu1 := u1.le
        have lu2 := u2.le
        have lw1 := w1.le
        have lw2 := w2.le
        have x67 : ∀ i, μ1.1 67 i = μ.1 67 i := fun i => F1.1 67 i (na_a (by decide) i)
        have x60 : ∀ i, μ1.1 60 i = μ.1 60 i := fun i => F1.1 60 i (na_a (by decide) i)
        refine ok_gd bp2 (ok_bv (fun v10 ev10 => ok_gd bq (ok_bv (fun v11 ev11 => ?_))))
        have t10 : v10.toInt = iv μ 67 p := by rw [ev10, x67]; rfl
        have t11 : v11.toInt = iv μ 60 (210 * v + j) := by rw [ev11, x60]; rfl
        have hs10 := d4 p hpl
        have t41 : (a4 + 1).toInt = ((c + 1 : Nat) : Int) := by rw [ti_add (by omega) (by omega), e1, ha4]; omega
        -- the entry is laid
        have b92 : ∀ k0 : Int32, (k0 ≠ 0 → iv μ 67 p = 2 → iv μ 60 (210 * v + j) ≠ 2) → ok (p_X12_growBy_b92 (p_X12_growBy_b11 m) a2 a3 a4 v10 v11 k0 μ1) (fun q => IM q ∧ Fr frGr true μ q ∧ Md q V n) := by
          intro k0 hk0
          -- behind it
          have b165 : ∀ μ2 : Mem, IM μ2 → Fr frGw true μ μ2 → (∀ i, i < c → iv μ2 70 i = iv μ1 70 i ∧ iv μ2 72 i = iv μ1 72 i) → iv μ2 70 c = (if k0 = 0 then iv μ 67 p else 3) → iv μ2 72 c = iv μ 69 p → ok (p_X12_growBy_b165 (p_X12_growBy_b11 m) a2 a3 (a4 + 1) v10 v11 k0 μ2) (fun q => IM q ∧ Fr frGr true μ q ∧ Md q V n) := by
            intro μ2 hI2 F2 k2 k70 k72
            have so2 : ∀ i, i < c + 1 → 0 ≤ iv μ2 70 i ∧ iv μ2 70 i ≤ 3 := by
              intro i hi
              by_cases e : i = c
              · rw [e, k70]
                split
                · exact hs10
                · omega
              · rw [(k2 i (by omega)).1]; exact hso i (by omega)
            have at2 : ∀ i, i < c + 1 → ∃ x : Nat, iv μ2 72 i = (x : Int) ∧ Gd μ V x := by
              intro i hi
              by_cases e : i = c
              · rw [e, k72]; exact d5 p hpl
              · rw [(k2 i (by omega)).2]; exact hat i (by omega)
            have low : ∀ b2 : Nat → Int, (∀ i, i < c + 1 → b2 i = bp (iv μ2 70) i) → (∀ i, i < c → b2 i = bp (iv μ1 70) i) ∧ b2 c = bp (iv μ2 70) c := by
              intro b2 hb2
              refine ⟨fun i hi => ?_, hb2 c (by omega)⟩
              rw [hb2 i (by omega)]; unfold bp; rw [(k2 i hi).1]
            have b186 : (k0 ≠ 0 ∨ iv μ 67 p ≠ 2 ∨ iv μ 60 (210 * v + j) ≠ 2) → ok (p_X12_growBy_b186 (p_X12_growBy_b11 m) a2 a3 (a4 + 1) k0 μ2) (fun q => IM q ∧ Fr frGr true μ q ∧ Md q V n) := by
              intro _
              rw [p_X12_growBy_b186_eq, p_X12_behindPart_eq]
              have y67 : iv μ2 67 = iv μ 67 := F2.fe (by decide)
              refine ok_bd (k_behindPart (a0 := 67) (sz0 := 210) (by rw [shm_67]) (by omega) FUEL 1 a2 1 p p1 e1 ha2 (by rw [y67]; exact u1) (by omega) (by show _ < 10000000000; omega)) ?_
              rintro r23 μ22 ⟨q1, q2⟩
              have q1 : r23.toInt = (p1 : Int) := q1
              have q2 : μ2 = μ22 := q2.symm
              subst q2
              -- the part behind, in the pattern
              have b264 : ∀ (μ5 : Mem) (a5 : Int32) (c5 : Nat), a5.toInt = (c5 : Int) → IM μ5 → Fr frGw true μ μ5 → c5 ≤ p1 → (∀ b2 e, (∀ i, i < c5 → b2 i = bp (iv μ5 70) i) → P2 (bp (iv μ 67)) b2 r p1 (nv μ 118) c5 e → Sw b2 n 0 e) → (∀ i, i < c5 → 0 ≤ iv μ5 70 i ∧ iv μ5 70 i ≤ 3) → (∀ i, i < c5 → ∃ x : Nat, iv μ5 72 i = (x : Int) ∧ Gd μ V x) → ok (p_X12_growBy_b264 (p_X12_growBy_b11 m) a3 a5 r23 μ5) (fun q => IM q ∧ Fr frGr true μ q ∧ Md q V n) := by
                intro μ5 a5 c5 ha5 hI5 F5 hc5 hK5 hso5 hat5
                rw [p_X12_growBy_b264_eq, p_X12_behindPart_eq]
                have y60 : iv μ5 60 = iv μ 60 := F5.fe (by decide)
                have hsh : Sh (bp (iv μ 60)) 1 (210 * v + j) (210 * v + j + (j1 - j)) := w1.shift (210 * v + j) (fun i _ => by
                  have : 210 * v + j + i = 210 * v + (j + i) := by omega
                  unfold bp
                  rw [this])
                have e5 : 210 * v + j + (j1 - j) = 210 * v + j1 := by omega
                rw [e5] at hsh
                refine ok_bd (k_behindPart (a0 := 60) (sz0 := 5250) (by rw [shm_60]) (by omega) FUEL 1 a3 1 (210 * v + j) (210 * v + j1) e1 ha3 (by rw [y60]; exact hsh) (by omega) (by show _ < 10000000000; omega)) ?_
                rintro r27 μ26 ⟨s1, s2⟩
                have s1 : r27.toInt = ((210 * v + j1 : Nat) : Int) := s1
                have s2 : μ5 = μ26 := s2.symm
                subst s2
                exact ih r23 r27 a5 r p1 j1 c5 μ5 q1 s1 ha5 (by omega) hI5 F5 u2 w2 hc5 hK5 hso5 hat5
              refine ok_bv (fun v24 ev24 => ?_)
              have t24 : v24.toInt = ((p + 1 : Nat) : Int) := by rw [ev24, ti_add (by omega) (by omega), e1, ha2]; omega
              -- the rest of the part is copied, if it isn't gone
              by_cases hk : k0 = 0
              · have cp : ∀ (m2 : Nat) (a5 a9 : Int32) (k : Nat) (μ5 : Mem), a5.toInt = ((c + 1 + k : Nat) : Int) → a9.toInt = ((p + 1 + k : Nat) : Int) → p + 1 + k ≤ p1 → p1 < m2 + (p + 1 + k) → IM μ5 → Fr frGw true μ μ5 → (∀ i, i < c → iv μ5 70 i = iv μ1 70 i ∧ iv μ5 72 i = iv μ1 72 i) → (∀ i, i < k + 1 → iv μ5 70 (c + i) = iv μ 67 (p + i) ∧ iv μ5 72 (c + i) = iv μ 69 (p + i)) → ok (p_X12_growBy_b201 (p_X12_growBy_b11 m) m2 a3 a5 k0 r23 a9 μ5) (fun q => IM q ∧ Fr frGr true μ q ∧ Md q V n) := by
                  intro m2
                  induction m2 with
                  | zero => intro a5 a9 k μ5 _ _ h1 h2; omega
                  | succ m2 ih2 =>
                    intro a5 a9 k μ5 h5 h9 hkp hm2 hI5 F5 lo5 hi5
                    rw [p_X12_growBy_b201_s]
                    refine ok_ite (fun hz2 => ?_) (fun hz2 => ?_)
                    · rw [ti_le] at hz2
                      have hkk : p + 1 + k = p1 := by omega
                      refine b264 μ5 a5 (c + 1 + k) h5 hI5 F5 (by omega) ?_ ?_ ?_
                      · intro b2 e hb2 hP2
                        refine hK b2 e (fun i hi => by rw [hb2 i (by omega)]; unfold bp; rw [(lo5 i hi).1]) ⟨p1, c + 1 + k, u1, ?_, by omega, hP2⟩
                        have := u1.shift (b2 := b2) c (fun i hi => by
                          rw [hb2 (c + i) (by omega)]; unfold bp; rw [(hi5 i (by omega)).1])
                        have e5 : c + (p1 - p) = c + 1 + k := by omega
                        rw [e5] at this; exact this
                      · intro i hi
                        by_cases hic : i < c
                        · rw [(lo5 i hic).1]; exact hso i hic
                        · obtain ⟨i2, rfl⟩ : ∃ i2, i = c + i2 := ⟨i - c, by omega⟩
                          rw [(hi5 i2 (by omega)).1]; exact d4 (p + i2) (by omega)
                      · intro i hi
                        by_cases hic : i < c
                        · rw [(lo5 i hic).2]; exact hat i hic
                        · obtain ⟨i2, rfl⟩ : ∃ i2, i = c + i2 := ⟨i - c, by omega⟩
                          rw [(hi5 i2 (by omega)).2]; exact d5 (p + i2) (by omega)
                    · rw [ti_le] at hz2
                      rw [if_pos hk, tn_of h9, tn_of h5]
                      have bb9 : inb a9 210 = true := inb_iff.mpr (by omega)
                      have bb5 : inb a5 210 = true := inb_iff.mpr (by omega)
                      refine ok_gd bb9 (ok_gd bb5 (ok_bv (fun μ29 em29 => ok_gd bb9 (ok_gd bb5 (ok_bv (fun μ30 em30 => ok_gd bb9 (ok_gd bb5 (ok_bv (fun μ31 em31 => ok_bv (fun v32 ev32 => ok_bv (fun v33 ev33 => ?_)))))))))))
                      have hI29 : IM μ29 := by rw [em29]; exact IM_F hI5 (rtma_70 _ _)
                      have hI30 : IM μ30 := by rw [em30]; exact IM_F hI29 (rtma_71 _ _)
                      have g69 := rgm_69 hI30 (p + 1 + k)
                      have hI31 : IM μ31 := by rw [em31]; exact IM_F hI30 (rpm_72 g69)
                      have F31 : Fr frGw true μ μ31 := by
                        rw [em31]; refine Fr.puta ?_ (by decide +kernel)
                        rw [em30]; refine Fr.puta ?_ (by decide +kernel)
                        rw [em29]; exact Fr.puta F5 (by decide +kernel)
                      have z67 : μ5.1 67 (p + 1 + k) = μ.1 67 (p + 1 + k) := F5.1 67 _ (na_a (by decide) _)
                      have z69 : μ30.1 69 (p + 1 + k) = μ.1 69 (p + 1 + k) := by
                        rw [em30, sF_i (by decide), em29, sF_i (by decide)]; exact F5.1 69 _ (na_a (by decide) _)
                      have z70 : ∀ i, iv μ31 70 i = if i = c + 1 + k then iv μ 67 (p + 1 + k) else iv μ5 70 i := by
                        intro i
                        unfold iv
                        rw [em31, sF_i (by decide), em30, sF_i (by decide), em29, sF_1, if_pos rfl]
                        split
                        · rw [z67]
                        · rfl
                      have z72 : ∀ i, iv μ31 72 i = if i = c + 1 + k then iv μ 69 (p + 1 + k) else iv μ5 72 i := by
                        intro i
                        unfold iv
                        rw [em31, sF_1, if_pos rfl]
                        split
                        · rw [z69]
                        · rw [em30, sF_i (by decide), em29, sF_i (by decide)]
                      refine ih2 v32 v33 (k + 1) μ31 (by rw [ev32, ti_add (by omega) (by omega), e1, h5]; omega) (by rw [ev33, ti_add (by omega) (by omega), e1, h9]; omega) (by omega) (by omega) hI31 F31 (fun i hi => ?_) (fun i hi => ?_)
                      · rw [z70, if_neg (by omega), z72, if_neg (by omega)]; exact lo5 i hi
                      · by_cases e : i = k + 1
                        · rw [z70, if_pos (by omega), z72, if_pos (by omega), e]
                          have e9 : p + (k + 1) = p + 1 + k := by omega
                          rw [e9]; exact ⟨rfl, rfl⟩
                        · rw [z70, if_neg (by omega), z72, if_neg (by omega)]; exact hi5 i (by omega)
                refine cp FUEL (a4 + 1) v24 0 μ2 t41 t24 (by omega) (by show _ < 10000000000 + _; omega) hI2 F2 k2 (fun i hi => ?_)
                have : i = 0 := by omega
                subst this
                rw [if_pos hk] at k70
                exact ⟨k70, k72⟩
              · have hfu : FUEL = 9999999999 + 1 := rfl
                rw [hfu, p_X12_growBy_b201_s]
                have fin := b264 μ2 (a4 + 1) (c + 1) t41 hI2 F2 (by omega) (by
                  intro b2 e hb2 hP2
                  obtain ⟨lb1, lb2⟩ := low b2 hb2
                  refine hK b2 e lb1 ⟨p1, c + 1, u1, Sh.cons (k := 0) ?_ Sh.nil Sh.nil, by omega, hP2⟩
                  rw [lb2]; unfold bp; rw [k70, if_neg hk]; rfl) so2 at2
                exact ok_ite (fun _ => fin) (fun _ => by rw [if_neg hk]; exact fin)
            rw [p_X12_growBy_b165_eq]
            refine ok_ite (fun h5 => ok_ite (fun h6 => ?_) (fun h6 => b186 (Or.inr (Or.inr ?_)))) (fun h5 => b186 (Or.inr (Or.inl ?_)))
            · -- both are pairs
              have hp5 : iv μ 67 p = 2 := by rw [← t10, h5]; exact e2
              have hq6 : iv μ 60 (210 * v + j) = 2 := by rw [← t11, h6]; exact e2
              have hk : k0 = 0 := by
                by_cases hk : k0 = 0
                · exact hk
                · exact absurd hq6 (hk0 hk hp5)
              rw [if_pos hk] at k70
              obtain ⟨kk, qq, z1, z2, z3⟩ := hs1.suc
              obtain ⟨kk2, qq2, y1, y2, y3⟩ := hs2.suc
              have hkk : kk = 2 := by unfold bp at z1; rw [if_pos hp5] at z1; omega
              have hkk2 : kk2 = 2 := by
                unfold bp at y1
                rw [if_pos hq6] at y1; omega
              subst hkk
              subst hkk2
              refine ok_bv (fun v35 ev35 => ok_bv (fun v36 ev36 => ih v35 v36 (a4 + 1) (2 + r) (p + 1) (j + 1) (c + 1) μ2 ?_ ?_ t41 (by omega) hI2 F2 (z2.app z3) (y2.app y3) (by omega) ?_ so2 at2))
              · rw [ev35, ti_add (by omega) (by omega), e1, ha2]; omega
              · rw [ev36, ti_add (by omega) (by omega), e1, ha3]; omega
              · intro b2 e hb2 hP2
                obtain ⟨lb1, lb2⟩ := low b2 hb2
                have e2r : 2 + r = (r + 1) + 1 := by omega
                rw [e2r] at hP2
                obtain ⟨pa, ja, a1, a2', a3', pb, jb, b1, b2', b3, b4⟩ := hP2
                refine hK b2 e lb1 ⟨pb, jb, Sh.cons (k := 2) ?_ (a1.app b1) Sh.nil, Sh.cons (k := 2) ?_ (a2'.app b2') Sh.nil, by omega, b4⟩
                · unfold bp; rw [if_pos hp5]; rfl
                · rw [lb2]; unfold bp; rw [k70, if_pos hp5]; rfl
            · intro h; exact h6 (ti_eq.mpr (by rw [t11, h, e2]))
            · intro h; exact h5 (ti_eq.mpr (by rw [t10, h, e2]))
          have b111 : ∀ s0 : Int32, s0.toInt = (if k0 = 0 then iv μ 67 p else 3) → ok (p_X12_growBy_b111 (p_X12_growBy_b11 m) a2 a3 a4 v10 v11 k0 s0 a4 μ1) (fun q => IM q ∧ Fr frGr true μ q ∧ Md q V n) := by
            intro s0 hs0
            rw [p_X12_growBy_b111_eq, nc, np]
            refine ok_gd bc (ok_bv (fun μ15 em15 => ?_))
            have hI15 : IM μ15 := by rw [em15]; exact IM_F hI1 (rtma_70 _ _)
            have b133 : ∀ z0 : Int32, ok (p_X12_growBy_b133 (p_X12_growBy_b11 m) a2 a3 a4 v10 v11 k0 z0 a4 μ15) (fun q => IM q ∧ Fr frGr true μ q ∧ Md q V n) := by
              intro z0
              rw [p_X12_growBy_b133_eq, nc, np]
              refine ok_gd bc (ok_bv (fun μ17 em17 => ok_gd bp2 (ok_gd bc (ok_bv (fun μ18 em18 => ok_bv (fun v19 ev19 => ?_))))))
              have hI17 : IM μ17 := by rw [em17]; exact IM_F hI15 (rtma_71 _ _)
              have g69 := rgm_69 hI17 p
              have hI18 : IM μ18 := by rw [em18]; exact IM_F hI17 (rpm_72 g69)
              have F18 : Fr frGw true μ μ18 := by
                rw [em18]; refine Fr.puta ?_ (by decide +kernel)
                rw [em17]; refine Fr.puta ?_ (by decide +kernel)
                rw [em15]; exact Fr.puta F1 (by decide +kernel)
              have lo18 : ∀ i, i < c → iv μ18 70 i = iv μ1 70 i ∧ iv μ18 72 i = iv μ1 72 i := by
                intro i hi
                unfold iv
                refine ⟨?_, ?_⟩
                · rw [em18, sF_i (by decide), em17, sF_i (by decide), em15, sF_k (by omega)]
                · rw [em18, sF_k (by omega), em17, sF_i (by decide), em15, sF_i (by decide)]
              have s70 : iv μ18 70 c = (if k0 = 0 then iv μ 67 p else 3) := by
                unfold iv
                rw [em18, sF_i (by decide), em17, sF_i (by decide), em15, sF_v]; exact hs0
              have s72 : iv μ18 72 c = iv μ 69 p := by
                unfold iv
                rw [em18, sF_v, em17, sF_i (by decide), em15, sF_i (by decide), F1.1 69 p (na_a (by decide) p)]
              rw [ev19]
              refine ok_ite (fun _ => b165 μ18 hI18 F18 lo18 s70 s72) (fun _ => ok_bv (fun μ37 em37 => ?_))
              refine b165 μ37 (by rw [em37]; exact IM_F hI18 (rtm_0_96 _)) (by rw [em37]; exact Fr.put F18 (by decide +kernel)) (fun i hi => ?_) ?_ ?_
              · rw [em37]; exact lo18 i hi
              · rw [em37]; exact s70
              · rw [em37]; exact s72
            exact ok_ite (fun _ => ok_gd bp2 (b133 _)) (fun _ => b133 _)
          rw [p_X12_growBy_b92_eq]
          refine ok_ite (fun h => b111 v10 (by rw [if_pos h]; exact t10)) (fun h => b111 3 (by rw [if_neg h]; exact e3))
        have b91 : ok (p_X12_growBy_b91 (p_X12_growBy_b11 m) a2 a3 a4 v10 v11 μ1) (fun q => IM q ∧ Fr frGr true μ q ∧ Md q V n) := by
          rw [p_X12_growBy_b91_eq]; exact b92 0 (fun h => absurd rfl h)
        have b87 : (iv μ 67 p = 2 → iv μ 60 (210 * v + j) ≠ 2) → ok (p_X12_growBy_b87 (p_X12_growBy_b11 m) a2 a3 a4 v10 v11 μ1) (fun q => IM q ∧ Fr frGr true μ q ∧ Md q V n) := by
          intro h
          rw [p_X12_growBy_b87_eq]; exact b92 1 (fun _ => h)
        have b73 : ok (p_X12_growBy_b73 (p_X12_growBy_b11 m) a2 a3 a4 v10 v11 μ1) (fun q => IM q ∧ Fr frGr true μ q ∧ Md q V n) := by
          rw [p_X12_growBy_b73_eq]
          refine ok_ite (fun _ => ok_ite (fun _ => b91) (fun h => b87 (fun _ => ?_))) (fun _ => b91)
          have := tf_isNumber v11 h
          omega
        refine ok_ite (fun _ => b73) (fun h1 => ok_ite (fun _ => b73) (fun h2 => ok_gd bp2 (ok_gd bq (ok_bs (k_X12_isGrown _ _ _ _) (fun r40 _ => ok_ite (fun _ => b73) (fun _ => b87 (fun h => ?_)))))))
        have := tf_isNumber v10 h1
        omega
  refine ok_bv (fun v1 ev1 => loop FUEL 0 v1 0 n 0 0 0 μ e0 ?_ e0 (by show _ < 10000000000; omega) hI Fr.rf hSs hSt (by omega) ?_ (fun i hi => absurd hi (by omega)) (fun i hi => absurd hi (by omega)))
  · rw [ev1, ti_mul (by rw [e210, ha]; omega) (by rw [e210, ha]; omega), e210, ha]; omega
  · intro b2 e _ hP2
    exact P2.sw d3 hP2
