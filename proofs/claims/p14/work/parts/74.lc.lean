theorem Th.nv {b : Nat} {Vb : Nat → Prop} {ve : Nat} {μ μ' : Mem} {Zs : List Zc} {V : Nat → Prop} (h : Th b Vb ve μ Zs V) (f : Fr frNv true μ μ') (h110 : nv μ 110 ≤ nv μ' 110) (h59 : ∀ w, w < nv μ 110 → iv μ' 59 w = iv μ 59 w) : Th b Vb ve μ' Zs V := by
  obtain ⟨h1, h2, h3, h4, h5, h6, h7, h8⟩ := h
  unfold Th
  rw [f.n (k := 87) (by decide +kernel), f.n (k := 88) (by decide +kernel), f.n (k := 89) (by decide +kernel), f.n (k := 93) (by decide +kernel), f.v (k := 90) (by decide +kernel)]
  refine ⟨h1.cong ⟨Nat.le_refl _, h110, fun o _ => ⟨f.a (by decide) o, f.a (by decide) o⟩, h59⟩ (fun j _ _ => ⟨f.a (by decide) j, f.a (by decide) j, f.a (by decide) j, f.a (by decide) j, f.a (by decide) j, f.a (by decide) j, f.a (by decide) j⟩), h2, h3, h4, h5, ?_, ?_, h8.1, h8.2.cong ⟨Nat.le_refl _, h110, fun o _ => ⟨f.a (by decide) o, f.a (by decide) o⟩, h59⟩ (fun j _ => ⟨f.a (by decide) j, f.a (by decide) j, f.a (by decide) j, f.a (by decide) j, f.a (by decide) j, f.a (by decide) j, f.a (by decide) j⟩) (fun w => ⟨f.a (by decide) w, f.a (by decide) w, f.a (by decide) w, f.v (by decide +kernel)⟩)⟩
  · intro c cM W ha
    rw [f.fe (c := 46) (by decide), f.n (k := 87) (by decide +kernel), f.n (k := 89) (by decide +kernel)]; exact h6 c cM W ha
  · rw [f.fe (c := 46) (by decide)]; exact h7
set_option maxHeartbeats 2000000 in
theorem k_leaveCall {b : Nat} {Vb : Nat → Prop} {ve : Nat} {μ : Mem} {L : List Act} {cs : List Nat} {R : List Fm} {Zs : List Zc} {V : Nat → Prop} (hM : Mx true b Vb ve μ L cs R Zs V) (hR : Rm μ cs) (hVP : VP μ) (hat : 0 ≤ (μ.1 0 111).toInt ∧ (μ.1 0 111).toInt < (nv μ 110 : Int)) {f : Nat} (hf : f < nv μ 17) {l : List Nat} (hl1 : Lst (iv μ 45) 0 l) (hl5 : l.length ≤ 5) (hl2 : iv μ 3 f = (l.length : Int)) (hl3 : ∀ x, x ∈ l → Gd μ V x) {a1 a2 : Int32} (h1 : a1.toInt = (f : Int)) (h2 : a2.toInt = (l.length : Int)) : ok (p_X12_leaveCall a1 a2 μ) (Pq b Vb ve μ L cs R Zs V) := by
  obtain ⟨R1, R2, R3, R4⟩ := hR
  have e0 : (0 : Int32).toInt = 0 := by decide
  have e8 : (8 : Int32).toInt = 8 := by decide
  have em1 : (-1 : Int32).toInt = -1 := by decide
  -- the variant is found: what is left to do
  have b123 : ∀ (μ1 : Mem) (a3 : Int32) (v : Nat), a3.toInt = (v : Int) → Mx true b Vb ve μ1 L cs R Zs V → nv μ1 56 = nv μ 56 → nv μ1 89 = nv μ 89 → μ1.1 0 73 = μ.1 0 73 → VP μ1 → Md μ1 V l.length → v < nv μ1 110 → iv μ1 59 v = (c3 (iv μ1 67) (nv μ1 118) : Int) → c3 (iv μ1 67) (nv μ1 118) ≤ 8 → ok (p_X12_leaveCall_b123 a3 μ1) (Pq b Vb ve μ1 L cs R Zs V) := by
    intro μ1 a3 v h3 hM1 e56 e89 e73 hVP1 hMd hv h59 hc8
    obtain ⟨d1, d2, d3, d4, d5⟩ := hMd
    rw [p_X12_leaveCall_b123_eq]
    exact lc_lift h3 R2 FUEL 0 0 0 [] μ1 V hM1 (by omega) (by rw [e73]; exact R3) (by rw [e73]; exact R4) hVP1 hv d1 d2 h59 hc8 e0 e0 (by omega) (by show _ < 10000000000 + _; omega) rfl trivial (fun y hy => absurd hy (by simp)) (fun q _ hq => d5 q hq)
  -- a state on the way
  have St1 : ∀ (μ1 : Mem), Mx true b Vb ve μ1 L cs R Zs V → Fr frLC true μ μ1 → Gr μ μ1 → nv μ1 56 = nv μ 56 → nv μ1 89 = nv μ 89 → μ1.1 0 73 = μ.1 0 73 → VP μ1 → nv μ1 110 = nv μ 110 → Md μ1 V l.length → ∀ a3 : Int32, (a3 ≠ -1 → ∃ v : Nat, a3.toInt = (v : Int) ∧ v < nv μ1 110 ∧ iv μ1 59 v = (c3 (iv μ1 67) (nv μ1 118) : Int) ∧ c3 (iv μ1 67) (nv μ1 118) ≤ 8) → (a3 = -1 → c3 (iv μ1 67) (nv μ1 118) ≤ 8) → ok (p_X12_leaveCall_b108 a1 a3 μ1) (Pq b Vb ve μ L cs R Zs V) := by
    intro μ1 hM1 F1 G1 e56 e89 e73 hVP1 e110 hMd a3 hk hn
    rw [p_X12_leaveCall_b108_eq]
    refine ok_ite (fun h => ?_) (fun h => ?_)
    · have hc8 := hn h
      have x111 : μ1.1 0 111 = μ.1 0 111 := F1.v (by decide +kernel)
      have e17 : nv μ1 17 = nv μ 17 := F1.n (by decide +kernel)
      refine ok_bd (k_newVariant hM1.1.1 hVP1 hMd (f := f) (by omega) (by rw [F1.a (by decide)]; exact hl2) hc8 h1 (Or.inr ⟨(μ.1 0 111).toInt.toNat, by omega, by rw [x111]; omega⟩)) ?_
      rintro r31 μ30 ⟨q1, q2, q3⟩
      have q1 : IM μ30 := q1
      have q2 : Fr frNv true μ1 μ30 := q2
      have F30 : Fr frLC true μ μ30 := F1.trans (Fr.mono q2 (by decide +kernel) (fun h => h))
      have G30 : Gr μ1 μ30 := q2.gr (by decide +kernel)
      by_cases ho : μ30.1 0 68 = 0
      · obtain ⟨a1', a2', a3', a4', a5', a6'⟩ := q3.resolve_left (fun h => h ho)
        have a2' : r31.toInt = (nv μ1 110 : Int) := a2'
        have a3' : nv μ30 110 = nv μ1 110 + 1 := a3'
        have a4' : VP μ30 := a4'
        have a5' : iv μ30 59 (nv μ1 110) = (c3 (iv μ1 67) (nv μ1 118) : Int) := a5'
        have a6' : ∀ w, w < nv μ1 110 → iv μ30 59 w = iv μ1 59 w := a6'
        have hM30 : Mx true b Vb ve μ30 L cs R Zs V := by
          refine ⟨hM1.1.fr q1 q2 (by decide +kernel), hM1.2.1.gr G30, ho, fun _ => ⟨by rw [q2.v (by decide +kernel)]; exact (hM1.2.2.2.1 rfl).1, (hM1.2.2.2.1 rfl).2.nv q2 (by omega) a6'⟩, fun h => absurd h (by decide)⟩
        have k67 : iv μ30 67 = iv μ1 67 := q2.fe (by decide)
        have k118 : nv μ30 118 = nv μ1 118 := q2.n (by decide +kernel)
        have g56 : nv μ30 56 = nv μ1 56 := (q2.heq (by decide +kernel)).1
        have g89 : nv μ30 89 = nv μ1 89 := q2.n (by decide +kernel)
        have hMd30 : Md μ30 V l.length := by
          obtain ⟨d1, d2, d3, d4, d5⟩ := hMd
          unfold Md
          rw [k67, k118, q2.v (by decide +kernel), q2.fe (c := 69) (by decide)]
          exact ⟨d1, d2, d3, d4, fun p hp => by obtain ⟨x, x1, x2⟩ := d5 p hp; exact ⟨x, x1, x2.gr G30⟩⟩
        refine ok_mono (b123 μ30 r31 (nv μ1 110) a2' hM30 (by omega) (by omega) (by rw [q2.v (by decide +kernel)]; exact e73) a4' hMd30 (by omega) (by rw [a5', k67, k118]) (by rw [k67, k118]; exact hc8)) (fun q hq => hq.pre (fun u h => h) F30 (G1.tr G30) (by omega) (by omega) (by omega))
      · -- too many
        have fin : ∀ a4' : Int32, ok (p_X12_leaveCall_b186 r31 a4' μ30) (Pq b Vb ve μ L cs R Zs V) := by
          intro a4'
          rw [p_X12_leaveCall_b186_eq, if_neg ho]
          exact ok_some ⟨q1, F30, Or.inl ho⟩
        have hfu : FUEL = 9999999999 + 1 := rfl
        rw [p_X12_leaveCall_b123_eq, hfu, p_X12_leaveCall_b129_s]
        exact ok_ite (fun _ => fin _) (fun _ => by rw [if_neg ho]; exact fin _)
    · obtain ⟨v, k1, k2, k3, k4⟩ := hk h
      exact ok_mono (b123 μ1 a3 v k1 hM1 e56 e89 e73 hVP1 hMd k2 k3 k4) (fun q hq => hq.pre (fun u h => h) F1 G1 (by omega) (by omega) (by omega))
  -- a variant that has this pattern
  have fnd : ∀ (μ1 : Mem), VP μ1 → ∀ v : Nat, v < nv μ1 110 → iv μ1 58 v = (nv μ1 118 : Int) → (∀ p, p < nv μ1 118 → iv μ1 60 (210 * v + p) = iv μ1 67 p) → iv μ1 59 v = (c3 (iv μ1 67) (nv μ1 118) : Int) ∧ c3 (iv μ1 67) (nv μ1 118) ≤ 8 := by
    intro μ1 hVP1 v hv h58 h60
    obtain ⟨f', n', p1, p2, p3, p4, p5, p6, p7, p8, p9⟩ := hVP1 v hv
    have hn' : n' = nv μ1 118 := by omega
    subst hn'
    rw [c3_cong _ h60] at p7 p8
    exact ⟨p7, p8⟩
  -- all stars
  have b87 : ∀ (μ1 : Mem), Mx true b Vb ve μ1 L cs R Zs V → Fr frLC true μ μ1 → Gr μ μ1 → nv μ1 56 = nv μ 56 → nv μ1 89 = nv μ 89 → μ1.1 0 73 = μ.1 0 73 → VP μ1 → nv μ1 110 = nv μ 110 → ok (p_X12_leaveCall_b87 a1 a2 μ1) (Pq b Vb ve μ L cs R Zs V) := by
    intro μ1 hM1 F1 G1 e56 e89 e73 hVP1 e110
    rw [p_X12_leaveCall_b87_eq]
    have k45 : iv μ1 45 = iv μ 45 := F1.fe (by decide)
    refine ok_bw (k_layStars hM1.1.1 (V := V) (l := l) (by rw [k45]; exact hl1) hl5 (fun x hx => (hl3 x hx).gr G1) h2) ?_
    rintro μ35 ⟨c1, c2, c3', c4⟩
    refine ok_bv (fun μ37 em37 => ?_)
    have f37 : Fr [(0, 0, 97)] true μ35 μ37 := by rw [em37]; exact Fr.put Fr.rf (by decide +kernel)
    have hI37 : IM μ37 := by rw [em37]; exact IM_F c1 (rtm_0_97 _)
    have F2 : Fr (frSt ++ [(0, 0, 97)]) true μ1 μ37 := (Fr.mono c2 (by decide +kernel) (fun h => h)).trans (Fr.mono f37 (by decide +kernel) (fun h => h))
    have G37 : Gr μ35 μ37 := f37.gr (by decide +kernel)
    have hM37 := hM1.fr hI37 F2 (by decide +kernel) (by decide +kernel) (by decide +kernel)
    have hMd37 : Md μ37 V l.length := by
      obtain ⟨d1, d2, d3, d4, d5⟩ := c3'
      unfold Md
      rw [f37.fe (c := 67) (by decide), f37.n (by decide +kernel), f37.v (by decide +kernel), f37.fe (c := 69) (by decide)]
      exact ⟨d1, d2, d3, d4, fun p hp => by obtain ⟨x, x1, x2⟩ := d5 p hp; exact ⟨x, x1, x2.gr G37⟩⟩
    have hc37 : c3 (iv μ37 67) (nv μ37 118) ≤ 8 := by rw [f37.fe (c := 67) (by decide), f37.n (by decide +kernel)]; omega
    have hVP37 := hVP1.fr F2 (by decide +kernel)
    refine ok_bd (k_variantBy hI37 hMd37.1 hMd37.2.1 a1) ?_
    rintro r39 μ38 ⟨q1, q2⟩
    have q1 : μ37 = μ38 := Eq.symm q1
    subst q1
    refine St1 μ37 hM37 (F1.trans (Fr.mono F2 (by decide +kernel) (fun h => h))) (G1.tr (F2.gr (by decide +kernel))) (by rw [(F2.heq (by decide +kernel)).1]; exact e56) (by rw [F2.n (by decide +kernel)]; exact e89) (by rw [F2.v (by decide +kernel)]; exact e73) hVP37 (by rw [F2.n (by decide +kernel)]; exact e110) hMd37 r39 (fun h => ?_) (fun _ => hc37)
    obtain ⟨v, k1, k2, k3, k4, k5⟩ := q2.resolve_left h
    exact ⟨v, k1, k2, fnd μ37 hVP37 v k2 k4 k5⟩
  -- the ancestors
  have loop : ∀ (m : Nat) (a3 : Int32) (μ1 : Mem), (a3.toInt = -1 ∨ ∃ v : Nat, a3.toInt = (v : Int) ∧ v < nv μ1 110) → a3.toInt + 2 ≤ (m : Int) → Mx true b Vb ve μ1 L cs R Zs V → Fr frLC true μ μ1 → Gr μ μ1 → nv μ1 56 = nv μ 56 → nv μ1 89 = nv μ 89 → μ1.1 0 73 = μ.1 0 73 → VP μ1 → nv μ1 110 = nv μ 110 → Md μ1 V l.length → ok (p_X12_leaveCall_b10 m a1 a2 a3 μ1) (Pq b Vb ve μ L cs R Zs V) := by
    intro m
    induction m with
    | zero => intro a3 μ1 h3 hm; rcases h3 with h3 | ⟨v, h3, _⟩ <;> omega
    | succ m ih =>
      intro a3 μ1 h3 hm hM1 F1 G1 e56 e89 e73 hVP1 e110 hMd
      rw [p_X12_leaveCall_b10_s]
      have g110 := rgm_0_110 hM1.1.1
      have m110 := ti_nat (a := μ1.1 0 110) (by omega)
      have em110 : nv μ1 110 = (μ1.1 0 110).toNatClampNeg := rfl
      refine ok_ite (fun hm1 => ok_bd (k_variantBy hM1.1.1 hMd.1 hMd.2.1 a1) ?_) (fun hm1 => ?_)
      · rintro r6 μ5 ⟨q1, q2⟩
        have q1 : μ1 = μ5 := Eq.symm q1
        subst q1
        refine ok_ite (fun h6 => ok_bd (k_variantsOf hM1.1.1 a1) ?_) (fun h6 => ?_)
        · rintro r33 μ32 q3
          have q3 : μ1 = μ32 := Eq.symm q3
          subst q3
          have hb87 := b87 μ1 hM1 F1 G1 e56 e89 e73 hVP1 e110
          refine ok_gd (by decide) (ok_ite (fun _ => hb87) (fun _ => ok_gd (by decide) (ok_ite (fun _ => hb87) (fun _ => ok_bd (k_starsMade (μ := μ1) hMd.1 (by have := hMd.2.1; omega)) ?_))))
          rintro r42 μ41 ⟨s1, s2⟩
          have s1 : r42.toInt = (c3 (iv μ1 67) (nv μ1 118) : Int) := s1
          have s2 : μ1 = μ41 := Eq.symm s2
          subst s2
          refine ok_ite (fun hle => St1 μ1 hM1 F1 G1 e56 e89 e73 hVP1 e110 hMd r6 (fun h => absurd h6 h) (fun _ => ?_)) (fun _ => hb87)
          rw [ti_le] at hle; omega
        · refine St1 μ1 hM1 F1 G1 e56 e89 e73 hVP1 e110 hMd r6 (fun h => ?_) (fun h => absurd h h6)
          obtain ⟨v, k1, k2, k3, k4, k5⟩ := q2.resolve_left h
          exact ⟨v, k1, k2, fnd μ1 hVP1 v k2 k4 k5⟩
      · have hne : a3.toInt ≠ -1 := fun h => hm1 (ti_eq.mpr (by rw [h, em1]))
        obtain ⟨v, hv1, hv2⟩ := h3.resolve_left hne
        have bv : inb a3 25 = true := inb_iff.mpr (by omega)
        obtain ⟨f', n', p1, p2, p3, p4, p5, p6, p7, p8, p9⟩ := hVP1 v hv2
        -- on to the parent
        have b30 : ∀ μ2 : Mem, Mx true b Vb ve μ2 L cs R Zs V → Fr (frGr) true μ1 μ2 → Md μ2 V l.length → ok (p_X12_leaveCall_b30 (p_X12_leaveCall_b10 m) a1 a2 a3 μ2) (Pq b Vb ve μ L cs R Zs V) := by
          intro μ2 hM2 F2 hMd2
          rw [p_X12_leaveCall_b30_eq, tn_of hv1]
          refine ok_gd bv (ok_bv (fun v45 ev45 => ?_))
          have t45 : v45.toInt = iv μ1 66 v := by rw [ev45]; exact F2.a (c := 66) (by decide) v
          have k110 : nv μ2 110 = nv μ1 110 := F2.n (by decide +kernel)
          refine ih v45 μ2 ?_ ?_ hM2 (F1.trans (Fr.mono F2 (by decide +kernel) (fun h => h))) (G1.tr (F2.gr (by decide +kernel))) (by rw [(F2.heq (by decide +kernel)).1]; exact e56) (by rw [F2.n (by decide +kernel)]; exact e89) (by rw [F2.v (by decide +kernel)]; exact e73) (hVP1.fr F2 (by decide +kernel)) (by omega) hMd2
          · rcases p9 with p9 | ⟨w, w1, w2⟩
            · exact Or.inl (by rw [t45]; exact p9)
            · exact Or.inr ⟨w, by rw [t45]; exact w2, by omega⟩
          · rcases p9 with p9 | ⟨w, w1, w2⟩
            · rw [t45, p9]; omega
            · rw [t45, w2]; omega
        rw [tn_of hv1]
        refine ok_gd bv (ok_ite (fun h57 => ?_) (fun _ => b30 μ1 hM1 Fr.rf hMd))
        have hff : f' = f := by
          have : iv μ1 57 v = (f : Int) := by unfold iv; rw [h57]; exact h1
          omega
        subst hff
        have hparts : (iv μ1 3 f').toNat = l.length := by rw [F1.a (by decide), hl2]; rfl
        have p5' := p5.sh
        rw [hparts] at p5'
        refine ok_bw (k_growBy hM1.1.1 hMd (v := v) (by omega) n' p4 p5' hv1) ?_
        rintro μ46 ⟨q1, q2, q3⟩
        exact b30 μ46 (hM1.fr q1 q2 (by decide +kernel) (by decide +kernel) (by decide +kernel)) q2 q3
  rw [p_X12_leaveCall_eq]
  refine ok_bw (k_layMade hM.1.1 hM.1.2.1 hl1 hl5 hl3 h2) ?_
  rintro μ1 ⟨c1, c2, c3', c4⟩
  refine ok_bv (fun v3 ev3 => ?_)
  have x111 : μ1.1 0 111 = μ.1 0 111 := c2.v (by decide +kernel)
  have k110 : nv μ1 110 = nv μ 110 := c2.n (by decide +kernel)
  have hM1 := hM.fr c1 c2 (by decide +kernel) (by decide +kernel) (by decide +kernel)
  refine loop FUEL v3 μ1 (Or.inr ⟨(μ.1 0 111).toInt.toNat, by rw [ev3, x111]; omega, by omega⟩) (by rw [ev3, x111]; have := ti_hi (μ.1 0 111); show _ ≤ ((10000000000 : Nat) : Int); omega) hM1 (Fr.mono c2 (by decide +kernel) (fun h => h)) (c2.gr (by decide +kernel)) (c2.heq (by decide +kernel)).1 (c2.n (by decide +kernel)) (c2.v (by decide +kernel)) (hVP.fr c2 (by decide +kernel)) k110 c3'
