/-! THE VALUE OF AN ITEM -/
theorem Opd.gr {μ μ' : Mem} {V : Nat → Prop} {o : Nat} {L : List (Nat × Nat × Nat)} {bb : Bool} (h : Opd μ (nv μ 88) V o) (f : Fr L bb μ μ') (n : (nf L 88 && na L 53 && na L 54) = true) : Opd μ' (nv μ' 88) V o := by
  simp only [Bool.and_eq_true] at n
  obtain ⟨h1, h2⟩ := h
  unfold Opd
  rw [f.n n.1.1, f.a n.1.2, f.a n.2]
  exact ⟨h1, h2⟩
set_option maxHeartbeats 2000000 in
theorem k_itemValue {μ : Mem} (hI : IM μ) (hH : HI μ) {V : Nat → Prop} {i o F : Nat} {a1 a2 : Int32} (ha : a1.toInt = (i : Int)) (hi : i < 960) (ha2 : a2.toInt = (o : Int)) (ho : iv μ 51 i = (o : Int)) (hP : Pl μ (nv μ 88) (nv μ 110) V i) (hk : iv μ 46 i ≠ 7 ∧ iv μ 46 i ≠ 11 ∧ iv μ 46 i ≠ 12) (hF : (μ.1 0 126).toInt = (F : Int)) (hF2 : F ≤ 9600) (hR : Rg μ F V) (hh : nv μ 56 + 3 ≤ 100000) : ok (p_X12_itemValue a1 a2 μ) (Vy μ) := by
  have e0 : (0 : Int32).toInt = 0 := by decide
  have e1 : (1 : Int32).toInt = 1 := by decide
  have e2 : (2 : Int32).toInt = 2 := by decide
  have e9 : (9 : Int32).toInt = 9 := by decide
  have e10 : (10 : Int32).toInt = 10 := by decide
  have e8 : (8 : Int32).toInt = 8 := by decide
  have e40 : (40 : Int32).toInt = 40 := by decide
  have n1 : a1.toNatClampNeg = i := tn_of ha
  have b1 : inb a1 960 = true := inb_iff.mpr (by omega)
  have g88 := rgm_0_88 hI
  have m88 := ti_nat (a := μ.1 0 88) (by omega)
  have en88 : nv μ 88 = (μ.1 0 88).toNatClampNeg := rfl
  obtain ⟨_, _, _, o', ho', hP⟩ := hP
  have hoo : o' = o := by omega
  subst hoo
  have hO : iv μ 46 i ≠ 9 → Opd μ (nv μ 88) V o' := by
    intro h9
    rcases hP with ⟨h, _⟩ | h | ⟨h, _⟩ | ⟨_, _, _, h⟩ | ⟨_, _, h⟩ | ⟨_, h, _⟩ | ⟨h, _⟩
    · exact absurd h hk.1
    · exact absurd h hk.2.2
    · exact absurd h h9
    · exact h
    · exact h
    · exact h
    · exact absurd h hk.2.1
  have hO2 : (iv μ 46 i = 0 ∨ iv μ 46 i = 10) → Opd μ (nv μ 88) V (o' + 1) := by
    intro h0
    rcases hP with ⟨h, _⟩ | h | ⟨h, _⟩ | ⟨h, _⟩ | ⟨h, h', _⟩ | ⟨_, _, h, _⟩ | ⟨h, _⟩
    · omega
    · omega
    · omega
    · omega
    · omega
    · exact h
    · omega
  have h48 : (iv μ 46 i = 8 ∨ iv μ 46 i = 9) → 0 ≤ iv μ 48 i ∧ iv μ 48 i < 8 := by
    intro h0
    rcases hP with ⟨h, _⟩ | h | ⟨_, h⟩ | ⟨_, h, h', _⟩ | ⟨h, h', _⟩ | ⟨h, _⟩ | ⟨h, _⟩
    · omega
    · omega
    · exact h
    · exact ⟨h, h'⟩
    · omega
    · omega
    · omega
  rw [p_X12_itemValue_eq, n1]
  refine ok_gd b1 (ok_bv (fun v1 ev1 => ?_))
  have t1 : v1.toInt = iv μ 46 i := by rw [ev1]; rfl
  have kk : ∀ w : Int32, v1 = w → iv μ 46 i = w.toInt := fun w h => by rw [← t1, h]
  refine ok_ite (fun h9 => ?_) (fun h9 => ?_)
  · have k9 := kk 9 h9
    rw [e9] at k9
    obtain ⟨c1, c2⟩ := h48 (Or.inr k9)
    have c1 : 0 ≤ (μ.1 48 i).toInt := c1
    have c2 : (μ.1 48 i).toInt < 8 := c2
    refine ok_gd b1 (ok_ite (fun _ => ?_) (fun _ => ?_))
    · rw [p_X12_itemValue_b29_eq, n1]
      exact ok_gd b1 (ok_gd (inb_iff.mpr (by omega)) (vy_node hI hH Gr.rf Fr.rf rfl (by omega) (by omega) (Or.inr e1)))
    · rw [p_X12_itemValue_b29_eq, n1]
      exact ok_gd b1 (ok_gd (inb_iff.mpr (by omega)) (vy_node hI hH Gr.rf Fr.rf rfl (by omega) (by omega) (Or.inl e0)))
  have hOo := hO (fun h => h9 (ti_eq.mpr (by rw [t1, h, e9])))
  have ta2 : (a2 + 1).toInt = ((o' + 1 : Nat) : Int) := by
    have := hOo.1
    rw [ti_add (by omega) (by omega), e1, ha2]; omega
  refine ok_bd (k_valueOf hI hH ha2 hOo hF hF2 hR (by omega)) ?_
  rintro r4 μ3 ⟨x, x1, x2, x3, x4, x5, x6, x7⟩
  have x1 : r4.toInt = (x : Int) := x1
  have x2 : IM μ3 := x2
  have x3 : HI μ3 := x3
  have x4 : Gr μ μ3 := x4
  have x5 : Fr frN true μ μ3 := x5
  have x6 : nv μ3 56 ≤ nv μ 56 + 1 := x6
  have x7 : Gz μ3 x := x7
  have lx := x7.1.lt
  have n4 : r4.toNatClampNeg = x := tn_of x1
  have b4 : inb r4 100000 = true := inb_iff.mpr (by omega)
  have f3 : Fr frIV true μ μ3 := Fr.mono x5 (by decide +kernel) (fun h => h)
  have z68 : μ3.1 0 68 = μ.1 0 68 := x5.v (by decide +kernel)
  -- a second operand
  have second : ∀ μ8 : Mem, μ8 = μ3 → (iv μ 46 i = 0 ∨ iv μ 46 i = 10) → ok (p_X12_valueOf (a2 + 1) μ8) (Vz μ3) := by
    intro μ8 e8' h0
    rw [e8']
    exact k_valueOf x2 x3 ta2 ((hO2 h0).gr x5 (by decide +kernel)) (by rw [x5.v (by decide +kernel)]; exact hF) hF2 (hR.fr x5 x4 (by decide +kernel)) (by omega)
  rw [n4]
  refine ok_ite (fun h10 => ?_) (fun h10 => ok_ite (fun h4 => ok_gd b4 (ok_ite (fun hp => ok_gd b4 ?_) (fun hp => ?_))) (fun h4 => ok_ite (fun h5 => ok_gd b4 (ok_ite (fun hp => ok_gd b4 ?_) (fun hp => ?_))) (fun h5 => ?_)))
  · have k10 := kk 10 h10
    refine ok_bd (second μ3 rfl (Or.inr k10)) ?_
    rintro r34 μ33 ⟨y, y1, y2, y3, y4, y5, y6, y7⟩
    have y1 : r34.toInt = (y : Int) := y1
    have y2 : IM μ33 := y2
    have y3 : HI μ33 := y3
    have y4 : Gr μ3 μ33 := y4
    have y5 : Fr frN true μ3 μ33 := y5
    have y6 : nv μ33 56 ≤ nv μ3 56 + 1 := y6
    have y7 : Gz μ33 y := y7
    have x8 := x7.gr y4
    refine ok_bd (t_pair y2 y3 x1 y1 x8.1.lt y7.1.lt (by have := x8.2; have := y7.2; omega) (by omega)) ?_
    rintro r36 μ35 ⟨w1, w2, w3, w4, w5, w6, w7, w8, w9, w10⟩
    have w1 : r36.toInt = (nv μ33 56 : Int) := w1
    have w2 : IM μ35 := w2
    have w3 : Fr frN true μ33 μ35 := w3
    have w4 : HI μ35 := w4
    have w5 : Gr μ33 μ35 := w5
    have w6 : nv μ35 56 = nv μ33 56 + 1 := w6
    have F35 : Fr frN true μ μ35 := (x5.trans y5).trans w3
    have F35' : Fr frIV true μ μ35 := Fr.mono F35 (by decide +kernel) (fun h => h)
    have n36 : r36.toNatClampNeg = nv μ33 56 := tn_of w1
    rw [n36]
    refine ok_gd (inb_iff.mpr (by omega)) (ok_ite (fun hle => ?_) (fun _ => ok_bv (fun μ38 em => ?_)))
    · rw [ti_le, e40] at hle
      exact ok_some ⟨nv μ33 56, w1, w2, w4, (x4.tr y4).tr w5, F35', by show nv μ35 56 ≤ _; omega, by show _ < nv μ35 56; omega, Or.inr ⟨F35.v (by decide +kernel), Vl.pair (by omega) w7 w8 w9 (x8.1.gr w5) (y7.1.gr w5), hle⟩⟩
    · have f38 : Fr [(0, 0, 68)] true μ35 μ38 := by rw [em]; exact Fr.put Fr.rf (by decide +kernel)
      have e56 : nv μ38 56 = nv μ35 56 := (f38.heq (by decide +kernel)).1
      exact ok_some ⟨nv μ33 56, w1, by rw [em]; exact IM_F w2 (rtm_0_68 _), w4.fr f38 (by decide +kernel), ((x4.tr y4).tr w5).tr (f38.gr (by decide +kernel)), F35'.trans (Fr.mono f38 (by decide +kernel) (fun h => h)), by show nv μ38 56 ≤ _; omega, by show _ < nv μ38 56; omega, Or.inl (by show μ38.1 0 68 ≠ 0; rw [em, sF_v]; decide)⟩
  · -- first
    have hp : iv μ3 30 x = 2 := by unfold iv; rw [hp]; exact e2
    obtain ⟨v1', v2'⟩ := x7.1.kids hp
    obtain ⟨_, ⟨hz, _⟩ | ⟨_, p, q, hp1, hq1, hpx, hqx, hw⟩⟩ := x3 x lx
    · omega
    have wq := (x3 q (by omega)).1
    have hx2 := x7.2
    rw [hp1] at v1'
    exact ok_some ⟨p, hp1, x2, x3, x4, f3, by show nv μ3 56 ≤ _; omega, by show p < nv μ3 56; omega, Or.inr ⟨z68, v1', by show iv μ3 33 p ≤ 40; omega⟩⟩
  · exact ok_some ⟨x, x1, x2, x3, x4, f3, by show nv μ3 56 ≤ _; omega, lx, Or.inr ⟨z68, x7⟩⟩
  · have hp : iv μ3 30 x = 2 := by unfold iv; rw [hp]; exact e2
    obtain ⟨v1', v2'⟩ := x7.1.kids hp
    obtain ⟨_, ⟨hz, _⟩ | ⟨_, p, q, hp1, hq1, hpx, hqx, hw⟩⟩ := x3 x lx
    · omega
    have wp := (x3 p (by omega)).1
    have hx2 := x7.2
    rw [hq1] at v2'
    exact ok_some ⟨q, hq1, x2, x3, x4, f3, by show nv μ3 56 ≤ _; omega, by show q < nv μ3 56; omega, Or.inr ⟨z68, v2', by show iv μ3 33 q ≤ 40; omega⟩⟩
  · exact vy_node x2 x3 x4 f3 z68 (by omega) (by omega) (Or.inl e0)
  · refine ok_bd (t_num x2 x3 x1 lx) ?_
    rintro r9 μ8 ⟨k, k1, k2, k3⟩
    have k2 : μ3 = μ8 := k2.symm
    subst k2
    have k1 : r9.toInt = (k : Int) := k1
    have lk := k3.2.1
    have b9 : inb r9 100000 = true := inb_iff.mpr (by omega)
    refine ok_ite (fun h0 => ?_) (fun h0 => ok_ite (fun h8 => ?_) (fun h8 => ?_))
    · have k0 := kk 0 h0
      refine ok_bd (second μ3 rfl (Or.inl k0)) ?_
      rintro r22 μ21 ⟨y, y1, y2, y3, y4, y5, y6, y7⟩
      have y1 : r22.toInt = (y : Int) := y1
      have y2 : IM μ21 := y2
      have y3 : HI μ21 := y3
      have y4 : Gr μ3 μ21 := y4
      have y5 : Fr frN true μ3 μ21 := y5
      have y6 : nv μ21 56 ≤ nv μ3 56 + 1 := y6
      have y7 : Gz μ21 y := y7
      refine ok_bd (t_num y2 y3 y1 y7.1.lt) ?_
      rintro r24 μ23 ⟨j, j1, j2, j3⟩
      have j2 : μ21 = μ23 := j2.symm
      subst j2
      have j1 : r24.toInt = (j : Int) := j1
      have lj := j3.2.1
      have b24 : inb r24 100000 = true := inb_iff.mpr (by omega)
      refine ok_gd b1 (ok_gd b9 (ok_gd b9 (ok_gd b24 (ok_gd b24 (ok_bw (ok_pk (k_X12_join _ _ _ _ _ μ21 y2) (q_join _ _ _ _ _ μ21)) ?_)))))
      rintro μ25 ⟨⟨f1, f2⟩, f4⟩
      have e56 : nv μ25 56 = nv μ21 56 := (f2.heq (by decide +kernel)).1
      exact vy_given f1 (y3.fr f2 (by decide +kernel)) ((x4.tr y4).tr (f2.gr (by decide +kernel))) ((f3.trans (Fr.mono y5 (by decide +kernel) (fun h => h))).trans (Fr.mono f2 (by decide +kernel) (fun h => h))) (by rw [f2.v (by decide +kernel), y5.v (by decide +kernel)]; exact z68) (by omega) (by omega) f4
    · have k8 := kk 8 h8
      rw [e8] at k8
      obtain ⟨c1, c2⟩ := h48 (Or.inl k8)
      refine ok_gd b1 (ok_bw (ok_pk (k_X12_holdAt _ _ μ3 x2 (by omega)) (q_holdAt _ _ μ3)) ?_)
      rintro μ16 ⟨⟨f1, f2⟩, f4⟩
      have h48' : (μ16.1 48 i).toInt = iv μ 48 i := by
        have h1 := f2.a (c := 48) (by decide) i
        have h2 := x5.a (c := 48) (by decide) i
        show iv μ16 48 i = _
        rw [h1, h2]
      refine ok_gd b1 (ok_gd (inb_iff.mpr (by omega)) (ok_bv (fun μ18 em => ?_)))
      have f18 : Fr [(1, 42, 0)] true μ16 μ18 := by rw [em]; exact Fr.puta Fr.rf (by decide +kernel)
      have hI18 : IM μ18 := by rw [em]; exact IM_F f1 (rtma_42 _ _)
      have e56 : nv μ16 56 = nv μ3 56 := (f2.heq (by decide +kernel)).1
      have e56' : nv μ18 56 = nv μ16 56 := (f18.heq (by decide +kernel)).1
      exact vy_given hI18 ((x3.fr f2 (by decide +kernel)).fr f18 (by decide +kernel)) ((x4.tr (f2.gr (by decide +kernel))).tr (f18.gr (by decide +kernel))) ((f3.trans (Fr.mono f2 (by decide +kernel) (fun h => h))).trans (Fr.mono f18 (by decide +kernel) (fun h => h))) (by rw [f18.v (by decide +kernel), f2.v (by decide +kernel)]; exact z68) (by omega) (by omega) (by rw [f18.v (by decide +kernel)]; exact f4)
    · refine ok_gd b9 (ok_gd b9 (ok_bw (ok_pk (k_X12_turn _ _ _ μ3 x2) (q_turn _ _ _ μ3)) ?_))
      rintro μ12 ⟨⟨f1, f2⟩, f4⟩
      have e56 : nv μ12 56 = nv μ3 56 := (f2.heq (by decide +kernel)).1
      exact vy_given f1 (x3.fr f2 (by decide +kernel)) (x4.tr (f2.gr (by decide +kernel))) (f3.trans (Fr.mono f2 (by decide +kernel) (fun h => h))) (by rw [f2.v (by decide +kernel)]; exact z68) (by omega) (by omega) f4
