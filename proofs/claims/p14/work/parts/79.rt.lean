/-! A RUN OF THE TASK -/
theorem q_begin (a : Int32) (μ : Mem) : pk (p_X12_begin a μ) (fun q => q.1 0 69 = a ∧ q.1 0 65 = 0 ∧ q.1 0 66 = 0 ∧ q.1 0 67 = 0 ∧ q.1 0 68 = 0) := by
  rw [p_X12_begin_eq]
  refine pk_gd fun _ => pk_bv (pk_bv (pk_bv (pk_bv (pk_bv (pk_some ⟨?_, ?_, ?_, ?_, ?_⟩)))))
  · rw [sF_k (by decide), sF_k (by decide), sF_k (by decide), sF_k (by decide), sF_v]
  · rw [sF_k (by decide), sF_k (by decide), sF_k (by decide), sF_v]
  · rw [sF_k (by decide), sF_k (by decide), sF_v]
  · rw [sF_k (by decide), sF_v]
  · rw [sF_v]
def frB0 : List (Nat × Nat × Nat) := [(0, 0, 56), (0, 0, 75), (0, 0, 76), (0, 0, 77), (0, 0, 73), (0, 0, 122), (1, 42, 0)]
def frBR : List (Nat × Nat × Nat) := frB0 ++ [(0, 0, 65), (0, 0, 66), (0, 0, 67), (0, 0, 68), (0, 0, 69)] ++ frBL
def BR (μ q : Mem) : Prop := IM q ∧ HI q ∧ Fr frBR true μ q ∧ nv q 56 ≤ 30 ∧ LA q (nv μ 47) ∧ q.1 0 65 = 0 ∧ q.1 0 66 = 0 ∧ q.1 0 67 = 0 ∧ q.1 0 68 = 0 ∧ q.1 0 69 = 0 ∧ q.1 0 75 = 0 ∧ q.1 0 76 = 0 ∧ q.1 0 73 = 0 ∧ q.1 0 122 = 0
theorem k_beginRun {μ : Mem} (hI : IM μ) (hW : VW μ) : ok (p_X12_beginRun μ) (BR μ) := by
  have e0 : (0 : Int32).toInt = 0 := by decide
  have e1 : (1 : Int32).toInt = 1 := by decide
  have e8 : (8 : Int32).toInt = 8 := by decide
  have loop : ∀ (m : Nat) (a : Int32) (i : Nat) (μ2 : Mem), a.toInt = (i : Int) → i ≤ 8 → 8 < m + i → IM μ2 → Fr frB0 true μ μ2 → nv μ2 56 = 0 → μ2.1 0 75 = 0 → μ2.1 0 76 = 0 → μ2.1 0 73 = 0 → μ2.1 0 122 = 0 → ok (p_X12_beginRun_b32 m a μ2) (BR μ) := by
    intro m
    induction m with
    | zero => intro a i μ2 _ h1 h2; omega
    | succ m ih =>
      intro a i μ2 ha hi hm hI2 F2 h56 h75 h76 h73 h122
      rw [p_X12_beginRun_b32_s]
      refine ok_ite (fun hle => ?_) (fun hle => ?_)
      · refine ok_bw (ok_pk (k_X12_begin 0 μ2 hI2 (Or.inl e0)) (q_begin 0 μ2)) ?_
        rintro μ8 ⟨⟨b1, b2⟩, b3, b4, b5, b6, b7⟩
        have b2 : Fr [(0, 0, 65), (0, 0, 66), (0, 0, 67), (0, 0, 68), (0, 0, 69)] true μ2 μ8 := b2
        have n56 : nv μ8 56 = 0 := by rw [b2.n (by decide +kernel)]; exact h56
        have F8 : Fr (frB0 ++ [(0, 0, 65), (0, 0, 66), (0, 0, 67), (0, 0, 68), (0, 0, 69)]) true μ μ8 := (Fr.mono F2 (by decide +kernel) (fun h => h)).trans (Fr.mono b2 (by decide +kernel) (fun h => h))
        have hW8 : VW μ8 := by
          unfold VW
          rw [F8.fe (c := 27) (by decide), F8.n (k := 46) (by decide +kernel), F8.n (k := 47) (by decide +kernel)]; exact hW
        refine ok_bw (k_buildLeaves μ8 b1 (fun k hk => by omega) hW8 (by omega)) ?_
        rintro q ⟨q1, q2, q3, q4, q5⟩
        rw [F8.n (k := 47) (by decide +kernel)] at q5
        refine ok_some ⟨q1, q2, (Fr.mono F8 (by decide +kernel) (fun h => h)).trans (Fr.mono q3 (by decide +kernel) (fun h => h)), by omega, q5, ?_, ?_, ?_, ?_, ?_, ?_, ?_, ?_, ?_⟩
        · rw [q3.v (by decide +kernel)]; exact b4
        · rw [q3.v (by decide +kernel)]; exact b5
        · rw [q3.v (by decide +kernel)]; exact b6
        · rw [q3.v (by decide +kernel)]; exact b7
        · rw [q3.v (by decide +kernel)]; exact b3
        · rw [q3.v (by decide +kernel), b2.v (by decide +kernel)]; exact h75
        · rw [q3.v (by decide +kernel), b2.v (by decide +kernel)]; exact h76
        · rw [q3.v (by decide +kernel), b2.v (by decide +kernel)]; exact h73
        · rw [q3.v (by decide +kernel), b2.v (by decide +kernel)]; exact h122
      · rw [ti_le, e8] at hle
        refine ok_gd (inb_iff.mpr (by omega)) (ok_bv (fun μ12 em => ok_bv (fun v13 ev => ?_)))
        have f12 : Fr frB0 true μ2 μ12 := by rw [em]; exact Fr.puta Fr.rf (by decide +kernel)
        have ks : ∀ k, μ12.1 0 k = μ2.1 0 k := fun k => by rw [em, sF_i (by decide)]
        exact ih v13 (i + 1) μ12 (by rw [ev, ti_add (by omega) (by omega), e1, ha]; omega) (by omega) (by omega) (by rw [em]; exact IM_F hI2 (rtma_42 _ _)) (F2.trans f12) (by unfold nv; rw [ks]; exact h56) (by rw [ks]; exact h75) (by rw [ks]; exact h76) (by rw [ks]; exact h73) (by rw [ks]; exact h122)
  rw [p_X12_beginRun_eq]
  refine ok_bv (fun μ1 m1 => ok_bv (fun μ2 m2 => ok_bv (fun μ3 m3 => ok_bv (fun μ4 m4 => ok_bv (fun μ5 m5 => ok_bv (fun μ6 m6 => ?_))))))
  have hI1 : IM μ1 := by rw [m1]; exact IM_F hI (rpm_0_56 (by rw [e0]; omega))
  have hI2 : IM μ2 := by rw [m2]; exact IM_F hI1 (rpm_0_75 (by rw [e0]; omega))
  have hI3 : IM μ3 := by rw [m3]; exact IM_F hI2 (rtm_0_76 _)
  have hI4 : IM μ4 := by rw [m4]; exact IM_F hI3 (rtm_0_77 _)
  have hI5 : IM μ5 := by rw [m5]; exact IM_F hI4 (rtm_0_73 _)
  have hI6 : IM μ6 := by rw [m6]; exact IM_F hI5 (rtm_0_122 _)
  have F1 : Fr frB0 true μ μ1 := by rw [m1]; exact Fr.put Fr.rf (by decide +kernel)
  have F2 : Fr frB0 true μ μ2 := by rw [m2]; exact Fr.put F1 (by decide +kernel)
  have F3 : Fr frB0 true μ μ3 := by rw [m3]; exact Fr.put F2 (by decide +kernel)
  have F4 : Fr frB0 true μ μ4 := by rw [m4]; exact Fr.put F3 (by decide +kernel)
  have F5 : Fr frB0 true μ μ5 := by rw [m5]; exact Fr.put F4 (by decide +kernel)
  have F6 : Fr frB0 true μ μ6 := by rw [m6]; exact Fr.put F5 (by decide +kernel)
  refine loop FUEL 0 0 μ6 e0 (by omega) (by show 8 < 10000000000 + 0; omega) hI6 F6 ?_ ?_ ?_ ?_ ?_
  · unfold nv; rw [m6, sF_k (by decide), m5, sF_k (by decide), m4, sF_k (by decide), m3, sF_k (by decide), m2, sF_k (by decide), m1, sF_v]; decide
  · rw [m6, sF_k (by decide), m5, sF_k (by decide), m4, sF_k (by decide), m3, sF_k (by decide), m2, sF_v]
  · rw [m6, sF_k (by decide), m5, sF_k (by decide), m4, sF_k (by decide), m3, sF_v]
  · rw [m6, sF_k (by decide), m5, sF_v]
  · rw [m6, sF_v]
def frRT : List (Nat × Nat × Nat) := frBR ++ frBT ++ fgR ++ frER
def RT (μ q : Mem) : Prop := IM q ∧ Fr frRT true μ q ∧ (0 ≤ (q.1 0 122).toInt ∧ (q.1 0 122).toInt ≤ 40) ∧ 0 ≤ (q.1 0 73).toInt ∧ (q.1 0 73).toInt ≤ 500001
theorem k_rt99 {μ0 μ : Mem} (hF : Fr frRT true μ0 μ) (hI : IM μ) (h122 : (μ.1 0 122).toInt = 0) (h73 : 0 ≤ (μ.1 0 73).toInt ∧ (μ.1 0 73).toInt ≤ 500001) (h : μ.1 0 68 = 0 → ∃ b Vb ve z R V, Mx false b Vb ve μ [] [z] R [] V) : ok (p_X12_runTask_b99 μ) (RT μ0) := by
  rw [p_X12_runTask_b99_eq]
  refine ok_ite (fun h0 => ?_) (fun h0 => ?_)
  · obtain ⟨b, Vb, ve, z, R, V, hM⟩ := h h0
    refine ok_bd hM.gone ?_
    rintro r14 μ13 ⟨g1, g2, g3, g4, g5, g6, g7, g8⟩
    have g2 : Fr fdR true μ μ13 := g2
    have g7 : Gd μ13 V z := g7
    have g8 : Mx false b Vb ve μ13 [] [] R [] V := g8
    refine ok_bw (k_endRun g8.1.1 (by rw [g2.v (by decide +kernel)]; exact h122) (fun _ => ⟨g8.1.2.1, z, g1, g7.1.lt, g7.2⟩)) ?_
    rintro q ⟨q1, q2, q3⟩
    exact ok_some ⟨q1, (hF.trans (Fr.mono g2 (by decide +kernel) (fun h => h))).trans (Fr.mono q2 (by decide +kernel) (fun h => h)), q3, by rw [q2.v (by decide +kernel)]; have g6 : μ13.1 0 73 = μ.1 0 73 := g6; rw [g6]; exact h73⟩
  · refine ok_bw (k_endRun hI h122 (fun h => absurd h h0)) ?_
    rintro q ⟨q1, q2, q3⟩
    exact ok_some ⟨q1, hF.trans (Fr.mono q2 (by decide +kernel) (fun h => h)), q3, by rw [q2.v (by decide +kernel)]; exact h73⟩
set_option maxHeartbeats 2000000 in
theorem k_runTask {μ : Mem} (hI : IM μ) (hW : VW μ) (hT : TW μ) (hP : PW μ) (h29 : 0 ≤ iv μ 29 0 ∧ iv μ 29 0 ≤ 12) (hc : nv μ 47 = nv μ 45) : ok (p_X12_runTask μ) (RT μ) := by
  have e0 : (0 : Int32).toInt = 0 := by decide
  have e1 : (1 : Int32).toInt = 1 := by decide
  have e40 : (40 : Int32).toInt = 40 := by decide
  rw [p_X12_runTask_eq]
  refine ok_bw (k_beginRun hI hW) ?_
  rintro μ1 ⟨b1, b2, b3, b4, b5, b65, b66, b67, b68, b69, b75, b76, b73, b122⟩
  have k45 : nv μ1 45 = nv μ 45 := b3.n (by decide +kernel)
  have hT1 : TW μ1 := by
    unfold TW
    rw [b3.fe (c := 25) (by decide), b3.n (k := 43) (by decide +kernel), b3.n (k := 44) (by decide +kernel), k45]; exact hT
  refine ok_bw (k_buildTask 1 (fun _ => False) 31 (by decide) μ1 b1 b2 hT1 (by omega) (fun h => absurd h (by decide)) (fun _ => ⟨by rw [k45, ← hc]; exact b5, rfl⟩)) ?_
  rintro μ3 ⟨c1, c2, c3, c4, l, c5, ⟨c6, c7⟩, _⟩
  have g43 := rgm_0_43 hI
  have n43 := ti_nat (a := μ.1 0 43) (by omega)
  have en43 : nv μ 43 = (μ.1 0 43).toNatClampNeg := rfl
  have F3 : Fr (frBR ++ frBT) true μ μ3 := (Fr.mono b3 (by decide +kernel) (fun h => h)).trans (Fr.mono c3 (by decide +kernel) (fun h => h))
  have m43 : nv μ1 43 = nv μ 43 := b3.n (by decide +kernel)
  rw [m43] at c5
  have hPA : PA (iv μ 7) (iv μ 8) (iv μ 9) (iv μ 10) (nv μ 18) μ := ⟨rfl, rfl, rfl, rfl, rfl, hP, h29⟩
  have hPA3 := hPA.fr F3 (by decide +kernel)
  have hh3 : nv μ3 56 ≤ 60 := by omega
  have ehp := hp_nv c1
  have g56 := rgm_0_56 c1
  have z65 : μ3.1 0 65 = 0 := by rw [c3.v (by decide +kernel)]; exact b65
  have z66 : μ3.1 0 66 = 0 := by rw [c3.v (by decide +kernel)]; exact b66
  have z67 : μ3.1 0 67 = 0 := by rw [c3.v (by decide +kernel)]; exact b67
  have z68 : μ3.1 0 68 = 0 := by rw [c3.v (by decide +kernel)]; exact b68
  have z69 : μ3.1 0 69 = 0 := by rw [c3.v (by decide +kernel)]; exact b69
  have z75 : μ3.1 0 75 = 0 := by rw [c3.v (by decide +kernel)]; exact b75
  have z76 : μ3.1 0 76 = 0 := by rw [c3.v (by decide +kernel)]; exact b76
  have z73 : μ3.1 0 73 = 0 := by rw [c3.v (by decide +kernel)]; exact b73
  have z122 : μ3.1 0 122 = 0 := by rw [c3.v (by decide +kernel)]; exact b122
  have hF : ∀ {μ2 : Mem}, Fr [(0, 0, 68)] true μ3 μ2 → Fr frRT true μ μ2 := fun f => (Fr.mono F3 (by decide +kernel) (fun h => h)).trans (Fr.mono f (by decide +kernel) (fun h => h))
  -- the call of the task
  have b76' : ∀ (μ2 : Mem) (a : Int32), IM μ2 → Fr [(0, 0, 68)] true μ3 μ2 → (μ2.1 0 68 = 0 → (∀ x, x ∈ l → iv μ3 33 x ≤ 40) ∧ ∃ f : Nat, a.toInt = (f : Int) ∧ f < nv μ2 17 ∧ iv μ2 3 f = (l.length : Int)) → ok (p_X12_runTask_b76 a μ2) (RT μ) := by
    intro μ2 a hI2 f2 h2
    rw [p_X12_runTask_b76_eq]
    refine ok_ite (fun h0 => ?_) (fun h0 => k_rt99 (hF f2) hI2 (by rw [f2.v (by decide +kernel), z122]; exact e0) (by rw [f2.v (by decide +kernel), z73, e0]; omega) (fun h => absurd h h0))
    obtain ⟨hw, f, f1, f3, f4⟩ := h2 h0
    have hq2 := f2.heq (by decide +kernel)
    have G2 : Gr μ3 μ2 := f2.gr (by decide +kernel)
    refine ok_bd (ok_pk (k_X12_beginsCall μ2 hI2) (q_beginsCall μ2)) ?_
    rintro r8 μ7 ⟨⟨i1, i2, _⟩, i3⟩
    have i1 : IM μ7 := i1
    have i2 : Fr [(0, 0, 68), (0, 0, 75), (0, 0, 76), (0, 0, 77)] true μ2 μ7 := i2
    have F7 : Fr frRT true μ μ7 := (hF f2).trans (Fr.mono i2 (by decide +kernel) (fun h => h))
    rcases i3 with ⟨i3, i4⟩ | ⟨i3, i4, i5, i6, i7, i8⟩
    · have i3 : r8 = 0 := i3
      have i4 : μ7.1 0 68 ≠ 0 := i4
      rw [if_pos i3]
      exact k_rt99 F7 i1 (by rw [i2.v (by decide +kernel), f2.v (by decide +kernel), z122]; exact e0) (by rw [i2.v (by decide +kernel), f2.v (by decide +kernel), z73, e0]; omega) (fun h => absurd h i4)
    · have i3 : r8 = 1 := i3
      have i6 : μ7.1 0 75 = μ2.1 0 75 + 1 := i6
      have i7 : μ7.1 0 76 = μ2.1 0 76 + 1 := i7
      have i8 : μ7.1 0 68 = μ2.1 0 68 := i8
      rw [if_neg (by rw [i3]; decide)]
      rw [f2.v (by decide +kernel), z75] at i6
      rw [f2.v (by decide +kernel), z76] at i7
      have x75 : (μ7.1 0 75).toInt = 1 := by rw [i6]; decide
      have x76 : (μ7.1 0 76).toInt = 1 := by rw [i7]; decide
      have G7 : Gr μ2 μ7 := i2.gr (by decide +kernel)
      have FF : Fr [(0, 0, 68), (0, 0, 75), (0, 0, 76), (0, 0, 77)] true μ3 μ7 := (Fr.mono f2 (by decide +kernel) (fun h => h)).trans i2
      have hq := FF.heq (by decide +kernel)
      have hM7 : Mx false 0 (fun _ => False) 0 μ7 [] [] [((fun _ => none), 0)] [] (fun _ => False) := by
        refine ⟨⟨i1, c2.fr FF (by decide +kernel), ⟨by rw [FF.v (by decide +kernel), z65]; exact e0, trivial⟩, ⟨by rw [FF.v (by decide +kernel), z66]; exact e0, trivial⟩, ⟨by rw [FF.v (by decide +kernel), z67, e0]; simp, by simp, fun u x hu => absurd hu (by simp), trivial⟩⟩, ⟨fun x hx => absurd hx (by simp), fun e he u x hu => ?_⟩, by rw [i8]; exact h0, fun h => absurd h (by decide), fun _ => ⟨by rw [FF.v (by decide +kernel)]; exact z69, rfl, fun u h => h⟩⟩
        rw [List.mem_singleton.mp he] at hu
        exact absurd hu (by simp)
      have hPA7 := hPA3.fr FF (by decide +kernel)
      obtain ⟨hBq, hN⟩ := hPA7.bq
      refine ok_bw (k_enter hM7 hPA7 (by simp) (by simp) f1 (by rw [i2.n (by decide +kernel)]; exact f3) (l := l) (by rw [FF.fe (by decide)]; exact c6) (by rw [i2.a (by decide)]; exact f4) (fun x hx => ⟨((c7 x hx).1).gr (FF.gr (by decide +kernel)), by rw [(hq.2 x).2.2.2]; exact hw x hx⟩)) ?_
      rintro μ20 ⟨fq, ρ, bg, n, m1, m2, m3, m4⟩
      have l1 := m4.le
      have hbb := hBq.at m4.sh m2
      have hsz : sz (iv μ 10) bg = n := by unfold sz; rw [hbb]; omega
      have hSn : Sp4 (iv μ 10) ((0, bg, 0) :: (5, 0, 0) :: []) = 4 * n + 1 := by simp [Sp4, stp, hsz]
      have c75 : nv μ20 75 = 1 := tn_of (by show (μ20.1 0 75).toInt = _; rw [fq.v (by decide +kernel), x75]; rfl)
      have hcl : cl false μ20 = 99 := by unfold cl; rw [c75]; rfl
      have y73 : (μ20.1 0 73).toInt = 0 := by rw [fq.v (by decide +kernel), FF.v (by decide +kernel), z73]; exact e0
      have n56 : nv μ20 56 = nv μ3 56 := by rw [(fq.heq (by decide +kernel)).1]; exact hq.1
      have m1 : Mx false 0 (fun _ => False) 0 μ20 ((0, bg, 0) :: (5, 0, 0) :: []) [] [(ρ, 0), ((fun _ => none), 0)] [] (fun _ => False) := m1
      have hp : pot (iv μ 10) (0, bg, 0) = n := by simp [pot, hsz]
      have hIx : Ix false 0 (fun _ => False) 0 (iv μ 7) (iv μ 8) (iv μ 9) (iv μ 10) (nv μ 18) μ20 ((0, bg, 0) :: (5, 0, 0) :: []) [] [(ρ, 0), ((fun _ => none), 0)] [] (fun _ => False) (4 * n + 1 + 330 * 99) := by
        refine ⟨m1, ⟨Nat.le_refl _, Or.inl ⟨rfl, bg + n, m2, m4, fun z => ⟨by simp, Or.inr (Or.inr (Or.inr (Or.inr (Or.inr (Or.inl ⟨rfl, rfl, by simp, by simp, ⟨_, rfl, by simp⟩, rfl⟩)))))⟩⟩⟩, ?_, hPA7.fr fq (by decide +kernel), ⟨⟨_, rfl, rfl⟩, fun h => absurd h (by decide), fun _ => ?_⟩, by rw [hSn, hcl], by omega, by omega, by rw [y73]; have hc : c73 false = 500000 := rfl; omega⟩
        · show (if (0, bg, (0 : Int)).1 = 5 then _ else Bd (iv μ 10) ((5, 0, 0) :: []) (0 + pot (iv μ 10) (0, bg, 0)) [(ρ, 0), ((fun _ => none), 0)] 0)
          rw [if_neg (by simp)]
          show (if (5, 0, (0 : Int)).1 = 5 then (0 + pot (iv μ 10) (0, bg, 0)) + 0 ≤ 81 + 0 ∧ Bd (iv μ 10) [] 1 [((fun _ => none), 0)] 0 else _)
          rw [if_pos rfl]
          exact ⟨by omega, _, rfl, by omega⟩
        · rw [fq.v (k := 76) (by decide +kernel), fq.v (k := 75) (by decide +kernel), x76, x75]
          exact ⟨by simp, by simp, by omega, by omega⟩
      have F20 : Fr frRT true μ μ20 := F7.trans (Fr.mono fq (by decide +kernel) (fun h => h))
      refine ok_bw (k_goAll hIx) ?_
      rintro μ22 ⟨q1, q2, q3⟩
      have q2 : Fr fgR true μ20 μ22 := q2
      refine k_rt99 (F20.trans (Fr.mono q2 (by decide +kernel) (fun h => h))) q1 (by rw [q2.v (by decide +kernel), fq.v (by decide +kernel), FF.v (by decide +kernel), z122]; exact e0) ?_ (fun h => ?_)
      · rcases q3 with q3 | ⟨z, R, V, _, _, _, _, _, r1, r2⟩
        · exact q3.2 rfl
        · have hc : c73 false = 500000 := rfl
          exact ⟨r1, by omega⟩
      obtain ⟨z, R, V, r1, _⟩ := q3.resolve_left (fun h2 => h2.1 h)
      exact ⟨0, _, 0, z, R, V, r1⟩
  have loop : ∀ (m : Nat) (a : Int32) (i : Nat) (μ2 : Mem), a.toInt = (i : Int) → i ≤ l.length → l.length < m + i → IM μ2 → Fr [(0, 0, 68)] true μ3 μ2 → (μ2.1 0 68 = 0 → ∀ x, x ∈ l.take i → iv μ3 33 x ≤ 40) → ok (p_X12_runTask_b11 m a μ2) (RT μ) := by
    intro m
    induction m with
    | zero => intro a i μ2 _ h1 h2; omega
    | succ m ih =>
      intro a i μ2 ha hi hm hI2 f2 hw
      rw [p_X12_runTask_b11_s]
      have k43 : (μ2.1 0 43).toInt = (l.length : Int) := by rw [f2.v (by decide +kernel), F3.v (by decide +kernel)]; omega
      refine ok_ite (fun hle => ?_) (fun hle => ?_)
      · rw [ti_le] at hle
        have hil : i = l.length := by omega
        rw [hil, List.take_length] at hw
        refine ok_bd (ok_pk (k_X12_functionOf _ _ μ2 hI2) (q_functionOf _ _ μ2 hI2)) ?_
        rintro r7 μ6 ⟨_, q1, q2⟩
        have q1 : μ2 = μ6 := Eq.symm q1
        subst q1
        have q2 : r7 = -1 ∨ ∃ f : Nat, r7.toInt = (f : Int) ∧ f < nv μ2 17 ∧ μ2.1 3 f = μ2.1 0 43 := q2
        refine ok_ite (fun h0 => ok_ite (fun hm1 => ok_bv (fun μ25 em => ?_)) (fun hm1 => ?_)) (fun h0 => b76' μ2 r7 hI2 f2 (fun h => absurd h h0))
        · have f25 : Fr [(0, 0, 68)] true μ2 μ25 := by rw [em]; exact Fr.put Fr.rf (by decide +kernel)
          exact b76' μ25 r7 (by rw [em]; exact IM_F hI2 (rtm_0_68 _)) (f2.trans f25) (fun h => by rw [em, sF_v] at h; exact absurd h (by decide))
        · obtain ⟨f, f1, f3, f4⟩ := q2.resolve_left hm1
          exact b76' μ2 r7 hI2 f2 (fun h => ⟨hw h, f, f1, f3, by unfold iv; rw [f4]; exact k43⟩)
      · rw [ti_le] at hle
        have hil : i < l.length := by omega
        obtain ⟨y, y1, y2⟩ : ∃ y, l[i]? = some y ∧ iv μ3 45 i = (y : Int) := by
          have gt : ∀ {l : List Nat} {j i : Nat}, Lst (iv μ3 45) j l → i < l.length → ∃ y, l[i]? = some y ∧ iv μ3 45 (j + i) = (y : Int) := by
            intro l
            induction l with
            | nil => intro j i _ h; exact absurd h (by simp)
            | cons x l ih2 =>
              intro j i hL hi
              cases i with
              | zero => exact ⟨x, rfl, hL.1⟩
              | succ i =>
                obtain ⟨y, y1, y2⟩ := ih2 hL.2 (by simp only [List.length_cons] at hi; omega : i < l.length)
                refine ⟨y, by simpa using y1, ?_⟩
                have e : j + (i + 1) = j + 1 + i := by omega
                rw [e]; exact y2
          obtain ⟨y, y1, y2⟩ := gt c6 hil
          exact ⟨y, y1, by rw [Nat.zero_add] at y2; exact y2⟩
        have ym : y ∈ l := List.mem_of_getElem? y1
        have yl := (c7 y ym).1.lt
        have ea : a.toNatClampNeg = i := tn_of ha
        rw [ea]
        have t45 : (μ2.1 45 i).toInt = (y : Int) := by
          have := f2.a (c := 45) (by decide) i
          show iv μ2 45 i = _
          rw [this, y2]
        have n45 : (μ2.1 45 i).toNatClampNeg = y := tn_of t45
        rw [n45]
        have hq2 := f2.heq (by decide +kernel)
        have nx : ∀ μ28 : Mem, IM μ28 → Fr [(0, 0, 68)] true μ3 μ28 → (μ28.1 0 68 = 0 → μ2.1 0 68 = 0 ∧ iv μ3 33 y ≤ 40) → ok (p_X12_runTask_b40 (p_X12_runTask_b11 m) a μ28) (RT μ) := by
          intro μ28 hI28 f28 h28
          rw [p_X12_runTask_b40_eq]
          refine ok_bv (fun v27 ev => ih v27 (i + 1) μ28 (by rw [ev, ti_add (by omega) (by omega), e1, ha]; omega) (by omega) (by omega) hI28 f28 (fun h x hx => ?_))
          obtain ⟨h1, h2⟩ := h28 h
          rw [List.take_add_one, y1] at hx
          rcases List.mem_append.mp hx with hx | hx
          · exact hw h1 x hx
          · have : x = y := by simpa using hx
            rw [this]; exact h2
        refine ok_gd (inb_iff.mpr (by omega)) (ok_gd (inb_iff.mpr (by omega)) (ok_ite (fun hle2 => nx μ2 hI2 f2 (fun h => ⟨h, ?_⟩)) (fun _ => ok_bv (fun μ28 em => nx μ28 (by rw [em]; exact IM_F hI2 (rtm_0_68 _)) (f2.trans (by rw [em]; exact Fr.put Fr.rf (by decide +kernel))) (fun h => ?_)))))
        · rw [ti_le, e40] at hle2
          rw [← (hq2.2 y).2.2.2]; exact hle2
        · rw [em, sF_v] at h; exact absurd h (by decide)
  exact loop FUEL 0 0 μ3 e0 (by omega) (by show _ < 10000000000 + 0; omega) c1 Fr.rf (fun _ x hx => absurd hx (by simp))
