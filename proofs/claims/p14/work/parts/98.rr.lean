/-! A RUN OF WHAT IS LEFT, WHOLE -/
theorem RI.pos {q : Mem} (h : RI q) : 0 < nv q 110 := by
  obtain ⟨k, h1, h2, h3, h4⟩ := h
  exact (h1.2.2.2 0 h4).1
def frRU : List (Nat × Nat × Nat) := frBR ++ frRR ++ frER
def RU (μ q : Mem) : Prop := IM q ∧ Fr frRU true μ q ∧ (0 ≤ (q.1 0 122).toInt ∧ (q.1 0 122).toInt ≤ 40) ∧ 0 ≤ (q.1 0 73).toInt ∧ (q.1 0 73).toInt ≤ 500001
set_option maxHeartbeats 2000000 in
theorem k_runResidue {μ : Mem} (hI : IM μ) (hW : VW μ) (hR : RI μ) (hc : nv μ 47 = nv μ 45) : ok (p_X12_runResidue μ) (RU μ) := by
  have e0 : (0 : Int32).toInt = 0 := by decide
  have e1 : (1 : Int32).toInt = 1 := by decide
  have em1 : (-1 : Int32).toInt = -1 := by decide
  rw [p_X12_runResidue_eq]
  refine ok_bw (k_beginRun hI hW) ?_
  rintro μ1 ⟨b1, b2, b3, b4, b5, b65, b66, b67, b68, b69, b75, b76, b73, b122⟩
  have k45 : nv μ1 45 = nv μ 45 := b3.n (by decide +kernel)
  have g45 := rgm_0_45 b1
  have m45 := ti_nat (a := μ1.1 0 45) (by omega)
  have en45 : nv μ1 45 = (μ1.1 0 45).toNatClampNeg := rfl
  have hR1 : RI μ1 := hR.fr b3 (by decide +kernel)
  have hRB := hR1.rb
  have hp := hR1.pos
  obtain ⟨ks, hS, hks, _⟩ := hR1
  have h122 : (μ1.1 0 122).toInt = 0 := by rw [b122, e0]
  have fin : ∀ q, RQ μ1 q → RU μ q := by
    rintro q ⟨q1, q2, q3, q4, q5⟩
    exact ⟨q1, (Fr.mono b3 (by decide +kernel) (fun h => h)).trans (Fr.mono q2 (by decide +kernel) (fun h => h)), q3, q4, by omega⟩
  refine ok_bd (ok_pk (k_X12_beginsCall μ1 b1) (q_beginsCall μ1)) ?_
  rintro r4 μ3 ⟨⟨i1, i2, _⟩, i3⟩
  have i1 : IM μ3 := i1
  have i2 : Fr [(0, 0, 68), (0, 0, 75), (0, 0, 76), (0, 0, 77)] true μ1 μ3 := i2
  have z73 : (μ3.1 0 73).toInt = 0 := by rw [i2.v (by decide +kernel), b73, e0]
  rcases i3 with ⟨i3, i4⟩ | ⟨i3, i4, i5, i6, i7, i8⟩
  · have i3 : r4 = 0 := i3
    have i4 : μ3.1 0 68 ≠ 0 := i4
    rw [if_pos i3]
    exact ok_imp fin (rr_end i1 (Fr.mono i2 (by decide +kernel) (fun h => h)) h122 (by omega) (fun h => absurd h i4))
  have i3 : r4 = 1 := i3
  have i6 : μ3.1 0 75 = μ1.1 0 75 + 1 := i6
  have i7 : μ3.1 0 76 = μ1.1 0 76 + 1 := i7
  have i8 : μ3.1 0 68 = μ1.1 0 68 := i8
  have t75 : (μ3.1 0 75).toInt = 1 := by rw [i6, b75]; decide
  have t76 : (μ3.1 0 76).toInt = 1 := by rw [i7, b76]; decide
  rw [if_neg (by rw [i3]; decide)]
  refine ok_bv (fun μ8 em8 => ?_)
  have f8 : Fr [(0, 0, 126)] true μ3 μ8 := by rw [em8]; exact Fr.put Fr.rf (by decide +kernel)
  have hI8 : IM μ8 := by rw [em8]; exact IM_F i1 (rtm_0_126 _)
  have F8 : Fr [(0, 0, 68), (0, 0, 75), (0, 0, 76), (0, 0, 77), (0, 0, 126)] true μ1 μ8 := (Fr.mono i2 (by decide +kernel) (fun h => h)).trans (Fr.mono f8 (by decide +kernel) (fun h => h))
  have t126 : (μ8.1 0 126).toInt = 0 := by rw [em8, sF_v, e0]
  obtain ⟨l, l1, l2, l3⟩ := b5
  have loop : ∀ (n k : Nat) (a2 : Int32) (μ2 : Mem), a2.toInt = (k : Int) → k ≤ nv μ1 45 → nv μ1 45 < n + k → IM μ2 → Fr [(1, 76, 0)] true μ8 μ2 → (∀ u, u < k → ∃ x : Nat, iv μ2 76 u = (x : Int) ∧ Gz μ2 x) → ok (p_X12_runResidue_b20 n (-1) a2 μ2) (RU μ) := by
    intro n
    induction n with
    | zero => intro k a2 μ2 _ h1 h2; omega
    | succ n ih =>
      intro k a2 μ2 h2 hk hn hI2 F2 hr
      rw [p_X12_runResidue_b20_s]
      have z45 : μ2.1 0 45 = μ1.1 0 45 := by rw [F2.v (by decide +kernel), F8.v (by decide +kernel)]
      have F12 : Fr [(0, 0, 68), (0, 0, 75), (0, 0, 76), (0, 0, 77), (0, 0, 126), (1, 76, 0)] true μ1 μ2 := (Fr.mono F8 (by decide +kernel) (fun h => h)).trans (Fr.mono F2 (by decide +kernel) (fun h => h))
      refine ok_ite (fun hle => ?_) (fun hle => ?_)
      · rw [ti_le, z45] at hle
        have hkm : k = nv μ1 45 := by omega
        have u76 : (μ2.1 0 76).toInt = ((0 : Nat) : Int) + 1 := by rw [F2.v (by decide +kernel), f8.v (by decide +kernel), t76]; rfl
        refine ok_bw (k_enterVariant hI2 (d := 0) u76 (by omega) _ _) ?_
        rintro μ10 ⟨q1, q2, q3, q4, q5⟩
        refine ok_gd (by decide) (ok_bv (fun v12 e12 => ok_imp fin ?_))
        obtain ⟨c0, d1, d2, d3⟩ := hRB 0 hp
        have F10 : Fr frRR true μ1 μ10 := (Fr.mono F12 (by decide +kernel) (fun h => h)).trans (Fr.mono q2 (by decide +kernel) (fun h => h))
        have t12 : v12.toInt = (c0 : Int) := by
          rw [e12]
          have := F10.a (c := 62) (by decide +kernel) 0
          show iv μ10 62 0 = _
          rw [this, d1]
        have sn := Sn_le b1 hS c0
        have u75 : (μ10.1 0 75).toInt = 1 := by rw [q2.v (by decide +kernel), F2.v (by decide +kernel), f8.v (by decide +kernel), t75]
        have n75 : nv μ10 75 = 1 := tn_of (by rw [u75]; rfl)
        have u73 : (μ10.1 0 73).toInt = 0 := by rw [q2.v (by decide +kernel), F2.v (by decide +kernel), f8.v (by decide +kernel), z73]
        have n56 : nv μ10 56 ≤ 30 := by rw [(q2.heq (by decide +kernel)).1, (F12.heq (by decide +kernel)).1]; exact b4
        have w2 : Gn μ1 [(0, (-1 : Int), c0, fun u : Nat => (u : Int) < iv μ1 59 0)] = Sn μ1 c0 + 1 + 0 := rfl
        have w4 : Gi [(0, (-1 : Int), c0, fun u : Nat => (u : Int) < iv μ1 59 0)] = (961 - c0) + 0 := rfl
        refine rr_loop b1 hS hRB h122 FUEL (Gi [(0, (-1 : Int), c0, fun u : Nat => (u : Int) < iv μ1 59 0)] + 962 * (100 - nv μ10 75)) _ v12 μ10 (by show _ < 10000000000; omega) (Or.inr ⟨0, -1, c0, fun u : Nat => (u : Int) < iv μ1 59 0, [], t12, q1, ((b2.fr F12 (by decide +kernel)).fr q2 (by decide +kernel)), F10, ?_, ?_, by decide, ?_, ?_, ?_, d3, ?_, rfl, ?_, ?_, ?_, rfl, ?_, ?_⟩)
        · rw [q2.v (by decide +kernel), F2.v (by decide +kernel), f8.v (by decide +kernel), i8, b68]
        · rw [q2.v (by decide +kernel)]; exact u76
        · rw [q2.v (by decide +kernel), F2.v (by decide +kernel), t126]; rfl
        · show iv μ10 78 0 = _
          rw [q4]; exact e0
        · show iv μ10 77 0 = _
          rw [q3]; exact em1
        · intro u hu
          have h59 := hS.1
          have hu : (u : Int) < iv μ1 59 0 := hu
          obtain ⟨x, y1, y2⟩ := hr u (by omega)
          refine ⟨by omega, x, ?_, y2.gr (q2.gr (by decide +kernel))⟩
          show iv μ10 76 (320 * 0 + u) = _
          rw [show 320 * 0 + u = u by omega, q2.a (by decide +kernel)]; exact y1
        · omega
        · omega
        · omega
        · omega
        · omega
      · rw [ti_le, z45] at hle
        refine ok_gd (inb_iff.mpr (by omega)) (ok_gd (inb_iff.mpr (by omega)) (ok_bv (fun μ32 em => ok_bv (fun v33 e33 => ?_))))
        rw [tn_of h2] at em
        have f32 : Fr [(1, 76, 0)] true μ2 μ32 := by rw [em]; exact Fr.puta Fr.rf (by decide +kernel)
        obtain ⟨x, x1, x2⟩ := l2.get k (by omega)
        rw [show 0 + k = k by omega] at x2
        have x3 := l3 x x1
        have k36 : iv μ2 36 k = (x : Int) := by rw [F12.a (by decide +kernel)]; exact x2
        have G2 : Gr μ1 μ2 := F12.gr (by decide +kernel)
        have G32 := f32.gr (by decide +kernel)
        have hx : Gz μ32 x := (show Gz μ1 x from ⟨x3.1, by omega⟩).gr (G2.tr G32)
        have lx := hx.1.lt
        have gx := rgm_0_56 hI2
        have mx := ti_nat (a := μ2.1 0 56) (by omega)
        have enx : nv μ2 56 = (μ2.1 0 56).toNatClampNeg := rfl
        have n56 : nv μ32 56 = nv μ2 56 := (f32.heq (by decide +kernel)).1
        refine ih (k + 1) v33 μ32 (by rw [e33, ti_add (by omega) (by omega), e1, h2]; omega) (by omega) (by omega) (by rw [em]; exact IM_F hI2 (rpm_76 (by show 0 ≤ iv μ2 36 k ∧ iv μ2 36 k ≤ _; rw [k36]; omega))) (F2.trans f32) (fun u hu => ?_)
        by_cases eu : u = k
        · refine ⟨x, ?_, hx⟩
          rw [eu, em]; unfold iv; rw [sF_v]; exact k36
        · obtain ⟨y, y1, y2⟩ := hr u (by omega)
          refine ⟨y, ?_, y2.gr G32⟩
          rw [em]; unfold iv; rw [sF_k eu]; exact y1
  exact loop FUEL 0 0 μ8 e0 (by omega) (by show _ < 10000000000 + 0; omega) hI8 Fr.rf (fun u hu => absurd hu (by omega))
