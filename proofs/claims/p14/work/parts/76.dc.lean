/-! CALLS, DEEDS, ALL ACTS -/
theorem q_beginsCall (μ : Mem) : pk (p_X12_beginsCall μ) (fun r => (r.1 = 0 ∧ r.2.1 0 68 ≠ 0) ∨ (r.1 = 1 ∧ μ.1 0 75 ≠ 100 ∧ μ.1 0 76 ≠ 30 ∧ r.2.1 0 75 = μ.1 0 75 + 1 ∧ r.2.1 0 76 = μ.1 0 76 + 1 ∧ r.2.1 0 68 = μ.1 0 68)) := by
  rw [p_X12_beginsCall_eq]
  have b18 : pk (p_X12_beginsCall_b18 μ) (fun r => (r.1 = 0 ∧ r.2.1 0 68 ≠ 0) ∨ (r.1 = 1 ∧ μ.1 0 75 ≠ 100 ∧ μ.1 0 76 ≠ 30 ∧ r.2.1 0 75 = μ.1 0 75 + 1 ∧ r.2.1 0 76 = μ.1 0 76 + 1 ∧ r.2.1 0 68 = μ.1 0 68)) := by
    rw [p_X12_beginsCall_b18_eq]
    exact pk_ite (fun _ => pk_bv (pk_some (Or.inl ⟨rfl, by rw [sF_v]; decide⟩))) (fun _ => pk_bv (pk_some (Or.inl ⟨rfl, by rw [sF_v]; decide⟩)))
  refine pk_ite (fun _ => b18) (fun h1 => pk_ite (fun _ => b18) (fun h2 => pk_bv (pk_bv (pk_ite (fun _ => pk_bv (pk_some (Or.inr ⟨rfl, h1, h2, ?_, ?_, ?_⟩))) (fun _ => pk_bv (pk_some (Or.inr ⟨rfl, h1, h2, ?_, ?_, ?_⟩)))))))
  · rw [sF_k (by decide), sF_k (by decide), sF_v]
  · rw [sF_k (by decide), sF_v, sF_k (by decide)]
  · rw [sF_k (by decide), sF_k (by decide), sF_k (by decide)]
  · rw [sF_k (by decide), sF_k (by decide), sF_v]
  · rw [sF_k (by decide), sF_v, sF_k (by decide)]
  · rw [sF_k (by decide), sF_k (by decide), sF_k (by decide)]
set_option maxHeartbeats 2000000 in
theorem k_doCall {t : Bool} {b : Nat} {Vb : Nat → Prop} {ve : Nat} {th wo be bh : Nat → Int} {N : Nat} {μ : Mem} {p : Nat} {c : Int} {L : List Act} {cs : List Nat} {R : List Fm} {Zs : List Zc} {V : Nat → Prop} {T k : Nat} (h : Jx t b Vb ve th wo be bh N μ (1, p, c) L cs R Zs V T) (hk : k ≤ cs.length) (hk5 : k ≤ 5) (hO : ∀ x, Ok th wo be N μ L R (x :: cs.drop k) Zs V) {a1 a2 : Int32} (h2 : a2.toInt = (k : Int)) : ok (p_X12_doCall a1 a2 μ) (Sx t b Vb ve th wo be bh N μ T) := by
  have e1 : (1 : Int32).toInt = 1 := by decide
  have em1 : (-1 : Int32).toInt = -1 := by decide
  have e0 : (0 : Int32).toInt = 0 := by decide
  have fin : ∀ (μ2 : Mem) (l : List Nat), l.length = k → Cl t b Vb ve μ μ2 L (cs.drop k) R Zs V 0 l → ok (bd (p_X12_functionOf a1 a2 μ2) (fun r4 μ3 => (if (μ3.1 0 69) = 0 then (if r4 = -1 then bv (sF μ3 0 68 4) (fun μ12 => some μ12) else bd (p_X12_beginsCall μ3) (fun r8 μ7 => (if r8 = 0 then some μ7 else bw (p_X12_enter r4 μ7) (fun μ10 => some μ10)))) else bw (p_X12_thinkCall r4 a2 μ3) (fun μ13 => some μ13)))) (Sx t b Vb ve th wo be bh N μ T) := by
    intro μ2 l hlk hC
    have hC' := hC
    obtain ⟨F2, G2, e56, e89, e73, hM2, hl1, hl3⟩ := hC
    refine ok_bd (ok_pk (k_X12_functionOf a1 a2 μ2 hM2.1.1) (q_functionOf a1 a2 μ2 hM2.1.1)) ?_
    rintro r4 μ3 ⟨_, q1, q2⟩
    have q1 : μ2 = μ3 := Eq.symm q1
    subst q1
    have q2 : r4 = -1 ∨ ∃ f : Nat, r4.toInt = (f : Int) ∧ f < nv μ2 17 ∧ μ2.1 3 f = a2 := q2
    cases t with
    | true =>
      rw [if_neg (hM2.2.2.2.1 rfl).1]
      refine ok_bw (k_thinkCall h (by simp) hO hC' (by omega) (by rw [hlk]; exact h2) q2) ?_
      intro q hq
      exact ok_some hq
    | false =>
      obtain ⟨m69, mZ, mV⟩ := hM2.2.2.2.2 rfl
      rw [if_pos m69]
      have Fg2 : Fr fgR true μ μ2 := fcl_fg F2
      have hJ := h
      obtain ⟨rl, hRm, r31⟩ := h.room
      obtain ⟨j1, j2, j3, j4, j5, j6, j7, j8, j9, j10⟩ := h
      have hD2 : Dp false μ2 R := j5.fr F2 (by decide +kernel)
      have hc2 : cl false μ2 = cl false μ := cl_fr F2 (by decide +kernel)
      refine ok_ite (fun _ => ok_bv (fun μ12 em => ok_some ⟨by rw [em]; exact IM_F hM2.1.1 (rtm_0_68 _), ?_, Or.inl ⟨?_, fun _ => ?_⟩⟩)) (fun hn => ?_)
      · have f12 : Fr [(0, 0, 68)] true μ2 μ12 := by rw [em]; exact Fr.put Fr.rf (by decide +kernel)
        exact Fg2.trans (Fr.mono f12 (by decide +kernel) (fun h => h))
      · rw [em, sF_v]; decide
      · rw [em, sF_k (by decide), e73]; omega
      obtain ⟨f, f1, f2, f3⟩ := q2.resolve_left hn
      have hl2 : iv μ2 3 f = (l.length : Int) := by unfold iv; rw [f3, hlk]; exact h2
      refine ok_bd (ok_pk (k_X12_beginsCall μ2 hM2.1.1) (q_beginsCall μ2)) ?_
      rintro r8 μ7 ⟨⟨i1, i2, _⟩, i3⟩
      have i1 : IM μ7 := i1
      have i2 : Fr [(0, 0, 68), (0, 0, 75), (0, 0, 76), (0, 0, 77)] true μ2 μ7 := i2
      have Fg7 : Fr fgR true μ μ7 := Fg2.trans (Fr.mono i2 (by decide +kernel) (fun h => h))
      rcases i3 with ⟨i3, i4⟩ | ⟨i3, i4, i5, i6, i7, i8⟩
      · have i3 : r8 = 0 := i3
        have i4 : μ7.1 0 68 ≠ 0 := i4
        rw [if_pos i3]
        exact ok_some ⟨i1, Fg7, Or.inl ⟨i4, fun _ => by rw [i2.v (by decide +kernel), e73]; omega⟩⟩
      · have i3 : r8 = 1 := i3
        have i6 : μ7.1 0 75 = μ2.1 0 75 + 1 := i6
        have i7 : μ7.1 0 76 = μ2.1 0 76 + 1 := i7
        have i8 : μ7.1 0 68 = μ2.1 0 68 := i8
        rw [if_neg (by rw [i3]; decide)]
        obtain ⟨d1, d2, d3, d4⟩ := hD2.2.2 rfl
        have e100 : (100 : Int32).toInt = 100 := by decide
        have e30 : (30 : Int32).toInt = 30 := by decide
        have h100 : (μ2.1 0 75).toInt ≠ 100 := fun h => i4 (ti_eq.mpr (by rw [h, e100]))
        have h30 : (μ2.1 0 76).toInt ≠ 30 := fun h => i5 (ti_eq.mpr (by rw [h, e30]))
        have x75 : (μ7.1 0 75).toInt = (μ2.1 0 75).toInt + 1 := by rw [i6, ti_add (by omega) (by omega), e1]
        have x76 : (μ7.1 0 76).toInt = (μ2.1 0 76).toInt + 1 := by rw [i7, ti_add (by omega) (by omega), e1]
        have G7 : Gr μ2 μ7 := i2.gr (by decide +kernel)
        have hM7 : Mx false b Vb ve μ7 L (cs.drop k) R Zs V := by
          obtain ⟨m1, m2, m3, m4, m5⟩ := hM2
          exact ⟨m1.fr i1 i2 (by decide +kernel), m2.gr G7, by rw [i8]; exact m3, fun h => absurd h (by decide), fun _ => ⟨by rw [i2.v (by decide +kernel)]; exact m69, mZ, mV⟩⟩
        subst mZ
        have FF : Fr (fcl false ++ [(0, 0, 68), (0, 0, 75), (0, 0, 76), (0, 0, 77)]) true μ μ7 := (Fr.mono F2 (by decide +kernel) (fun h => h)).trans (Fr.mono i2 (by decide +kernel) (fun h => h))
        have n75 := ti_nat (a := μ2.1 0 75) (by omega)
        have n75' := ti_nat (a := μ7.1 0 75) (by omega)
        have hne : R ≠ [] := by
          intro e
          obtain ⟨⟨f', g1, g2⟩, _⟩ := hD2
          rw [e] at g1; exact absurd g1 (by simp)
        refine sx_enter hJ (by simp) hO FF Fg7 (by decide +kernel) hM7 (G2.tr G7) (by rw [(i2.heq (by decide +kernel)).1]; exact e56) (by rw [i2.n (by decide +kernel)]; exact e89) (by rw [i2.v (by decide +kernel)]; exact e73) ?_ (by omega) (fun q f' fq => ⟨?_, fun h => absurd h (by decide), fun _ => ?_⟩) f1 (by rw [i2.n (by decide +kernel)]; exact f2) (l := l) (by rw [i2.fe (by decide)]; exact hl1) (by rw [i2.a (by decide)]; exact hl2) (fun x hx => (hl3 x hx).gr G7) (fun q => rfl)
        · rw [← hc2]; unfold cl nv; simp only [Bool.false_eq_true, if_false]; omega
        · rw [dp_last hne]; exact hD2.1
        · rw [fq.v (k := 76) (by decide +kernel), fq.v (k := 75) (by decide +kernel)]
          exact ⟨by rw [x76]; simp only [List.length_cons]; omega, by simp only [List.length_cons]; omega, by omega, by omega⟩
  have loop : ∀ (m j : Nat) (a3 : Int32) (μ2 : Mem) (l : List Nat), a3.toInt + 1 = (j : Int) → j + l.length = k → j < m → Cl t b Vb ve μ μ2 L (cs.drop l.length) R Zs V j l → ok (p_X12_doCall_b4 m a1 a2 a3 μ2) (Sx t b Vb ve th wo be bh N μ T) := by
    intro m
    induction m with
    | zero => intro j a3 μ2 l _ _ h; omega
    | succ m ih =>
      intro j a3 μ2 l h3 hj hm hC
      rw [p_X12_doCall_b4_s]
      refine ok_ite (fun hlt => ?_) (fun hlt => ?_)
      · rw [ti_lt, e0] at hlt
        have : j = 0 := by omega
        subst this
        have hlk : l.length = k := by omega
        rw [hlk] at hC
        exact fin μ2 l hlk hC
      · rw [ti_lt, e0] at hlt
        obtain ⟨F2, G2, e56, e89, e73, hM2, hl1, hl3⟩ := hC
        have hlen : l.length < cs.length := by omega
        have hdr := List.drop_eq_getElem_cons hlen
        rw [hdr] at hM2
        refine ok_bd hM2.gone ?_
        rintro r16 μ15 ⟨g1, g2, g3, g4, g5, g6, g7, g8⟩
        have g1 : r16.toInt = (cs[l.length] : Int) := g1
        have g2 : Fr (fd t) true μ2 μ15 := g2
        have g3 : Gr μ2 μ15 := g3
        have g4 : nv μ15 56 = nv μ2 56 := g4
        have g5 : nv μ15 89 = nv μ2 89 := g5
        have g6 : μ15.1 0 73 = μ2.1 0 73 := g6
        have g7 : Gd μ15 V cs[l.length] := g7
        have g8 : Mx t b Vb ve μ15 L (cs.drop (l.length + 1)) R Zs V := g8
        have n3 : a3.toNatClampNeg = j - 1 := tn_of (by omega)
        rw [n3]
        refine ok_gd (inb_iff.mpr (by omega)) (ok_bv (fun μ17 em => ok_bv (fun v18 ev => ?_)))
        have f17 : Fr [(1, 45, 0)] true μ15 μ17 := by rw [em]; exact Fr.puta Fr.rf (by decide +kernel)
        have lx := g7.1.lt
        have ehp := hp_nv g8.1.1
        have g56 := rgm_0_56 g8.1.1
        have hI17 : IM μ17 := by rw [em]; exact IM_F g8.1.1 (rpm_45 (by rw [g1]; omega))
        have f17' : Fr (fcl t) true μ15 μ17 := by
          cases t
          · exact Fr.mono f17 (by decide +kernel) (fun h => h)
          · exact Fr.mono f17 (by decide +kernel) (fun h => h)
        have G17 : Gr μ15 μ17 := f17.gr (by decide +kernel)
        have n45 : na (fd t) 45 = true := by cases t <;> decide +kernel
        refine ih (j - 1) v18 μ17 (cs[l.length] :: l) (by rw [ev, ti_add (by omega) (by omega), em1]; omega) (by simp only [List.length_cons]; omega) (by omega) ⟨(F2.trans (fd_fcl g2)).trans f17', (G2.tr g3).tr G17, by rw [(f17.heq (by decide +kernel)).1, g4]; exact e56, by rw [f17.n (by decide +kernel), g5]; exact e89, by rw [f17.v (by decide +kernel), g6]; exact e73, g8.fr hI17 f17 (by decide +kernel) (by decide +kernel) (by decide +kernel), ⟨?_, ?_⟩, ?_⟩
        · rw [em]; unfold iv; rw [sF_v]; exact g1
        · have ej : j - 1 + 1 = j := by omega
          rw [ej]
          refine hl1.cong (fun i hi _ => ?_)
          have : iv μ17 45 i = iv μ15 45 i := by rw [em]; unfold iv; rw [sF_k (by omega)]
          rw [this, g2.a n45]
        · intro x hx
          rcases List.mem_cons.mp hx with e | e
          · rw [e]; exact g7.gr G17
          · exact ((hl3 x e).gr g3).gr G17
  rw [p_X12_doCall_eq]
  refine ok_bv (fun v1 ev => ?_)
  have hM := h.1
  refine loop FUEL k v1 μ [] (by rw [ev, ti_sub (by omega) (by omega), e1]; omega) (by simp) (by show k < 10000000000; omega) ⟨Fr.rf, Gr.rf, rfl, rfl, rfl, by simpa using hM, trivial, fun x hx => absurd hx (by simp)⟩
