/-! THE ENDS OF BLOCKS -/
/-- what a block's end leaves: y, lifted, is its operand; μ1: ahead of the mark -/
def Qk (b : Nat) (Vb : Nat → Prop) (ve : Nat) (μ : Mem) (L : List Act) (cs : List Nat) (R : List Fm) (Zs : List Zc) (V : Nat → Prop) (k : Int) (i : Nat) (q : Int32 × Mem) : Prop :=
  IM q.2 ∧ Fr fdT true μ q.2 ∧ (q.2.1 0 68 ≠ 0 ∨ ∃ (y : Nat) (V1 : Nat → Prop) (μ1 : Mem), q.1.toInt = (y : Int) ∧ Mx true b Vb ve μ1 L cs R Zs V1 ∧ Fr fdT true μ μ1 ∧ (∀ u, V u → V1 u) ∧ Gr μ μ1 ∧ Gr μ1 q.2 ∧ Gd q.2 V1 y ∧ iv q.2 30 y ≠ 2 ∧ nv q.2 56 + nv μ 89 ≤ nv μ 56 + nv q.2 89 ∧ nv μ 89 ≤ nv q.2 89 ∧ q.2.1 0 73 = μ.1 0 73 ∧ It μ1 q.2 k [y] ∧ iv q.2 48 (nv μ1 87) = (i : Int) ∧ Vw q.2 L cs R ∧ q.2.1 0 69 = μ1.1 0 69 ∧ Opd q.2 (nv q.2 88) V1 (nv μ1 88))
theorem k_mark {b : Nat} {Vb : Nat → Prop} {ve : Nat} {μ : Mem} {L : List Act} {cs : List Nat} {R : List Fm} {Zs : List Zc} {V : Nat → Prop} {x : Nat} (hM : Mx true b Vb ve μ L (x :: cs) R Zs V) (hh : nv μ 56 + 301 ≤ 100000 + nv μ 89) {kk ai : Int32} {i : Nat} (hi : ai.toInt = (i : Int)) : ok (p_X12_mark kk ai μ) (Qk b Vb ve μ L cs R Zs V kk.toInt i) := by
  rw [p_X12_mark_eq]
  refine ok_bd hM.gone ?_
  rintro r2 μ1 ⟨g1, g2, g3, g4, g5, g6, g7, g8⟩
  have g1 : r2.toInt = (x : Int) := g1
  have g2 : Fr fdT true μ μ1 := g2
  have g3 : Gr μ μ1 := g3
  have g4 : nv μ1 56 = nv μ 56 := g4
  have g5 : nv μ1 89 = nv μ 89 := g5
  have g6 : μ1.1 0 73 = μ.1 0 73 := g6
  have g7 : Gd μ1 V x := g7
  have g8 : Mx true b Vb ve μ1 L cs R Zs V := g8
  refine ok_bd (k_lift g8 (by omega) g1 g7) ?_
  rintro r4 μ3 ⟨⟨l1, l2, l3⟩, l4, l5⟩
  have l1 : IM μ3 := l1
  have l2 : Fr fdT true μ1 μ3 := l2
  refine ok_ite (fun h0 => ?_) (fun h0 => ok_some ⟨l1, g2.trans l2, Or.inl h0⟩)
  obtain ⟨y, V1, k1, k2, k3, k4, k5, k6, k7, k8, k9⟩ := l3.resolve_left (fun h => h.1 h0)
  have k1 : r4.toInt = (y : Int) := k1
  have k2 : Mx true b Vb ve μ3 L cs R Zs V1 := k2
  have k4 : Gr μ1 μ3 := k4
  have k5 : Gd μ3 V1 y := k5
  have k6 : iv μ3 30 y ≠ 2 := k6
  have k7 : nv μ3 56 + nv μ1 89 ≤ nv μ1 56 + nv μ3 89 := k7
  have k8 : nv μ1 89 ≤ nv μ3 89 := k8
  have k9 : μ3.1 0 73 = μ1.1 0 73 := k9
  have hrm := (k2.2.2.2.1 rfl).2.room k2.1.1
  have ly := k5.1.lt
  refine ok_bd (t_item k2.1.1 (by omega) (a1 := kk)) ?_
  rintro r7 μ6 ⟨c1, c2, c3, c4, c5⟩
  have c1 : r7.toInt = (nv μ3 87 : Int) := c1
  have c2 : IM μ6 := c2
  have c3 : Fr frIt true μ3 μ6 := c3
  have c4 : It μ3 μ6 kk.toInt [] := c4
  have v6 := k2.1.fr c2 c3 (by decide +kernel)
  have n7 : r7.toNatClampNeg = nv μ3 87 := tn_of c1
  rw [n7]
  obtain ⟨d1, d2, d3, d4⟩ := t_itemAI c2 c4 ai
  refine ok_gd (inb_iff.mpr (by omega)) (ok_bv (fun μ8 em8 => ?_))
  rw [← em8] at d1 d2 d3 d4
  have v8 := v6.fr d1 d2 (by decide +kernel)
  have e6 : nv μ6 56 = nv μ3 56 := (c3.heq (by decide +kernel)).1
  have e8 : nv μ8 56 = nv μ6 56 := (d2.heq (by decide +kernel)).1
  refine ok_bw (em_opI v8 d3 (by omega) hrm.2.1 (by simp) c1 k1 (by omega)) ?_
  rintro μ9 ⟨f1, f2, f3, f4⟩
  have e9 : nv μ9 56 = nv μ8 56 := (f2.heq (by decide +kernel)).1
  have G39 : Gr μ3 μ9 := ((c3.gr (by decide +kernel)).tr (d2.gr (by decide +kernel))).tr (f2.gr (by decide +kernel))
  have F39 : Fr fdT true μ3 μ9 := ((Fr.mono c3 (by decide +kernel) (fun h => h)).trans (fr48_T d2)).trans (frOp_T f2)
  have e89 : nv μ9 89 = nv μ3 89 := f4.2.2.1
  have hop : Opd μ9 (nv μ9 88) V1 (nv μ3 88) := ops_opdI f4 (V := V1) f3.2.1 (fun z hz => by
    have : z = y := by simpa using hz
    rw [this]; exact ⟨(k5.gr G39).1, by rw [(G39.2 y ly).1]; exact k6⟩) 0 (by simp)
  refine ok_some ⟨f1, (g2.trans l2).trans F39, Or.inr ⟨y, V1, μ3, k1, k2, g2.trans l2, k3, g3.tr k4, G39, k5.gr G39, by show iv μ9 30 y ≠ 2; rw [(G39.2 y ly).1]; exact k6, by show nv μ9 56 + _ ≤ _ + nv μ9 89; omega, by show _ ≤ nv μ9 89; omega, ?_, f4, ?_, f3, ?_, hop⟩⟩
  · show μ9.1 0 73 = _
    rw [f2.v (by decide +kernel), d2.v (by decide +kernel), c3.v (by decide +kernel), k9, g6]
  · show iv μ9 48 (nv μ3 87) = _
    rw [f2.a (by decide), d4]; exact hi
  · show μ9.1 0 69 = _
    rw [f2.v (by decide +kernel), d2.v (by decide +kernel), c3.v (by decide +kernel)]
/-- the first block is whole -/
theorem th_else {b : Nat} {Vb : Nat → Prop} {ve : Nat} {μ μ1 μ2 : Mem} {Z : List Zc} {V0 V : Nat → Prop} {x i : Nat} {a : Int32} (h : Th b Vb ve μ ((i, V0, false) :: Z) V) (hi : It μ μ1 13 [x]) (ha : iv μ1 48 (nv μ 87) = (i : Int)) (ho : Opd μ1 (nv μ1 88) V (nv μ 88)) (e2 : μ2 = sF μ1 49 i a) (hae : a.toInt = (nv μ 87 : Int)) : Th b Vb ve μ2 ((i, V0, true) :: Z) V0 := by
  obtain ⟨ao, ag⟩ := hi.ag
  have hsu := hi.su
  obtain ⟨i1, i2, i3, i4, i6, i7, i8, i9, i10, i11, i12, i13, i14, i15, i16⟩ := hi
  obtain ⟨h1, h2, h3, h4, h5, h6, h7, h8⟩ := h
  have hlt := Zq.lt h1
  have hsub := Zq.sub h1
  obtain ⟨z1, z2, z3⟩ := h1
  have zle := Zq.le z1
  have f2 : Fr [(1, 49, 0)] true μ1 μ2 := by rw [e2]; exact Fr.puta Fr.rf (by decide +kernel)
  have o49 : ∀ j, j ≠ i → iv μ2 49 j = iv μ1 49 j := fun j hj => by unfold iv; rw [e2, sF_k hj]
  have v49 : iv μ2 49 i = (nv μ 87 : Int) := by unfold iv; rw [e2, sF_v]; exact hae
  have ao2 : Ao μ1 μ2 (nv μ1 88) (nv μ1 88) (nv μ1 110) (nv μ1 110) := ⟨Nat.le_refl _, Nat.le_refl _, fun o _ => ⟨f2.a (by decide) o, f2.a (by decide) o⟩, fun v _ => f2.a (by decide) v⟩
  have ag2 : ∀ j, j ≠ i → Ag μ1 μ2 (nv μ1 88) (nv μ1 110) j := fun j hj => ⟨f2.a (by decide) j, f2.a (by decide) j, f2.a (by decide) j, o49 j hj, f2.a (by decide) j, f2.a (by decide) j, f2.a (by decide) j⟩
  rcases z3 with ⟨_, z3⟩ | ⟨z3, _⟩
  rotate_left
  · exact absurd z3 (by decide)
  have n88 : nv μ2 88 = nv μ1 88 := f2.n (by decide +kernel)
  have n89 : nv μ2 89 = nv μ 89 := by rw [f2.n (by decide +kernel)]; exact i3
  have n93 : nv μ2 93 = nv μ 93 := by rw [f2.n (by decide +kernel)]; exact i4
  have n110 : nv μ2 110 = nv μ1 110 := f2.n (by decide +kernel)
  have n871 : nv μ2 87 = nv μ1 87 := f2.n (by decide +kernel)
  unfold Th
  rw [n88, n110, n93]
  refine ⟨⟨(z1.cong ao (fun j _ hj => ag j (by omega))).cong ao2 (fun j _ hj => ag2 j (by omega)), ?_, Or.inr ⟨rfl, nv μ 87, V, (z3.cong ao (fun j _ hj => ag j (by omega))).cong ao2 (fun j hj _ => ag2 j (by omega)), ?_, v49, ?_⟩⟩, fun u hu => h2 u (hsub u hu), by omega, by rw [f2.v (by decide +kernel), i13]; exact h4, by simpa using h5, ?_, ?_, h8.1, (h8.2.cong ao (fun j hj => ag j (by omega)) (fun w => (i10 w).2.2.2)).cong ao2 (fun j hj => ag2 j (by omega)) (fun w => ⟨f2.a (by decide) w, f2.a (by decide) w, f2.a (by decide) w, f2.v (by decide +kernel)⟩)⟩
  · exact (z2.cong (ag i (by omega)).1 (ag i (by omega)).2.2.2.2.2.1 ao).cong (f2.a (by decide) i) (f2.a (by decide) i) ao2
  · exact (show Mk μ1 (nv μ1 88) V 13 i (nv μ 87) from ⟨i6, ha, nv μ 88, i7, ho⟩).cong (ag2 _ (by omega)) ao2
  · rw [n871, i1]; exact Blo.nil
  · intro c cM W hA
    rw [n871, f2.fe (by decide), hsu, n89]
    have h9 := h6 c cM W hA
    have h10 : c 13 = cM := hA.1
    have h9' : Su (fun i => c (iv μ 46 i)) (nv μ 87) + (2 * cM + pend cM Z) ≤ W * (nv μ 89 + (Z.length + 1)) := h9
    show _ + (cM + pend cM Z) ≤ W * (nv μ 89 + (Z.length + 1))
    omega
  · rw [n871, f2.fe (by decide), hsu, i2]
    have : oc 13 = 1 := rfl
    simp only [List.length_cons, List.length_nil]; omega
set_option maxHeartbeats 2000000 in
theorem g_otherwise {t : Bool} {b : Nat} {Vb : Nat → Prop} {ve : Nat} {th wo be bh : Nat → Int} {N : Nat} {μ : Mem} {i : Nat} {c : Int} {L : List Act} {cs : List Nat} {R : List Fm} {Zs : List Zc} {V : Nat → Prop} {T : Nat} (h : Jx t b Vb ve th wo be bh N μ (6, i, c) L cs R Zs V T) {a1 a2 : Int32} (ha1 : a1.toInt = (i : Int)) (ha2 : a2.toInt = c) : ok (p_X12_otherwise a1 a2 μ) (Sx t b Vb ve th wo be bh N μ T) := by
  have hJ := h
  obtain ⟨rl, hR, r31⟩ := h.room
  obtain ⟨h1, h2, h3, h4, h5, h6, h7, h8, h9, h10⟩ := h
  obtain ⟨hBq, hN⟩ := h4.bq
  have e0 : (0 : Int32).toInt = 0 := by decide
  have e1 : (1 : Int32).toInt = 1 := by decide
  have e7 : (7 : Int32).toInt = 7 := by decide
  have e13 : (13 : Int32).toInt = 13 := by decide
  cases R with
  | nil => exact h2.elim
  | cons f R =>
    obtain ⟨ρ, c0⟩ := f
    obtain ⟨hc0, hcl⟩ := h2
    obtain ⟨V0, Z, p, q, hcp, hZ, hq, hFo, hlen, hLv, hnx⟩ : ∃ (V0 : Nat → Prop) (Z : List Zc) (p q : Nat), c = (p : Int) ∧ Zs = (i, V0, false) :: Z ∧ q ≤ N ∧ Fo th wo be (Dm ρ) 1 p q ∧ c0 + 1 ≤ cs.length ∧ Lv μ V0 (cs.drop 1) ((ρ, c0) :: R) ∧ ∀ x, Ok th wo be N μ L ((ρ, c0) :: R) (x :: cs.drop 1) Z V0 := by
      rcases hcl with ⟨h, _⟩ | ⟨h, _⟩ | ⟨h, _⟩ | ⟨h, _⟩ | ⟨h, _⟩ | ⟨h, _⟩ | ⟨_, b1⟩ | ⟨h, _⟩
      rotate_left 6
      · exact b1
      all_goals exact absurd h (by decide)
    subst hZ
    have htt : t = true := by
      cases t
      · have := (h1.2.2.2.2 rfl).2.1; exact absurd this (by simp)
      · rfl
    subst htt
    cases cs with
    | nil => simp at hlen
    | cons x cs =>
      simp only [List.drop_succ_cons, List.drop_zero] at hnx hLv
      simp only [List.length_cons] at hlen rl
      have l1 := hFo.le
      have hbp : bh p = (q : Int) := hBq.at hFo.sh hq
      have szp : sz bh p = q - p := by unfold sz; rw [hbp]; omega
      have hcn : c.toNat = p := by rw [hcp]; rfl
      have hpot : pot bh (6, i, c) = 2 + (q - p) := by simp [pot, hcn, szp]
      have hstp : stp bh (6, i, c) = 2 + 4 * (q - p) := by simp [stp, hcn, szp]
      have hS : Sp4 bh ((6, i, c) :: L) = 2 + 4 * (q - p) + Sp4 bh L := by show stp bh _ + _ = _; rw [hstp]
      have hbd := h3.head (by simp)
      rw [hpot] at hbd
      simp only [List.length_cons] at hbd
      have g89 := rm_89 h1.1.1
      rw [p_X12_otherwise_eq]
      refine ok_bd (k_mark h1 (by omega) (kk := 13) ha1) ?_
      rintro r2 μ1 ⟨c1, c2, c3⟩
      have c1 : IM μ1 := c1
      have c2 : Fr fdT true μ μ1 := c2
      refine ok_ite (fun h0 => ?_) (fun h0 => ok_some ⟨c1, fd_fg (t := true) c2, Or.inl ⟨h0, fun h => absurd h (by decide)⟩⟩)
      obtain ⟨y, V1, ν, y1, y2, y3, y4, y5, y6, y7, y8, y9, y10, y11, y12, y13, y14, y15, y16⟩ := c3.resolve_left (fun h => h h0)
      have y1 : r2.toInt = (y : Int) := y1
      have y6 : Gr ν μ1 := y6
      have y7 : Gd μ1 V1 y := y7
      have y8 : iv μ1 30 y ≠ 2 := y8
      have y9 : nv μ1 56 + nv μ 89 ≤ nv μ 56 + nv μ1 89 := y9
      have y10 : nv μ 89 ≤ nv μ1 89 := y10
      have y11 : μ1.1 0 73 = μ.1 0 73 := y11
      have y12 : It ν μ1 13 [y] := by have h := y12; rw [e13] at h; exact h
      have y13 : iv μ1 48 (nv ν 87) = (i : Int) := y13
      have y14 : Vw μ1 L cs ((ρ, c0) :: R) := y14
      have y15 : μ1.1 0 69 = ν.1 0 69 := y15
      have y16 : Opd μ1 (nv μ1 88) V1 (nv ν 88) := y16
      have hTν := (y2.2.2.2.1 rfl).2
      have hrm := hTν.room y2.1.1
      have hlt := Zq.lt hTν.1
      have n1 : a1.toNatClampNeg = i := tn_of ha1
      rw [n1]
      have h87 : nv μ1 87 = nv ν 87 + 1 := y12.1
      have g87 := rgm_0_87 c1
      have m87 := ti_nat (a := μ1.1 0 87) (by omega)
      have em87 : nv μ1 87 = (μ1.1 0 87).toNatClampNeg := rfl
      refine ok_gd (inb_iff.mpr (by omega)) (ok_bv (fun μ4 em4 => ?_))
      have t87 : (μ1.1 0 87 - 1).toInt = (nv ν 87 : Int) := by rw [ti_sub (by omega) (by omega), e1]; omega
      have hT4 : Th b Vb ve μ4 ((i, V0, true) :: Z) V0 := th_else hTν y12 y13 y16 em4 t87
      have f4 : Fr [(1, 49, 0)] true μ1 μ4 := by rw [em4]; exact Fr.puta Fr.rf (by decide +kernel)
      have hI4 : IM μ4 := by rw [em4]; exact IM_F c1 (rtma_49 _ _)
      have v4 := y14.fr hI4 f4 (by decide +kernel)
      have G4 := f4.gr (by decide +kernel)
      have Gm : Gr μ μ1 := y5.tr y6
      have hM4 : Mx true b Vb ve μ4 L cs ((ρ, c0) :: R) ((i, V0, true) :: Z) V0 := by
        refine ⟨v4, (hLv.gr Gm).gr G4, ?_, fun _ => ⟨?_, hT4⟩, fun h => absurd h (by decide)⟩
        · rw [f4.v (by decide +kernel)]; exact h0
        · rw [f4.v (by decide +kernel), y15]; exact (y2.2.2.2.1 rfl).1
      refine ok_bw (hM4.push (by omega) (w := 7) (a := i) (c := (y : Int)) e7 ha1 y1) ?_
      rintro μ5 ⟨f5, hM5⟩
      refine ok_bw (hM5.push (by simp; omega) (w := 0) (a := p) (c := 0) e0 (by rw [ha2]; exact hcp) e0) ?_
      rintro μ7 ⟨f7, hM7⟩
      have F47 : Fr frPu true μ4 μ7 := f5.trans f7
      have F17 : Fr (frPu ++ [(1, 49, 0)]) true μ1 μ7 := (Fr.mono f4 (by decide +kernel) (fun h => h)).trans (Fr.mono F47 (by decide +kernel) (fun h => h))
      have G17 : Gr μ1 μ7 := F17.gr (by decide +kernel)
      have hOk : Ok th wo be N μ1 ((0, p, 0) :: (7, i, (y : Int)) :: L) ((ρ, c0) :: R) cs ((i, V0, true) :: Z) V0 := by
        refine ⟨by omega, Or.inl ⟨rfl, q, hq, hFo, fun z => ⟨by simp; omega, Or.inr (Or.inr (Or.inr (Or.inr (Or.inr (Or.inr (Or.inr ⟨rfl, V0, Z, y, rfl, rfl, y7.1.lt, y8, by simp; omega, ?_, fun w => ?_⟩))))))⟩⟩⟩
        · simp only [List.drop_succ_cons, List.drop_zero]
          exact hLv.gr Gm
        · simp only [List.drop_succ_cons, List.drop_zero]
          exact Ok.gr Gm _ _ _ _ _ (hnx w)
      have hBd2 : Bd bh ((0, p, 0) :: (7, i, (y : Int)) :: L) 0 ((ρ, c0) :: R) cs.length := by
        refine Bd.app (A := [(0, p, 0), (7, i, (y : Int))]) (fun t ht => ?_) (hbd.mono ?_)
        · rcases List.mem_cons.mp ht with e | ht
          · rw [e]; simp
          · have : t = (7, i, (y : Int)) := by simpa using ht
            rw [this]; simp
        · simp [pot, szp]; omega
      have hSn : Sp4 bh ((0, p, 0) :: (7, i, (y : Int)) :: L) = 4 * (q - p) + (1 + Sp4 bh L) := by simp [Sp4, stp, szp]
      have ecl : cl true μ7 = cl true μ := by rw [cl_fr F17 (by decide +kernel), cl_fr c2 (by decide +kernel)]
      have e56 : nv μ7 56 = nv μ1 56 := (F17.heq (by decide +kernel)).1
      have e89 : nv μ7 89 = nv μ1 89 := F17.n (by decide +kernel)
      have e73 : μ7.1 0 73 = μ.1 0 73 := by rw [F17.v (by decide +kernel), y11]
      refine ok_some ⟨hM7.1.1, (fd_fg (t := true) c2).trans (Fr.mono F17 (by decide +kernel) (fun h => h) : Fr (fg true) true μ1 μ7), Or.inr ⟨_, cs, _, _, V0, Sp4 bh ((0, p, 0) :: (7, i, (y : Int)) :: L) + 330 * cl true μ7, ⟨hM7, Ok.gr G17 _ _ _ _ _ hOk, hBd2, (h4.fr c2 (by decide +kernel)).fr F17 (by decide +kernel), (h5.fr c2 (by decide +kernel)).fr F17 (by decide +kernel), rfl, by rw [hSn, ecl]; omega, by rw [e73]; exact h8, by rw [e73, hSn, ecl]; omega⟩, by rw [hSn, ecl]; omega⟩⟩
/-- a choice is whole -/
theorem th_end {b : Nat} {Vb : Nat → Prop} {ve : Nat} {μ μ1 μ2 : Mem} {Z : List Zc} {V0 V : Nat → Prop} {x i : Nat} (h : Th b Vb ve μ ((i, V0, true) :: Z) V) (hi : It μ μ1 14 [x]) (ha : iv μ1 48 (nv μ 87) = (i : Int)) (ho : Opd μ1 (nv μ1 88) V (nv μ 88)) (h93 : nv μ 93 < 320)
    (f2 : Fr [(0, 0, 89), (1, 47, 0), (0, 0, 93), (1, 50, 0), (0, 0, 90)] true μ1 μ2) (o47 : ∀ j, j ≠ i → iv μ2 47 j = iv μ1 47 j) (v47 : iv μ2 47 i = (nv μ 93 : Int)) (o50 : ∀ j, j ≠ i → iv μ2 50 j = iv μ1 50 j) (v50 : iv μ2 50 i = (nv μ 87 : Int)) (n89 : nv μ2 89 = nv μ1 89 + 1) (n93 : nv μ2 93 = nv μ1 93 + 1) (h90 : (μ2.1 0 90).toInt = (Z.length : Int)) : Th b Vb ve μ2 Z (Vp μ2 V0 i) := by
  obtain ⟨ao, ag⟩ := hi.ag
  have hsu := hi.su
  obtain ⟨i1, i2, i3, i4, i6, i7, i8, i9, i10, i11, i12, i13, i14, i15, i16⟩ := hi
  obtain ⟨h1, h2, h3, h4, h5, h6, h7, h8⟩ := h
  have hlt := Zq.lt h1
  have hsub := Zq.sub h1
  obtain ⟨z1, z2, z3⟩ := h1
  have zle := Zq.le z1
  have ao2 : Ao μ1 μ2 (nv μ1 88) (nv μ1 88) (nv μ1 110) (nv μ1 110) := ⟨Nat.le_refl _, Nat.le_refl _, fun o _ => ⟨f2.a (by decide) o, f2.a (by decide) o⟩, fun v _ => f2.a (by decide) v⟩
  have ag2 : ∀ j, j ≠ i → Ag μ1 μ2 (nv μ1 88) (nv μ1 110) j := fun j hj => ⟨f2.a (by decide) j, o47 j hj, f2.a (by decide) j, f2.a (by decide) j, o50 j hj, f2.a (by decide) j, f2.a (by decide) j⟩
  rcases z3 with ⟨z3, _⟩ | ⟨_, e, Va, x1, x2, x3, x4⟩
  · exact absurd z3 (by decide)
  have l1 := x1.le
  have l4 := x4.le
  have n88 : nv μ2 88 = nv μ1 88 := f2.n (by decide +kernel)
  have n110 : nv μ2 110 = nv μ1 110 := f2.n (by decide +kernel)
  have n871 : nv μ2 87 = nv μ1 87 := f2.n (by decide +kernel)
  have gi := ag i (by omega)
  unfold Th
  rw [n88, n110]
  have hI2 : Ifx μ2 (nv μ1 88) V0 i := (z2.cong gi.1 gi.2.2.2.2.2.1 ao).cong (f2.a (by decide) i) (f2.a (by decide) i) ao2
  have h6i : iv μ2 46 i = 6 := hI2.1
  refine ⟨?_, ?_, by omega, h90, by simp at h5; omega, ?_, ?_, h8.1, (h8.2.cong ao (fun j hj => ag j (by omega)) (fun w => (i10 w).2.2.2)).cong ao2 (fun j hj => ag2 j (by omega)) (fun w => ⟨f2.a (by decide) w, f2.a (by decide) w, f2.a (by decide) w, f2.v (by decide +kernel)⟩)⟩
  · rw [n871, i1]
    refine Zq.ch ((z1.cong ao (fun j _ hj => ag j (by omega))).cong ao2 (fun j _ hj => ag2 j (by omega))) hI2 (by rw [v47]; omega) ((x1.cong ao (fun j _ hj => ag j (by omega))).cong ao2 (fun j hj _ => ag2 j (by omega))) ((x2.cong (ag e (by omega)) ao).cong (ag2 e (by omega)) ao2) ?_ ((x4.cong ao (fun j _ hj => ag j (by omega))).cong ao2 (fun j hj _ => ag2 j (by omega))) ?_ v50
    · rw [f2.a (by decide), gi.2.2.2.1]; exact x3
    · exact (show Mk μ1 (nv μ1 88) V 14 i (nv μ 87) from ⟨i6, ha, nv μ 88, i7, ho⟩).cong (ag2 _ (by omega)) ao2
  · intro u hu
    rcases hu with hu | ⟨_, hu⟩
    · have := h2 u (hsub u hu); omega
    · rw [v47] at hu; omega
  · intro c cM W hA
    rw [n871, f2.fe (by decide), hsu, n89, i3]
    have h9' : Su (fun i => c (iv μ 46 i)) (nv μ 87) + (cM + pend cM Z) ≤ W * (nv μ 89 + (Z.length + 1)) := h6 c cM W hA
    have h10 : c 14 = cM := hA.2.1
    have h11 : nv μ 89 + 1 + Z.length = nv μ 89 + (Z.length + 1) := by omega
    rw [h11]; omega
  · rw [n871, f2.fe (by decide), hsu, i2]
    have : oc 14 = 1 := rfl
    simp only [List.length_cons, List.length_nil]; omega
set_option maxHeartbeats 2000000 in
theorem g_whole {t : Bool} {b : Nat} {Vb : Nat → Prop} {ve : Nat} {th wo be bh : Nat → Int} {N : Nat} {μ : Mem} {i : Nat} {c : Int} {L : List Act} {cs : List Nat} {R : List Fm} {Zs : List Zc} {V : Nat → Prop} {T : Nat} (h : Jx t b Vb ve th wo be bh N μ (7, i, c) L cs R Zs V T) {a1 : Int32} (ha1 : a1.toInt = (i : Int)) : ok (p_X12_whole a1 μ) (Sx t b Vb ve th wo be bh N μ T) := by
  have hJ := h
  obtain ⟨rl, hR, r31⟩ := h.room
  obtain ⟨h1, h2, h3, h4, h5, h6, h7, h8, h9, h10⟩ := h
  have e1 : (1 : Int32).toInt = 1 := by decide
  have e14 : (14 : Int32).toInt = 14 := by decide
  have e300 : (300 : Int32).toInt = 300 := by decide
  cases R with
  | nil => exact h2.elim
  | cons f R =>
    obtain ⟨ρ, c0⟩ := f
    obtain ⟨hc0, hcl⟩ := h2
    obtain ⟨V0, Z, x0, hcp, hZ, hx0, hs0, hlen, hLv, hnx⟩ : ∃ (V0 : Nat → Prop) (Z : List Zc) (y : Nat), c = (y : Int) ∧ Zs = (i, V0, true) :: Z ∧ y < nv μ 56 ∧ iv μ 30 y ≠ 2 ∧ c0 + 1 ≤ cs.length ∧ Lv μ V0 (cs.drop 1) ((ρ, c0) :: R) ∧ ∀ x, Ok th wo be N μ L ((ρ, c0) :: R) (x :: cs.drop 1) Z V0 := by
      rcases hcl with ⟨h, _⟩ | ⟨h, _⟩ | ⟨h, _⟩ | ⟨h, _⟩ | ⟨h, _⟩ | ⟨h, _⟩ | ⟨h, _⟩ | ⟨_, b1⟩
      rotate_left 7
      · exact b1
      all_goals exact absurd h (by decide)
    subst hZ
    have htt : t = true := by
      cases t
      · have := (h1.2.2.2.2 rfl).2.1; exact absurd this (by simp)
      · rfl
    subst htt
    cases cs with
    | nil => simp at hlen
    | cons x cs =>
      simp only [List.drop_succ_cons, List.drop_zero] at hnx hLv
      simp only [List.length_cons] at hlen rl
      have hS : Sp4 bh ((7, i, c) :: L) = 1 + Sp4 bh L := by show stp bh _ + _ = _; simp [stp]
      have hbd := h3.head (by simp)
      have hpot : pot bh (7, i, c) = 3 := by simp [pot]
      rw [hpot] at hbd
      simp only [List.length_cons] at hbd
      have g89 := rm_89 h1.1.1
      obtain ⟨A1, A2⟩ := h1.1.2.2.1
      have n65 : (μ.1 0 65).toNatClampNeg = L.length := tn_of A1
      rw [p_X12_whole_eq, n65]
      refine ok_gd (inb_iff.mpr (by omega)) (ok_bv (fun v1 ev1 => ?_))
      have t1 : v1.toInt = (x0 : Int) := by
        rw [ev1]
        show iv μ 39 L.length = _
        rw [h10]; exact hcp
      refine ok_bd (k_mark h1 (by omega) (kk := 14) ha1) ?_
      rintro r3 μ2 ⟨c1, c2, c3⟩
      have c1 : IM μ2 := c1
      have c2 : Fr fdT true μ μ2 := c2
      have over31 : ∀ ν : Mem, IM ν → Fr fdT true μ ν → ν.1 0 68 ≠ 0 → ok (p_X12_whole_b31 a1 v1 r3 ν) (Sx true b Vb ve th wo be bh N μ T) := by
        intro ν i1 i2 i3
        rw [p_X12_whole_b31_eq, if_neg i3]
        exact ok_some ⟨i1, fd_fg (t := true) i2, Or.inl ⟨i3, fun h => absurd h (by decide)⟩⟩
      refine ok_ite (fun h0 => ?_) (fun h0 => over31 μ2 c1 c2 h0)
      obtain ⟨y, V1, ν, y1, y2, y3, y4, y5, y6, y7, y8, y9, y10, y11, y12, y13, y14, y15, y16⟩ := c3.resolve_left (fun h => h h0)
      have y1 : r3.toInt = (y : Int) := y1
      have y6 : Gr ν μ2 := y6
      have y7 : Gd μ2 V1 y := y7
      have y8 : iv μ2 30 y ≠ 2 := y8
      have y9 : nv μ2 56 + nv μ 89 ≤ nv μ 56 + nv μ2 89 := y9
      have y10 : nv μ 89 ≤ nv μ2 89 := y10
      have y11 : μ2.1 0 73 = μ.1 0 73 := y11
      have y12 : It ν μ2 14 [y] := by have h := y12; rw [e14] at h; exact h
      have y13 : iv μ2 48 (nv ν 87) = (i : Int) := y13
      have y14 : Vw μ2 L cs ((ρ, c0) :: R) := y14
      have y15 : μ2.1 0 69 = ν.1 0 69 := y15
      have y16 : Opd μ2 (nv μ2 88) V1 (nv ν 88) := y16
      have hTν := (y2.2.2.2.1 rfl).2
      have hrm := hTν.room y2.1.1
      have hlt := Zq.lt hTν.1
      have n1 : a1.toNatClampNeg = i := tn_of ha1
      rw [p_X12_countInstruction_eq, n1]
      have g892 := rgm_0_89 c1
      refine ok_bw (P := fun q => IM q ∧ Fr fdT true μ q ∧ (q.1 0 68 ≠ 0 ∨ (q.1 0 68 = 0 ∧ nv q 89 = nv μ2 89 + 1 ∧ nv q 93 = nv μ2 93 + 1 ∧ iv q 47 i = (nv ν 93 : Int) ∧ (∀ j, j ≠ i → iv q 47 j = iv μ2 47 j) ∧ Fr [(0, 0, 89), (1, 47, 0), (0, 0, 93)] true μ2 q))) ?_ ?_
      · refine ok_ite (fun _ => ok_bv (fun q eq => ok_some ⟨by rw [eq]; exact IM_F c1 (rtm_0_68 _), c2.trans (by rw [eq]; exact Fr.put Fr.rf (by decide +kernel)), Or.inl (by rw [eq, sF_v]; decide)⟩)) (fun h300 => ok_bv (fun μ4 em4 => ?_))
        have hne : (μ2.1 0 89).toInt ≠ 300 := fun h => h300 (ti_eq.mpr (by rw [h, e300]))
        have t89 : (μ2.1 0 89 + 1).toInt = (μ2.1 0 89).toInt + 1 := by rw [ti_add (by omega) (by omega), e1]
        have hI4 : IM μ4 := by rw [em4]; exact IM_F c1 (rpm_0_89 (by rw [t89]; omega))
        rw [if_neg (by decide)]
        refine ok_gd (inb_iff.mpr (by omega)) (ok_bv (fun μ5 em5 => ok_bv (fun μ6 em6 => ok_some ?_)))
        have hI5 : IM μ5 := by rw [em5]; exact IM_F hI4 (rtma_47 _ _)
        have x93 : μ5.1 0 93 = μ2.1 0 93 := by rw [em5, sF_i (by decide), em4, sF_k (by decide)]
        have g93 := rgm_0_93 c1
        have m93 := ti_nat (a := μ2.1 0 93) (by omega)
        have em93 : nv μ2 93 = (μ2.1 0 93).toNatClampNeg := rfl
        have e93 : nv μ2 93 = nv ν 93 := y12.2.2.2.1
        have t93 : (μ5.1 0 93 + 1).toInt = (μ2.1 0 93).toInt + 1 := by rw [x93, ti_add (by omega) (by omega), e1]
        have hI6 : IM μ6 := by rw [em6]; exact IM_F hI5 (rpm_0_93 (by rw [t93]; omega))
        have F6 : Fr [(0, 0, 89), (1, 47, 0), (0, 0, 93)] true μ2 μ6 := by
          rw [em6]; refine Fr.put ?_ (by decide +kernel)
          rw [em5]; refine Fr.puta ?_ (by decide +kernel)
          rw [em4]; exact Fr.put Fr.rf (by decide +kernel)
        have m89 := ti_nat (a := μ2.1 0 89) (by omega)
        have em89 : nv μ2 89 = (μ2.1 0 89).toNatClampNeg := rfl
        refine ⟨hI6, c2.trans (Fr.mono F6 (by decide +kernel) (fun h => h)), Or.inr ⟨by rw [F6.v (by decide +kernel)]; exact h0, ?_, ?_, ?_, fun j hj => ?_, F6⟩⟩
        · refine tn_of ?_
          rw [em6, sF_k (by decide), em5, sF_i (by decide), em4, sF_v, t89]; omega
        · refine tn_of ?_
          rw [em6, sF_v, t93]; omega
        · unfold iv
          rw [em6, sF_i (by decide), em5, sF_v, em4, sF_k (by decide)]; omega
        · unfold iv
          rw [em6, sF_i (by decide), em5, sF_k hj, em4, sF_i (by decide)]
      rintro μ20 ⟨d1, d2, d3⟩
      rcases d3 with d3 | ⟨d3, d4, d5, d6, d7, d8⟩
      · exact over31 μ20 d1 d2 d3
      rw [p_X12_whole_b31_eq, if_pos d3, n1]
      have x87 : μ20.1 0 87 = μ2.1 0 87 := d8.v (by decide +kernel)
      have h87 : nv μ2 87 = nv ν 87 + 1 := y12.1
      have g87 := rgm_0_87 c1
      have m87 := ti_nat (a := μ2.1 0 87) (by omega)
      have em87 : nv μ2 87 = (μ2.1 0 87).toNatClampNeg := rfl
      refine ok_gd (inb_iff.mpr (by omega)) (ok_bv (fun μ6 em6 => ok_bv (fun μ7 em7 => ?_)))
      have t87 : (μ20.1 0 87 - 1).toInt = (nv ν 87 : Int) := by rw [x87, ti_sub (by omega) (by omega), e1]; omega
      have hI6 : IM μ6 := by rw [em6]; exact IM_F d1 (rtma_50 _ _)
      have hI7 : IM μ7 := by rw [em7]; exact IM_F hI6 (rtm_0_90 _)
      have F7 : Fr [(0, 0, 89), (1, 47, 0), (0, 0, 93), (1, 50, 0), (0, 0, 90)] true μ2 μ7 := by
        rw [em7]; refine Fr.put ?_ (by decide +kernel)
        rw [em6]; refine Fr.puta ?_ (by decide +kernel)
        exact Fr.mono d8 (by decide +kernel) (fun h => h)
      have h90 : (μ2.1 0 90).toInt = (Z.length : Int) + 1 := by
        rw [y12.2.2.2.2.2.2.2.2.2.2.2.1]
        have := hTν.2.2.2.1
        simp only [List.length_cons] at this
        omega
      have x90 : μ6.1 0 90 = μ2.1 0 90 := by rw [em6, sF_i (by decide)]; exact d8.v (by decide +kernel)
      have z27 := hTν.2.2.2.2.1
      simp only [List.length_cons] at z27
      have t90 : (μ7.1 0 90).toInt = (Z.length : Int) := by rw [em7, sF_v, x90, ti_sub (by omega) (by omega), e1]; omega
      have o47 : ∀ j, iv μ7 47 j = iv μ20 47 j := fun j => by unfold iv; rw [em7, sF_i (by decide), em6, sF_i (by decide)]
      have hT7 : Th b Vb ve μ7 Z (Vp μ7 V0 i) := by
        refine th_end hTν y12 y13 y16 (by omega) F7 (fun j hj => by rw [o47]; exact d7 j hj) (by rw [o47]; exact d6) (fun j hj => ?_) ?_ ?_ ?_ t90
        · unfold iv
          rw [em7, sF_i (by decide), em6, sF_k hj]
          exact d8.a (c := 50) (by decide) j
        · unfold iv
          rw [em7, sF_i (by decide), em6, sF_v]; exact t87
        · have : nv μ7 89 = nv μ20 89 := by unfold nv; rw [em7, sF_k (by decide), em6, sF_i (by decide)]
          rw [this]; exact d4
        · have : nv μ7 93 = nv μ20 93 := by unfold nv; rw [em7, sF_k (by decide), em6, sF_i (by decide)]
          rw [this]; exact d5
      have v7 := y14.fr hI7 F7 (by decide +kernel)
      have G7 := F7.gr (by decide +kernel)
      have Gm : Gr μ μ2 := y5.tr y6
      have e56 : nv μ7 56 = nv μ2 56 := (F7.heq (by decide +kernel)).1
      have e89 : nv μ7 89 = nv μ2 89 + 1 := by
        have : nv μ7 89 = nv μ20 89 := by unfold nv; rw [em7, sF_k (by decide), em6, sF_i (by decide)]
        rw [this]; exact d4
      have e897 := rm_89 hI7
      have hM7 : Mx true b Vb ve μ7 L cs ((ρ, c0) :: R) Z (Vp μ7 V0 i) := by
        refine ⟨v7, ((hLv.gr Gm).gr G7).mono (fun u hu => Or.inl hu), ?_, fun _ => ⟨?_, hT7⟩, fun h => absurd h (by decide)⟩
        · rw [F7.v (by decide +kernel)]; exact h0
        · rw [F7.v (by decide +kernel), y15]; exact (y2.2.2.2.1 rfl).1
      have F07 : Fr (fg true) true μ μ7 := (fd_fg (t := true) c2).trans (Fr.mono F7 (by decide +kernel) (fun h => h))
      have e73 : μ7.1 0 73 = μ.1 0 73 := by rw [F7.v (by decide +kernel), y11]
      -- a value comes
      have come : ∀ (μ9 : Mem) (w : Int32) (z : Nat), Mx true b Vb ve μ9 L cs ((ρ, c0) :: R) Z (Vp μ7 V0 i) → Fr frN true μ7 μ9 → Gr μ7 μ9 → nv μ9 56 ≤ nv μ7 56 + 1 → w.toInt = (z : Int) → Gd μ9 (Vp μ7 V0 i) z → ok (bw (p_X12_come w μ9) (fun μ14 => some μ14)) (Sx true b Vb ve th wo be bh N μ T) := by
        intro μ9 w z hM9 F9 G9 n9 hw hz
        refine ok_bw (v_come hM9.1 (by omega) hw hz.1.lt) ?_
        rintro μ14 ⟨f14, v14⟩
        have G14 := f14.gr (by decide +kernel)
        have F714 : Fr (frN ++ frCo) true μ7 μ14 := (Fr.mono F9 (by decide +kernel) (fun h => h)).trans (Fr.mono f14 (by decide +kernel) (fun h => h))
        have hM14 : Mx true b Vb ve μ14 L (z :: cs) ((ρ, c0) :: R) Z (Vp μ7 V0 i) := by
          refine ⟨v14, (hM9.2.1.gr G14).cons (hz.gr G14), ?_, fun _ => ⟨?_, (hM9.2.2.2.1 rfl).2.fr f14 (by decide +kernel)⟩, fun h => absurd h (by decide)⟩
          · rw [f14.v (by decide +kernel)]; exact hM9.2.2.1
          · rw [f14.v (by decide +kernel)]; exact (hM9.2.2.2.1 rfl).1
        have hPA : PA th wo be bh N μ14 := ((h4.fr c2 (by decide +kernel)).fr F7 (by decide +kernel)).fr F714 (by decide +kernel)
        have hD : Dp true μ14 ((ρ, c0) :: R) := ((h5.fr c2 (by decide +kernel)).fr F7 (by decide +kernel)).fr F714 (by decide +kernel)
        have ecl : cl true μ14 = cl true μ := by rw [cl_fr F714 (by decide +kernel), cl_fr F7 (by decide +kernel), cl_fr c2 (by decide +kernel)]
        have n14 : nv μ14 56 = nv μ9 56 := (f14.heq (by decide +kernel)).1
        have n1489 : nv μ14 89 = nv μ7 89 := F714.n (by decide +kernel)
        have e7314 : μ14.1 0 73 = μ.1 0 73 := by rw [F714.v (by decide +kernel), e73]
        have GA : Gr μ μ14 := ((Gm.tr G7).tr G9).tr G14
        have hOk : Ok th wo be N μ14 L ((ρ, c0) :: R) (z :: cs) Z (Vp μ7 V0 i) := Ok.mono _ _ _ _ _ _ (fun u hu => Or.inl hu) (Ok.gr GA _ _ _ _ _ (hnx z))
        refine ok_some ⟨v14.1, F07.trans (Fr.mono F714 (by decide +kernel) (fun h => h)), Or.inr ⟨L, z :: cs, _, Z, _, Sp4 bh L + 330 * cl true μ14, ⟨hM14, hOk, hbd.mono (by simp only [List.length_cons]; omega), hPA, hD, rfl, by rw [ecl]; omega, by rw [e7314]; exact h8, by rw [e7314, ecl]; omega⟩, by rw [ecl]; omega⟩⟩
      have lx0 : x0 < nv μ7 56 := by have := Gm.1; have := G7.1; omega
      have s07 : iv μ7 30 x0 = iv μ 30 x0 := by rw [(G7.2 x0 (by have := Gm.1; omega)).1, (Gm.2 x0 hx0).1]
      have ly := y7.1.lt
      have ehp := hp_nv hI7
      have g56 := rgm_0_56 hI7
      -- its register
      have reg : ok (p_X12_whole_b103 a1 v1 μ7) (Sx true b Vb ve th wo be bh N μ T) := by
        rw [p_X12_whole_b103_eq, p_X12_whole_b104_eq, if_pos rfl]
        refine ok_bd (v_reg v7 ha1 (by omega) (r := nv ν 93) (by rw [o47]; exact d6) (by omega)) ?_
        rintro r13 μ12 ⟨q1, q2, q3, q4, q5, q6, q7, q8⟩
        have q1 : r13.toInt = (nv μ7 56 : Int) := q1
        have q2 : Fr frN true μ7 μ12 := q2
        have q3 : Gr μ7 μ12 := q3
        have q4 : Vw μ12 L cs ((ρ, c0) :: R) := q4
        have q5 : nv μ12 56 = nv μ7 56 + 1 := q5
        have q6 : iv μ12 30 (nv μ7 56) = 3 := q6
        have q7 : iv μ12 31 (nv μ7 56) = (nv ν 93 : Int) := q7
        have q8 : iv μ12 33 (nv μ7 56) = 1 := q8
        have hM12 : Mx true b Vb ve μ12 L cs ((ρ, c0) :: R) Z (Vp μ7 V0 i) := by
          refine ⟨q4, hM7.2.1.gr q3, ?_, fun _ => ⟨?_, hT7.fr q2 (by decide +kernel)⟩, fun h => absurd h (by decide)⟩
          · rw [q2.v (by decide +kernel)]; exact hM7.2.2.1
          · rw [q2.v (by decide +kernel)]; exact (hM7.2.2.2.1 rfl).1
        refine come μ12 r13 (nv μ7 56) hM12 q2 q3 (by omega) q1 ⟨Vl.leaf (by omega) (by omega) (fun _ => ?_), by omega⟩
        rw [q7]
        refine ⟨by omega, Or.inr ⟨?_, by rw [o47, d6]; rfl⟩⟩
        have hi6 : iv ν 46 i = 6 := hTν.1.2.1.1
        have gi := y12.ag.2 i (by omega)
        have : iv μ7 46 i = iv μ2 46 i := F7.a (by decide) i
        rw [this, gi.1, hi6]; decide
      have bx : inb v1 100000 = true := inb_iff.mpr (by omega)
      have by' : inb r3 100000 = true := inb_iff.mpr (by omega)
      refine ok_bd (t_isKnown hI7 t1 lx0) ?_
      rintro r9 μ8 ⟨u1, u2⟩
      have u1 : μ7 = μ8 := Eq.symm u1
      subst u1
      have u2 : (r9 = 0 ∧ iv μ7 30 x0 = 3) ∨ (r9 = 1 ∧ iv μ7 30 x0 ≠ 3) := u2
      refine ok_ite (fun _ => reg) (fun hk => ok_gd bx (ok_gd by' (ok_ite (fun _ => ok_gd bx (ok_gd by' (ok_ite (fun _ => ?_) (fun _ => reg)))) (fun _ => reg))))
      rw [p_X12_whole_b104_eq, if_neg (by decide)]
      have hn3 : iv μ7 30 x0 ≠ 3 := by
        rcases u2 with ⟨u2, _⟩ | ⟨_, u2⟩
        · exact absurd u2 hk
        · exact u2
      have hn2 : iv μ7 30 x0 ≠ 2 := by rw [s07]; exact hs0
      have hw1 : iv μ7 33 x0 = 1 := by
        obtain ⟨_, ⟨_, hz⟩ | ⟨hz, _⟩⟩ := v7.2.1 x0 lx0
        · exact hz
        · exact absurd hz hn2
      exact come μ7 v1 x0 hM7 Fr.rf Gr.rf (by omega) t1 ⟨Vl.leaf lx0 hn2 (fun h => absurd h hn3), by omega⟩
