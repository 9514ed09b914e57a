/-! CHOICES -/
theorem It.ag {μ μ1 : Mem} {k : Int} {xs : List Nat} (h : It μ μ1 k xs) : Ao μ μ1 (nv μ 88) (nv μ1 88) (nv μ 110) (nv μ1 110) ∧ ∀ j, j ≠ nv μ 87 → Ag μ μ1 (nv μ 88) (nv μ 110) j := by
  obtain ⟨i1, i2, i3, i4, i6, i7, i8, i9, i10, i11, i12, i13, i14, i15, i16⟩ := h
  exact ⟨⟨by omega, by omega, i11, fun v _ => (i10 v).2.2.1⟩, fun j hj => ⟨(i9 j hj).1, (i9 j hj).2.1, (i9 j hj).2.2.1, (i10 j).1, (i10 j).2.1, (i9 j hj).2.2.2.1, (i9 j hj).2.2.2.2⟩⟩
theorem It.su {μ μ1 : Mem} {k : Int} {xs : List Nat} (h : It μ μ1 k xs) (c : Int → Nat) : Su (fun i => c (iv μ1 46 i)) (nv μ1 87) = Su (fun i => c (iv μ 46 i)) (nv μ 87) + c k := by
  obtain ⟨i1, i2, i3, i4, i6, i7, i8, i9, i10, i11, i12, i13, i14, i15, i16⟩ := h
  rw [i1]
  show Su _ (nv μ 87) + c (iv μ1 46 (nv μ 87)) = _
  rw [i6, Su.cong (nv μ 87) (fun i hi => by rw [(i9 i (by omega)).1])]
/-- a choice begins -/
theorem th_if {b : Nat} {Vb : Nat → Prop} {ve : Nat} {μ μ1 μ2 : Mem} {Zs : List Zc} {V : Nat → Prop} {x : Nat} (h : Th b Vb ve μ Zs V) (hi : It μ μ1 6 [x]) (ho : Opd μ1 (nv μ1 88) V (nv μ 88)) (f2 : Fr [(0, 0, 90)] true μ1 μ2) (h90 : (μ2.1 0 90).toInt = (Zs.length : Int) + 1) (h27 : Zs.length + 1 ≤ 27) : Th b Vb ve μ2 ((nv μ 87, V, false) :: Zs) V := by
  obtain ⟨ao, ag⟩ := hi.ag
  have hsu := hi.su
  obtain ⟨i1, i2, i3, i4, i6, i7, i8, i9, i10, i11, i12, i13, i14, i15, i16⟩ := hi
  obtain ⟨h1, h2, h3, h4, h5, h6, h7, h8⟩ := h
  have hz := h1.cong ao (fun j _ hj => ag j (by omega))
  have ao2 : Ao μ1 μ2 (nv μ1 88) (nv μ1 88) (nv μ1 110) (nv μ1 110) := ⟨Nat.le_refl _, Nat.le_refl _, fun o _ => ⟨f2.a (by decide) o, f2.a (by decide) o⟩, fun v _ => f2.a (by decide) v⟩
  have ag2 : ∀ j, Ag μ1 μ2 (nv μ1 88) (nv μ1 110) j := fun j => ⟨f2.a (by decide) j, f2.a (by decide) j, f2.a (by decide) j, f2.a (by decide) j, f2.a (by decide) j, f2.a (by decide) j, f2.a (by decide) j⟩
  have n87 : nv μ2 87 = nv μ 87 + 1 := by rw [f2.n (by decide +kernel)]; exact i1
  have n88 : nv μ2 88 = nv μ1 88 := f2.n (by decide +kernel)
  have n89 : nv μ2 89 = nv μ 89 := by rw [f2.n (by decide +kernel)]; exact i3
  have n93 : nv μ2 93 = nv μ 93 := by rw [f2.n (by decide +kernel)]; exact i4
  have n110 : nv μ2 110 = nv μ1 110 := f2.n (by decide +kernel)
  have n871 : nv μ2 87 = nv μ1 87 := f2.n (by decide +kernel)
  unfold Th
  rw [n88, n110, n93]
  refine ⟨⟨hz.cong ao2 (fun j _ _ => ag2 j), ⟨by rw [f2.a (by decide)]; exact i6, nv μ 88, by rw [f2.a (by decide)]; exact i7, ho.cong ao2⟩, Or.inl ⟨rfl, ?_⟩⟩, h2, by omega, by rw [h90]; simp, by simpa using h27, ?_, ?_, h8.1, (h8.2.cong ao (fun j hj => ag j (by have := Zq.le h1; omega)) (fun w => (i10 w).2.2.2)).cong ao2 (fun j _ => ag2 j) (fun w => ⟨f2.a (by decide) w, f2.a (by decide) w, f2.a (by decide) w, f2.v (by decide +kernel)⟩)⟩
  · rw [n87]; exact Blo.nil
  · intro c cM W ha
    rw [n871, f2.fe (by decide), hsu, n89]
    have h9 := h6 c cM W ha
    have h10 := ha.2.2.1
    show _ + (2 * cM + pend cM Zs) ≤ W * (nv μ 89 + (Zs.length + 1))
    have h11 : W * (nv μ 89 + (Zs.length + 1)) = W * (nv μ 89 + Zs.length) + W := by
      rw [← Nat.add_assoc, Nat.mul_add, Nat.mul_one]
    omega
  · rw [n871, f2.fe (by decide), hsu, i2]
    have : oc 6 = 1 := rfl
    simp only [List.length_cons, List.length_nil]; omega
set_option maxHeartbeats 2000000 in
theorem g_choose {t : Bool} {b : Nat} {Vb : Nat → Prop} {ve : Nat} {th wo be bh : Nat → Int} {N : Nat} {μ : Mem} {p : Nat} {c : Int} {L : List Act} {cs : List Nat} {R : List Fm} {Zs : List Zc} {V : Nat → Prop} {T : Nat} (h : Jx t b Vb ve th wo be bh N μ (2, p, c) L cs R Zs V T) {a : Int32} (ha : a.toInt = (p : Int)) : ok (p_X12_choose a μ) (Sx t b Vb ve th wo be bh N μ T) := by
  have hJ := h
  obtain ⟨rl, hR, r31⟩ := h.room
  obtain ⟨h1, h2, h3, h4, h5, h6, h7, h8, h9, h10⟩ := h
  obtain ⟨hBq, hN⟩ := h4.bq
  have e0 : (0 : Int32).toInt = 0 := by decide
  have e1 : (1 : Int32).toInt = 1 := by decide
  have e6 : (6 : Int32).toInt = 6 := by decide
  cases R with
  | nil => exact h2.elim
  | cons f R =>
    obtain ⟨ρ, c0⟩ := f
    obtain ⟨hc0, hcl⟩ := h2
    obtain ⟨tt, ⟨q, hq, hbe, hFo⟩, hlen, hnx⟩ : th p = 7 ∧ (∃ q, q ≤ N ∧ be p = 3 ∧ Fo th wo be (Dm ρ) 3 (p + 1) q) ∧ c0 + 1 ≤ cs.length ∧ ∀ x, Ok th wo be N μ L ((ρ, c0) :: R) (x :: cs.drop 1) Zs V := by
      rcases hcl with ⟨h, _⟩ | ⟨h, _⟩ | ⟨_, b0, b1, b2, b3⟩ | ⟨h, _⟩ | ⟨h, _⟩ | ⟨h, _⟩ | ⟨h, _⟩ | ⟨h, _⟩
      rotate_left 2
      · exact ⟨b0, b1, b2, b3⟩
      all_goals exact absurd h (by decide)
    cases cs with
    | nil => simp at hlen
    | cons x cs =>
      simp only [List.drop_succ_cons, List.drop_zero] at hnx
      simp only [List.length_cons] at hlen rl
      obtain ⟨m1, F1, F23⟩ := hFo.one
      obtain ⟨m2, F2, F3⟩ := F23.one
      have l1 := F1.le
      have l2 := F2.le
      have l3 := F3.le
      have hb1 : bh (p + 1) = (m1 : Int) := hBq.at F1.sh (by omega)
      have hb2 : bh m1 = (m2 : Int) := hBq.at F2.sh (by omega)
      have hb3 : bh m2 = (q : Int) := hBq.at F3.sh (by omega)
      have hbp : bh p = (q : Int) := hBq.at (Sh.cons (k := 3) hbe hFo.sh Sh.nil) (by omega)
      have sz2 : sz bh m1 = m2 - m1 := by unfold sz; rw [hb2]; omega
      have sz3 : sz bh m2 = q - m2 := by unfold sz; rw [hb3]; omega
      have hpot : pot bh (2, p, c) = 1 + (q - m1) := by simp [pot, hbp, hb1]
      have hstp : stp bh (2, p, c) = 3 + 4 * (q - m1) := by simp [stp, hbp, hb1]
      have hS : Sp4 bh ((2, p, c) :: L) = 3 + 4 * (q - m1) + Sp4 bh L := by show stp bh _ + _ = _; rw [hstp]
      have hbd := h3.head (by simp)
      rw [hpot] at hbd
      simp only [List.length_cons] at hbd
      rw [p_X12_choose_eq]
      refine ok_bd h1.gone ?_
      rintro r2 μ1 ⟨g1, g2, g3, g4, g5, g6, g7, g8⟩
      have g1 : r2.toInt = (x : Int) := g1
      have g2 : Fr (fd t) true μ μ1 := g2
      have g3 : Gr μ μ1 := g3
      have g4 : nv μ1 56 = nv μ 56 := g4
      have g5 : nv μ1 89 = nv μ 89 := g5
      have g6 : μ1.1 0 73 = μ.1 0 73 := g6
      have g7 : Gd μ1 V x := g7
      have g8 : Mx t b Vb ve μ1 L cs ((ρ, c0) :: R) Zs V := g8
      have nd : nD (fd t) = true := by cases t <;> decide +kernel
      have np : nP (fd t) = true := by cases t <;> decide +kernel
      have hPA1 : PA th wo be bh N μ1 := h4.fr g2 np
      have hD1 := h5.fr g2 nd
      have hcl1 : cl t μ1 = cl t μ := cl_fr g2 nd
      refine ok_bd (t_num g8.1.1 g8.1.2.1 g1 g7.1.lt) ?_
      rintro r4 μ1' ⟨k, k1, k2, k3⟩
      have k2 : μ1 = μ1' := k2.symm
      subst k2
      have k1 : r4.toInt = (k : Int) := k1
      have gk := k3.gd g7
      have lk := gk.1.lt
      have ehp := hp_nv g8.1.1
      have g56 := rgm_0_56 g8.1.1
      have t1 : (a + 1).toInt = ((p + 1 : Nat) : Int) := by rw [ti_add (by omega) (by omega), e1, ha]; omega
      have n1 : (a + 1).toNatClampNeg = p + 1 := tn_of t1
      rw [n1]
      have x10 : ∀ ν : Mem, PA th wo be bh N ν → ∀ j : Nat, (ν.1 10 j).toInt = bh j := fun ν hν j => by rw [← hν.2.2.2.1]; rfl
      refine ok_gd (inb_iff.mpr (by omega)) (ok_bv (fun v5 ev5 => ?_))
      have t5 : v5.toInt = (m1 : Int) := by rw [ev5, x10 μ1 hPA1, hb1]
      have n5 : v5.toNatClampNeg = m1 := tn_of t5
      rw [n5]
      have b5 : inb v5 800 = true := inb_iff.mpr (by omega)
      have bk : inb r4 100000 = true := inb_iff.mpr (by omega)
      have nk : r4.toNatClampNeg = k := tn_of k1
      refine ok_bd (t_isKnown g8.1.1 k1 lk) ?_
      rintro r7 μ6 ⟨u1, u2⟩
      have u1 : μ1 = μ6 := Eq.symm u1
      subst u1
      have u2 : (r7 = 0 ∧ iv μ1 30 k = 3) ∨ (r7 = 1 ∧ iv μ1 30 k ≠ 3) := u2
      -- one of the two is to be worked
      have one : ∀ (s : Nat) (e : Nat) (w : Int32), w.toInt = (s : Int) → e ≤ N → Fo th wo be (Dm ρ) 1 s e → sz bh s ≤ q - m1 → ok (bw (p_X12_push 0 w 0 μ1) (fun μ19 => some μ19)) (Sx t b Vb ve th wo be bh N μ T) := by
        intro s e w hw he hF hs
        refine ok_bw (g8.push (by omega) (w := 0) (a := s) (c := 0) e0 hw e0) ?_
        rintro μ19 ⟨f19, hM19⟩
        have G19 := f19.gr (by decide +kernel)
        have hS2 : Sp4 bh ((0, s, 0) :: L) = 4 * sz bh s + Sp4 bh L := by simp [Sp4, stp]
        have hOk : Ok th wo be N μ1 ((0, s, 0) :: L) ((ρ, c0) :: R) cs Zs V := ⟨by omega, Or.inl ⟨rfl, e, he, hF, fun z => Ok.gr g3 _ _ _ _ _ (hnx z)⟩⟩
        have ecl : cl t μ19 = cl t μ := by rw [cl_fr f19 (by decide +kernel), hcl1]
        refine ok_some ⟨hM19.1.1, (fd_fg g2).trans (fg_mono f19 (by decide +kernel) t), Or.inr ⟨_, cs, _, Zs, V, Sp4 bh ((0, s, 0) :: L) + 330 * cl t μ19, ⟨hM19, Ok.gr G19 _ _ _ _ _ hOk, ?_, hPA1.fr f19 (by decide +kernel), hD1.fr f19 (by decide +kernel), rfl, ?_, ?_, ?_⟩, ?_⟩⟩
        · refine Bd.app (A := [(0, s, 0)]) (fun t ht => ?_) (hbd.mono ?_)
          · have : t = (0, s, 0) := by simpa using ht
            rw [this]; simp
          · simp [pot]; omega
        · rw [(f19.heq (by decide +kernel)).1, f19.n (by decide +kernel), hS2, ecl]; omega
        · rw [f19.v (by decide +kernel), g6]; exact h8
        · rw [f19.v (by decide +kernel), g6, hS2, ecl]; omega
        · rw [hS2, ecl]; omega
      refine ok_ite (fun h0 => ?_) (fun h0 => ok_gd bk (ok_gd bk (ok_ite (fun _ => ok_gd b5 (one m2 q _ (by rw [x10 μ1 hPA1, hb2]) hq F3 (by omega))) (fun _ => one m1 m2 v5 t5 (by omega) F2 (by omega)))))
      -- not known
      have h3k : iv μ1 30 k = 3 := by
        rcases u2 with ⟨_, u2⟩ | ⟨u2, _⟩
        · exact u2
        · rw [u2] at h0; exact absurd h0 (by decide)
      have htt := g8.known gk h3k
      subst htt
      have hT1 := (g8.2.2.2.1 rfl).2
      have hrm := hT1.room g8.1.1
      refine ok_bd (t_item g8.1.1 (by omega) (a1 := 6)) ?_
      rintro r10 μ9 ⟨c1, c2, c3, c4, c5⟩
      have c1 : r10.toInt = (nv μ1 87 : Int) := c1
      have c2 : IM μ9 := c2
      have c3 : Fr frIt true μ1 μ9 := c3
      have c4 : It μ1 μ9 6 [] := by have h := c4; rw [e6] at h; exact h
      have v9 := g8.1.fr c2 c3 (by decide +kernel)
      have e9 : nv μ9 56 = nv μ1 56 := (c3.heq (by decide +kernel)).1
      refine ok_bw (em_opI v9 c4 (by omega) hrm.2.1 (by simp) c1 k1 (by omega)) ?_
      rintro μ11 ⟨d1, d2, d3, d4⟩
      have e11 : nv μ11 56 = nv μ9 56 := (d2.heq (by decide +kernel)).1
      have G11 : Gr μ1 μ11 := (c3.gr (by decide +kernel)).tr (d2.gr (by decide +kernel))
      have hop : Opd μ11 (nv μ11 88) V (nv μ1 88) := ops_opdI d4 (V := V) d3.2.1 (fun z hz => by
        have : z = k := by simpa using hz
        rw [this]; exact ⟨(gk.gr G11).1, by rw [(G11.2 k lk).1]; exact k3.2.2.1⟩) 0 (by simp)
      refine ok_bv (fun μ13 em13 => ?_)
      have f13 : Fr [(0, 0, 90)] true μ11 μ13 := by rw [em13]; exact Fr.put Fr.rf (by decide +kernel)
      have hI13 : IM μ13 := by rw [em13]; exact IM_F d1 (rtm_0_90 _)
      have v13 := d3.fr hI13 f13 (by decide +kernel)
      have G13 : Gr μ1 μ13 := G11.tr (f13.gr (by decide +kernel))
      have h90 : (μ11.1 0 90).toInt = (Zs.length : Int) := by
        rw [d2.v (by decide +kernel), c3.v (by decide +kernel)]; exact hT1.2.2.2.1
      have hz27 := hT1.2.2.2.2.1
      have h9013 : (μ13.1 0 90).toInt = (Zs.length : Int) + 1 := by rw [em13, sF_v, ti_add (by omega) (by omega), e1, h90]
      -- the new acts
      have hOk : Ok th wo be N μ1 ((0, m1, 0) :: (6, nv μ1 87, (m2 : Int)) :: L) ((ρ, c0) :: R) cs ((nv μ1 87, V, false) :: Zs) V := by
        refine ⟨by omega, Or.inl ⟨rfl, m2, by omega, F2, fun z => ⟨by simp; omega, Or.inr (Or.inr (Or.inr (Or.inr (Or.inr (Or.inr (Or.inl ⟨rfl, V, Zs, m2, q, rfl, rfl, hq, F3, by simp; omega, ?_, fun y => ?_⟩))))))⟩⟩⟩
        · simp only [List.drop_succ_cons, List.drop_zero]
          exact g8.2.1
        · simp only [List.drop_succ_cons, List.drop_zero]
          exact Ok.gr g3 _ _ _ _ _ (hnx y)
      have hBd2 : Bd bh ((0, m1, 0) :: (6, nv μ1 87, (m2 : Int)) :: L) 0 ((ρ, c0) :: R) cs.length := by
        refine Bd.app (A := [(0, m1, 0), (6, nv μ1 87, (m2 : Int))]) (fun t ht => ?_) (hbd.mono ?_)
        · rcases List.mem_cons.mp ht with e | ht
          · rw [e]; simp
          · have : t = (6, nv μ1 87, (m2 : Int)) := by simpa using ht
            rw [this]; simp
        · simp [pot, sz2, sz3]; omega
      have h27 : Zs.length + 1 ≤ 27 := by
        have := blk_27 (bh := bh) _ _ _ _ _ 0 hOk ⟨cs.length, hBd2, fun f hf => by
          have : (ρ, c0) = f := by simpa using hf
          rw [← this]; show c0 ≤ _; omega⟩
        simp at this; omega
      have hT13 : Th b Vb ve μ13 ((nv μ1 87, V, false) :: Zs) V := th_if hT1 d4 hop f13 h9013 h27
      have hM13 : Mx true b Vb ve μ13 L cs ((ρ, c0) :: R) ((nv μ1 87, V, false) :: Zs) V := by
        refine ⟨v13, g8.2.1.gr G13, ?_, fun _ => ⟨?_, hT13⟩, fun h => absurd h (by decide)⟩
        · rw [f13.v (by decide +kernel), d2.v (by decide +kernel), c3.v (by decide +kernel)]; exact g8.2.2.1
        · rw [f13.v (by decide +kernel), d2.v (by decide +kernel), c3.v (by decide +kernel)]; exact (g8.2.2.2.1 rfl).1
      have F113 : Fr (frIt ++ frOp ++ [(0, 0, 90)]) true μ1 μ13 := ((Fr.mono c3 (by decide +kernel) (fun h => h)).trans (Fr.mono d2 (by decide +kernel) (fun h => h))).trans (Fr.mono f13 (by decide +kernel) (fun h => h))
      have hPA13 := hPA1.fr F113 (by decide +kernel)
      refine ok_gd b5 (ok_bw (hM13.push (by omega) (w := 6) (a := nv μ1 87) (c := (m2 : Int)) e6 c1 (by rw [x10 μ13 hPA13, hb2])) ?_)
      rintro μ14 ⟨f14, hM14⟩
      refine ok_bw (hM14.push (by simp; omega) (w := 0) (a := m1) (c := 0) e0 t5 e0) ?_
      rintro μ16 ⟨f16, hM16⟩
      have F1316 : Fr frPu true μ13 μ16 := f14.trans f16
      have hD16 : Dp true μ16 ((ρ, c0) :: R) := (hD1.fr F113 (by decide +kernel)).fr F1316 (by decide +kernel)
      have ecl : cl true μ16 = cl true μ := by rw [cl_fr F1316 (by decide +kernel), cl_fr F113 (by decide +kernel), hcl1]
      have hSn : Sp4 bh ((0, m1, 0) :: (6, nv μ1 87, (m2 : Int)) :: L) = 4 * (m2 - m1) + (2 + 4 * (q - m2) + Sp4 bh L) := by simp [Sp4, stp, sz2, sz3]
      have e56 : nv μ16 56 = nv μ 56 := by rw [(F1316.heq (by decide +kernel)).1, (F113.heq (by decide +kernel)).1, g4]
      have e89 : nv μ16 89 = nv μ 89 := by
        rw [F1316.n (by decide +kernel), F113.n (by decide +kernel), g5]
      have e73 : μ16.1 0 73 = μ.1 0 73 := by rw [F1316.v (by decide +kernel), F113.v (by decide +kernel), g6]
      refine ok_some ⟨hM16.1.1, ((fd_fg g2).trans (Fr.mono F113 (by decide +kernel) (fun h => h) : Fr (fg true) true μ1 μ13)).trans (fg_mono F1316 (by decide +kernel) true), Or.inr ⟨_, cs, _, _, V, Sp4 bh ((0, m1, 0) :: (6, nv μ1 87, (m2 : Int)) :: L) + 330 * cl true μ16, ⟨hM16, Ok.gr (G13.tr (F1316.gr (by decide +kernel))) _ _ _ _ _ hOk, hBd2, hPA13.fr F1316 (by decide +kernel), hD16, rfl, by rw [hSn, ecl]; omega, by rw [e73]; exact h8, by rw [e73, hSn, ecl]; omega⟩, by rw [hSn, ecl]; omega⟩⟩
