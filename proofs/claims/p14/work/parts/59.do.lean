/-! THE DEEDS -/
theorem po_given {t : Bool} {b : Nat} {Vb : Nat → Prop} {ve : Nat} {μ μ1 : Mem} {L : List Act} {cs : List Nat} {R : List Fm} {Zs : List Zc} {V0 V : Nat → Prop} (hVV : ∀ u, V0 u → V u) (hM : Mx t b Vb ve μ1 L cs R Zs V) (f : Fr (fd t) true μ μ1) (g : Gr μ μ1) (e56 : nv μ1 56 = nv μ 56) (hb : nv μ 89 ≤ nv μ1 89) (hw : 0 ≤ (μ1.1 0 73).toInt ∧ (μ1.1 0 73).toInt ≤ (μ.1 0 73).toInt + 1) (hl : cs.length < 5990) (hh : nv μ 56 < 100000) (hs : (μ1.1 0 0).toInt = 0 ∨ (μ1.1 0 0).toInt = 1) : ok (bd (p_X12_given μ1) (fun r μ2 => bw (p_X12_come r μ2) (fun μ5 => some μ5))) (Po t b Vb ve μ L cs R Zs V0) := by
  refine ok_bd (v_given hM.1 hs (by omega)) ?_
  rintro r μ2 ⟨c1, c2, c3, c4, c5, c6, c7⟩
  have c1 : r.toInt = (nv μ1 56 : Int) := c1
  have c2 : Fr frN true μ1 μ2 := c2
  have c3 : Gr μ1 μ2 := c3
  have c4 : Vw μ2 L cs R := c4
  have c5 : nv μ2 56 = nv μ1 56 + 1 := c5
  have e89 : nv μ2 89 = nv μ1 89 := c2.n (by decide +kernel)
  obtain ⟨m1, m2, m3, m4, m5⟩ := hM
  have hM2 : Mx t b Vb ve μ2 L cs R Zs V := ⟨c4, m2.gr c3, by rw [c2.v (by decide +kernel)]; exact m3, fun ht => ⟨by rw [c2.v (by decide +kernel)]; exact (m4 ht).1, (m4 ht).2.fr c2 (by decide +kernel)⟩, fun ht => ⟨by rw [c2.v (by decide +kernel)]; exact (m5 ht).1, (m5 ht).2⟩⟩
  exact po_come hVV hM2 (f.trans (fd_mono c2 (by decide +kernel) t)) (g.tr c3) (by omega) (by rw [c2.v (by decide +kernel)]; exact hw) hl c1 (Gd.one (by omega) c6 c7)
theorem po_node {t : Bool} {b : Nat} {Vb : Nat → Prop} {ve : Nat} {μ μ1 : Mem} {L : List Act} {cs : List Nat} {R : List Fm} {Zs : List Zc} {V0 V : Nat → Prop} (hVV : ∀ u, V0 u → V u) (hM : Mx t b Vb ve μ1 L cs R Zs V) (f : Fr (fd t) true μ μ1) (g : Gr μ μ1) (e56 : nv μ1 56 = nv μ 56) (hb : nv μ 89 ≤ nv μ1 89) (hw : 0 ≤ (μ1.1 0 73).toInt ∧ (μ1.1 0 73).toInt ≤ (μ.1 0 73).toInt + 1) (hl : cs.length < 5990) (hh : nv μ 56 < 100000) {s v : Int32} (hs : s.toInt = 0 ∨ s.toInt = 1) : ok (bd (p_X12_node s v μ1) (fun r μ2 => bw (p_X12_come r μ2) (fun μ5 => some μ5))) (Po t b Vb ve μ L cs R Zs V0) := by
  refine ok_bd (v_node hM.1 (s := s) (b := v) (by omega) (by omega)) ?_
  rintro r μ2 ⟨c1, c2, c3, c4, c5, c6, c7, c8⟩
  have c1 : r.toInt = (nv μ1 56 : Int) := c1
  have c2 : Fr frN true μ1 μ2 := c2
  have c3 : Gr μ1 μ2 := c3
  have c4 : Vw μ2 L cs R := c4
  have c5 : nv μ2 56 = nv μ1 56 + 1 := c5
  have c6 : iv μ2 30 (nv μ1 56) = s.toInt := c6
  have e89 : nv μ2 89 = nv μ1 89 := c2.n (by decide +kernel)
  obtain ⟨m1, m2, m3, m4, m5⟩ := hM
  have hM2 : Mx t b Vb ve μ2 L cs R Zs V := ⟨c4, m2.gr c3, by rw [c2.v (by decide +kernel)]; exact m3, fun ht => ⟨by rw [c2.v (by decide +kernel)]; exact (m4 ht).1, (m4 ht).2.fr c2 (by decide +kernel)⟩, fun ht => ⟨by rw [c2.v (by decide +kernel)]; exact (m5 ht).1, (m5 ht).2⟩⟩
  exact po_come hVV hM2 (f.trans (fd_mono c2 (by decide +kernel) t)) (g.tr c3) (by omega) (by rw [c2.v (by decide +kernel)]; exact hw) hl c1 (Gd.one (by omega) (by omega) c8)
/-- an instruction begins -/
theorem em_instr {b : Nat} {Vb : Nat → Prop} {ve : Nat} {μ : Mem} {L : List Act} {cs : List Nat} {R : List Fm} {Zs : List Zc} {V : Nat → Prop} (hM : Mx true b Vb ve μ L cs R Zs V) {k h : Int32} {f : Int32 → Mem → Option Mem} (hf : ∀ r μ1, r.toInt = (nv μ 87 : Int) → IM μ1 → Fr frIn true μ μ1 → Vw μ1 L cs R → In μ μ1 k.toInt (h != 0) [] → ok (f r μ1) (Po true b Vb ve μ L cs R Zs V)) : ok (bd (p_X12_instruction k h μ) (fun r μ1 => if μ1.1 0 68 = 0 then f r μ1 else some μ1)) (Po true b Vb ve μ L cs R Zs V) := by
  have hr := (hM.2.2.2.1 rfl).2.room hM.1.1
  refine ok_bd (t_instr hM.1.1 (by omega) (by omega)) ?_
  rintro r μ1 ⟨c1, c2, c3, c4⟩
  refine ok_ite (fun h0 => hf r μ1 c1 c2 c3 (hM.1.fr c2 c3 (by decide +kernel)) (c4.resolve_left (fun h => h h0))) (fun h0 => ok_some ⟨c2, Fr.mono c3 (by decide +kernel) (fun h => h), Or.inl ⟨h0, fun h => absurd h (by decide)⟩⟩)
/-- its operand -/
theorem em_op {μ μ1 : Mem} {L : List Act} {cs : List Nat} {R : List Fm} (hV : Vw μ1 L cs R) {k : Int} {hr : Bool} {xs : List Nat} (hi : In μ μ1 k hr xs) (h87 : nv μ 87 < 960) (h88 : nv μ 88 ≤ 2640) (hxs : xs.length < 1000) {r a : Int32} {x : Nat} (h1 : r.toInt = (nv μ 87 : Int)) (h2 : a.toInt = (x : Int)) (hx : x < nv μ1 56) : ok (p_X12_operand r a μ1) (fun q => IM q ∧ Fr frOp true μ1 q ∧ Vw q L cs R ∧ In μ q k hr (xs ++ [x])) := by
  refine ok_mono (t_operand hV.1 hi h87 (by omega) hxs h1 h2 hx) ?_
  rintro q ⟨c1, c2, c3⟩
  exact ⟨c1, c2, hV.fr c1 c2 (by decide +kernel), c3⟩
theorem frIn_T {μ μ1 : Mem} (f : Fr frIn true μ μ1) : Fr fdT true μ μ1 := Fr.mono f (by decide +kernel) (fun h => h)
theorem frOp_T {μ μ1 : Mem} (f : Fr frOp true μ μ1) : Fr fdT true μ μ1 := Fr.mono f (by decide +kernel) (fun h => h)
theorem fr48_T {μ μ1 : Mem} (f : Fr [(1, 48, 0)] true μ μ1) : Fr fdT true μ μ1 := Fr.mono f (by decide +kernel) (fun h => h)
theorem k_doPair {t : Bool} {b : Nat} {Vb : Nat → Prop} {ve : Nat} {μ : Mem} {L : List Act} {cs : List Nat} {R : List Fm} {Zs : List Zc} {V : Nat → Prop} {x y : Nat} (hM : Mx t b Vb ve μ L (y :: x :: cs) R Zs V) (hR : Rm μ (y :: x :: cs)) : ok (p_X12_doPair μ) (Po t b Vb ve μ L cs R Zs V) := by
  rw [p_X12_doPair_eq]
  obtain ⟨R1, R2, R3, R4⟩ := hR
  have g89 := rgm_0_89 hM.1.1
  have n89 := ti_nat (a := μ.1 0 89) (by omega)
  have en89 : nv μ 89 = (μ.1 0 89).toNatClampNeg := rfl
  refine ok_bd hM.gone ?_
  rintro r2 μ1 ⟨a1, a2, a3, a4, a5, a6, a7, a8⟩
  have a8 : Mx t b Vb ve μ1 L (x :: cs) R Zs V := a8
  refine ok_bd a8.gone ?_
  rintro r4 μ3 ⟨b1, b2, b3, b4, b5, b6, b7, b8⟩
  have b8 : Mx t b Vb ve μ3 L cs R Zs V := b8
  have b7 : Gd μ3 V x := b7
  have b3 : Gr μ1 μ3 := b3
  have a7 : Gd μ1 V y := a7
  have y3 := a7.gr b3
  have e56 : nv μ3 56 = nv μ 56 := Eq.trans b4 a4
  have e89 : nv μ3 89 = nv μ 89 := Eq.trans b5 a5
  have e73 : μ3.1 0 73 = μ.1 0 73 := Eq.trans b6 a6
  refine ok_bd (v_pair b8.1 b1 a1 b7.1.lt y3.1.lt (by have := b7.2; have := y3.2; omega) (by omega)) ?_
  rintro r6 μ5 ⟨c1, c2, c3, c4, c5, c6, c7, c8, c9⟩
  have c1 : r6.toInt = (nv μ3 56 : Int) := c1
  have c2 : Fr frN true μ3 μ5 := c2
  have c3 : Gr μ3 μ5 := c3
  have c4 : Vw μ5 L cs R := c4
  have c5 : nv μ5 56 = nv μ3 56 + 1 := c5
  have F5 : Fr (fd t) true μ μ5 := (Fr.trans a2 b2).trans (fd_mono c2 (by decide +kernel) t)
  have G5 : Gr μ μ5 := (Gr.tr a3 b3).tr c3
  have er : r6.toNatClampNeg = nv μ3 56 := tn_of c1
  have e40 : (40 : Int32).toInt = 40 := by decide
  rw [er]
  have ov : ∀ v : Int32, v ≠ 0 → ok (bv (sF μ5 0 68 v) (fun μ11 => bw (p_X12_come r6 μ11) (fun μ12 => some μ12))) (Po t b Vb ve μ L cs R Zs V) := by
    intro v hv
    refine ok_bv (fun μ11 em => ?_)
    have f11 : Fr [(0, 0, 68)] true μ5 μ11 := by rw [em]; exact Fr.put Fr.rf (by decide +kernel)
    have hI11 : IM μ11 := by rw [em]; exact IM_F c4.1 (rtm_0_68 _)
    have hV11 := c4.fr hI11 f11 (by decide +kernel)
    refine ok_bw (v_come hV11 (by simp at R2; omega) c1 (by rw [(f11.heq (by decide +kernel)).1]; omega)) ?_
    rintro μ12 ⟨f12, v12⟩
    refine ok_some ⟨v12.1, (F5.trans (fd_mono f11 (by decide +kernel) t)).trans (fd_mono f12 (by decide +kernel) t), Or.inl ⟨?_, fun _ => by rw [f12.v (by decide +kernel), f11.v (by decide +kernel), c2.v (by decide +kernel), e73]; omega⟩⟩
    rw [f12.v (by decide +kernel), em, sF_v]; exact hv
  refine ok_gd (inb_iff.mpr (by omega)) (ok_ite (fun hle => ?_) (fun _ => ok_ite (fun _ => ov _ (by decide)) (fun _ => ov _ (by decide))))
  rw [ti_le] at hle
  have hle : iv μ5 33 (nv μ3 56) ≤ 40 := by have h := hle; rw [e40] at h; exact h
  obtain ⟨m1, m2, m3, m4, m5⟩ := b8
  have hM5 : Mx t b Vb ve μ5 L cs R Zs V := ⟨c4, m2.gr c3, by rw [c2.v (by decide +kernel)]; exact m3, fun ht => ⟨by rw [c2.v (by decide +kernel)]; exact (m4 ht).1, (m4 ht).2.fr c2 (by decide +kernel)⟩, fun ht => ⟨by rw [c2.v (by decide +kernel)]; exact (m5 ht).1, (m5 ht).2⟩⟩
  have e89' : nv μ5 89 = nv μ3 89 := c2.n (by decide +kernel)
  refine po_come (fun u h => h) hM5 F5 G5 (by omega) (by rw [c2.v (by decide +kernel), e73]; omega) (by simp at R2; omega) c1 ⟨Vl.pair (by omega) c6 c7 c8 (b7.1.gr c3) (y3.1.gr c3), hle⟩
theorem k_doSign {t : Bool} {b : Nat} {Vb : Nat → Prop} {ve : Nat} {μ : Mem} {L : List Act} {cs : List Nat} {R : List Fm} {Zs : List Zc} {V : Nat → Prop} {x y : Nat} (a : Int32) (hM : Mx t b Vb ve μ L (y :: x :: cs) R Zs V) (hR : Rm μ (y :: x :: cs)) : ok (p_X12_doSign a μ) (Po t b Vb ve μ L cs R Zs V) := by
  rw [p_X12_doSign_eq]
  obtain ⟨R1, R2, R3, R4⟩ := hR
  have g89 := rgm_0_89 hM.1.1
  have n89 := ti_nat (a := μ.1 0 89) (by omega)
  have en89 : nv μ 89 = (μ.1 0 89).toNatClampNeg := rfl
  simp only [List.length_cons] at R2
  refine ok_bd hM.gone ?_
  rintro r2 μ1 ⟨a1, a2, a3, a4, a5, a6, a7, a8⟩
  have a8 : Mx t b Vb ve μ1 L (x :: cs) R Zs V := a8
  have a7 : Gd μ1 V y := a7
  refine ok_bd (t_num a8.1.1 a8.1.2.1 a1 a7.1.lt) ?_
  rintro r4 μ1' ⟨ky, k1, k2, k3⟩
  have k2 : μ1 = μ1' := k2.symm
  subst k2
  refine ok_bd a8.gone ?_
  rintro r6 μ3 ⟨b1, b2, b3, b4, b5, b6, b7, b8⟩
  have b8 : Mx t b Vb ve μ3 L cs R Zs V := b8
  have b7 : Gd μ3 V x := b7
  have b3 : Gr μ1 μ3 := b3
  have gy : Gd μ3 V ky := (k3.gd a7).gr b3
  have ny : iv μ3 30 ky ≠ 2 := by rw [(b3.2 ky k3.2.1).1]; exact k3.2.2.1
  refine ok_bd (t_num b8.1.1 b8.1.2.1 b1 b7.1.lt) ?_
  rintro r8 μ3' ⟨kx, j1, j2, j3⟩
  have j2 : μ3 = μ3' := j2.symm
  subst j2
  have gx : Gd μ3 V kx := j3.gd b7
  have nx : iv μ3 30 kx ≠ 2 := j3.2.2.1
  have e56 : nv μ3 56 = nv μ 56 := Eq.trans b4 a4
  have e89 : nv μ3 89 = nv μ 89 := Eq.trans b5 a5
  have e73 : μ3.1 0 73 = μ.1 0 73 := Eq.trans b6 a6
  have F3 : Fr (fd t) true μ μ3 := Fr.trans a2 b2
  have G3 : Gr μ μ3 := Gr.tr a3 b3
  have k1 : r4.toInt = (ky : Int) := k1
  have j1 : r8.toInt = (kx : Int) := j1
  have lx := gx.1.lt
  have ly := gy.1.lt
  have ehp := hp_nv b8.1.1
  have g56 := rgm_0_56 b8.1.1
  have b72 : t = true → ok (p_X12_doSign_b72 a r4 r8 μ3) (Po t b Vb ve μ L cs R Zs V) := by
    intro ht
    subst ht
    rw [p_X12_doSign_b72_eq]
    have hrm := (b8.2.2.2.1 rfl).2.room b8.1.1
    refine ok_mono (em_instr b8 (k := 0) (h := 1) (fun r μ12 c1 c2 c3 c4 c5 => ?_)) (fun q hq => hq.pre F3 G3 e56 e89 e73)
    have hb : ((1 : Int32) != 0) = true := by decide
    rw [hb] at c5
    have ei : r.toNatClampNeg = nv μ3 87 := tn_of c1
    rw [ei]
    obtain ⟨d1, d2, d3, d4⟩ := t_itemA c2 c5 a
    refine ok_gd (inb_iff.mpr (by omega)) (ok_bv (fun μ15 em15 => ?_))
    rw [← em15] at d1 d2 d3 d4
    have v15 := c4.fr d1 d2 (by decide +kernel)
    have e3 : nv μ12 56 = nv μ3 56 := (c3.heq (by decide +kernel)).1
    have e15 : nv μ15 56 = nv μ12 56 := (d2.heq (by decide +kernel)).1
    refine ok_bw (em_op v15 d3 (by omega) hrm.2.1 (by simp) c1 j1 (by omega)) ?_
    rintro μ16 ⟨f1, f2, f3, f4⟩
    have e16 : nv μ16 56 = nv μ15 56 := (f2.heq (by decide +kernel)).1
    refine ok_bw (em_op f3 f4 (by omega) hrm.2.1 (by simp) c1 k1 (by omega)) ?_
    rintro μ18 ⟨h1, h2, h3, h4⟩
    have e18 : nv μ18 56 = nv μ16 56 := (h2.heq (by decide +kernel)).1
    have FT : Fr fdT true μ3 μ18 := (((frIn_T c3).trans (fr48_T d2)).trans (frOp_T f2)).trans (frOp_T h2)
    have GT : Gr μ3 μ18 := (((c3.gr (by decide +kernel)).tr (d2.gr (by decide +kernel))).tr (f2.gr (by decide +kernel))).tr (h2.gr (by decide +kernel))
    have hs : ∀ z, z < nv μ3 56 → iv μ18 30 z = iv μ3 30 z := fun z hz => (GT.2 z hz).1
    refine em_tail b8 ⟨by omega, by omega, by rw [e73]; exact R3, by rw [e73]; exact R4⟩ h1 FT h3 GT (by omega) ?_ ?_ h4 ?_ (by decide) (by simp [oc]) c1 (by omega)
    · rw [h2.v (by decide +kernel), f2.v (by decide +kernel), d2.v (by decide +kernel), c3.v (by decide +kernel)]
    · rw [h2.v (by decide +kernel), f2.v (by decide +kernel), d2.v (by decide +kernel), c3.v (by decide +kernel)]
    · have hop := ops_opd h4 (V := V) h3.2.1 (fun z hz => by
        rcases List.mem_cons.mp hz with e | hz
        · rw [e]; exact ⟨(gx.gr GT).1, by rw [hs kx lx]; exact nx⟩
        · rcases List.mem_cons.mp hz with e | hz
          · rw [e]; exact ⟨(gy.gr GT).1, by rw [hs ky ly]; exact ny⟩
          · exact absurd hz (by simp))
      have o0 := hop 0 (by simp)
      have o1 := hop 1 (by simp)
      obtain ⟨i1, i2, i3, i4, i5, i6, i7, i8, i9, i10, i11, i12, i13, i14, i15, i16⟩ := h4
      have e0 : (0 : Int32).toInt = 0 := by decide
      rw [e0] at i6
      refine ⟨fun _ => ?_, by rw [i8]; simp, by rw [i8]; simp, nv μ3 88, i7, Or.inr (Or.inr (Or.inr (Or.inr (Or.inr (Or.inl ⟨Or.inl i6, o0, o1, by rw [i8]; simp⟩)))))⟩
      rw [(i4 rfl).1]; omega
  refine ok_bd (t_isKnown b8.1.1 j1 lx) ?_
  rintro r10 μ9 ⟨u1, u2⟩
  have u1 : μ3 = μ9 := Eq.symm u1
  subst u1
  have u2 : (r10 = 0 ∧ iv μ3 30 kx = 3) ∨ (r10 = 1 ∧ iv μ3 30 kx ≠ 3) := u2
  refine ok_ite (fun h0 => ?_) (fun h0 => ok_bd (t_isKnown b8.1.1 k1 ly) ?_)
  · rcases u2 with ⟨_, u2⟩ | ⟨u2, _⟩
    · exact b72 (b8.known gx u2)
    · rw [u2] at h0; exact absurd h0 (by decide)
  rintro r25 μ24 ⟨w1, w2⟩
  have w1 : μ3 = μ24 := Eq.symm w1
  subst w1
  have w2 : (r25 = 0 ∧ iv μ3 30 ky = 3) ∨ (r25 = 1 ∧ iv μ3 30 ky ≠ 3) := w2
  refine ok_ite (fun h0 => ?_) (fun h0 => ?_)
  · rcases w2 with ⟨_, w2⟩ | ⟨w2, _⟩
    · exact b72 (b8.known gy w2)
    · rw [w2] at h0; exact absurd h0 (by decide)
  have bx : inb r8 100000 = true := inb_iff.mpr (by omega)
  have by' : inb r4 100000 = true := inb_iff.mpr (by omega)
  refine ok_gd bx (ok_gd bx (ok_gd by' (ok_gd by' (ok_bw (ok_pk (k_X12_join _ _ _ _ _ μ3 b8.1.1) (q_join _ _ _ _ _ μ3)) ?_))))
  rintro μ27 ⟨⟨f1, f2⟩, f3⟩
  have hM27 := b8.fr f1 f2 (by decide +kernel) (by decide +kernel) (by decide +kernel)
  have e27 : nv μ27 56 = nv μ3 56 := (f2.heq (by decide +kernel)).1
  have e2789 : nv μ27 89 = nv μ3 89 := f2.n (by decide +kernel)
  exact po_given (fun u h => h) hM27 (F3.trans (fd_mono f2 (by decide +kernel) t)) (G3.tr (f2.gr (by decide +kernel))) (by omega) (by omega) (by rw [f2.v (by decide +kernel), e73]; omega) (by omega) (by omega) f3
