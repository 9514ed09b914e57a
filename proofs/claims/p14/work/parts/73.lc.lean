/-! A CALL THAT IS LEFT -/
theorem lc_emit {b : Nat} {Vb : Nat → Prop} {ve : Nat} {μ : Mem} {L : List Act} {cs : List Nat} {R : List Fm} {Zs : List Zc} {V : Nat → Prop} (hM : Mx true b Vb ve μ L cs R Zs V) (hR : Rm μ cs) {ys : List Nat} (hl : Lst (iv μ 69) 0 ys) (hy8 : ys.length ≤ 8) (hy : ∀ y, y ∈ ys → Gd μ V y ∧ iv μ 30 y ≠ 2) {v : Nat} (hv : v < nv μ 110) (h59 : iv μ 59 v = (ys.length : Int)) {a3 a4 : Int32} (h3 : a3.toInt = (v : Int)) (h4 : a4.toInt = (ys.length : Int)) : ok (p_X12_leaveCall_b186 a3 a4 μ) (Po true b Vb ve μ L cs R Zs V) := by
  rw [p_X12_leaveCall_b186_eq, if_pos hM.2.2.1]
  have hrm := (hM.2.2.2.1 rfl).2.room hM.1.1
  have e1 : (1 : Int32).toInt = 1 := by decide
  have e11 : (11 : Int32).toInt = 11 := by decide
  refine em_instr hM (k := 11) (h := 1) (fun r μ12 c1 c2 c3 c4 c5 => ?_)
  have hb : ((1 : Int32) != 0) = true := by decide
  rw [hb, e11] at c5
  rw [tn_of c1]
  obtain ⟨d1, d2, d3, d4⟩ := t_itemA c2 c5 a3
  refine ok_gd (inb_iff.mpr (by omega)) (ok_bv (fun μ15 em15 => ?_))
  rw [← em15] at d1 d2 d3 d4
  have v15 := c4.fr d1 d2 (by decide +kernel)
  have F15 : Fr (frIn ++ frOp) true μ μ15 := (Fr.mono c3 (by decide +kernel) (fun h => h)).trans (Fr.mono d2 (by decide +kernel) (fun h => h))
  have loop : ∀ (m : Nat) (a6 : Int32) (xs zs : List Nat) (μ2 : Mem), ys = xs ++ zs → a6.toInt = (xs.length : Int) → zs.length < m → IM μ2 → Fr (frIn ++ frOp) true μ μ2 → Vw μ2 L cs R → In μ μ2 11 true xs → iv μ2 48 (nv μ 87) = (v : Int) → ok (p_X12_leaveCall_b222 m a4 r a6 μ2) (Po true b Vb ve μ L cs R Zs V) := by
    intro m
    induction m with
    | zero => intro a6 xs zs μ2 _ _ h; omega
    | succ m ih =>
      intro a6 xs zs μ2 hsp h6 hm hI2 F2 v2 hin hA
      have hlen : ys.length = xs.length + zs.length := by rw [hsp]; simp
      rw [p_X12_leaveCall_b222_s]
      have G2 := F2.gr (by decide +kernel)
      have e56 : nv μ2 56 = nv μ 56 := (F2.heq (by decide +kernel)).1
      refine ok_ite (fun hle => ?_) (fun hle => ?_)
      · rw [ti_le] at hle
        have : zs = [] := List.length_eq_zero_iff.mp (by omega)
        subst this
        simp only [List.append_nil] at hsp
        subst hsp
        refine em_tail hM hR hI2 (Fr.mono F2 (by decide +kernel) (fun h => h)) v2 G2 e56 (F2.v (by decide +kernel)) (F2.v (by decide +kernel)) hin ?_ (by decide) (by simpa [oc] using hy8) c1 (by omega)
        have hop := ops_opd hin (V := V) v2.2.1 (fun z hz => by
          obtain ⟨g1, g2⟩ := hy z hz
          exact ⟨(g1.gr G2).1, by rw [(G2.2 z g1.1.lt).1]; exact g2⟩)
        have h110 : nv μ2 110 = nv μ 110 := F2.n (by decide +kernel)
        have h592 : iv μ2 59 v = iv μ 59 v := F2.a (by decide) v
        obtain ⟨i1, i2, i3, i4, i5, i6, i7, i8, i9, i10, i11, i12, i13, i14, i15, i16⟩ := hin
        refine ⟨fun _ => by rw [(i4 rfl).1]; omega, by rw [i8]; omega, by rw [i8]; omega, nv μ 88, i7, Or.inr (Or.inr (Or.inr (Or.inr (Or.inr (Or.inr ⟨i6, v, hA, by omega, by rw [i8, h592, h59], fun k hk => hop k ?_⟩)))))⟩
        rw [i8] at hk; omega
      · rw [ti_le] at hle
        cases zs with
        | nil => simp at hlen; omega
        | cons z zs =>
          simp only [List.length_cons] at hlen hm
          rw [tn_of h6]
          have hz : iv μ 69 xs.length = (z : Int) := by
            have gen : ∀ {l : List Nat} {i : Nat}, Lst (iv μ 69) i l → ∀ (j x : Nat), l[j]? = some x → iv μ 69 (i + j) = (x : Int) := by
              intro l
              induction l with
              | nil => intro i _ j x h; simp at h
              | cons y l ihl =>
                intro i h j x hj
                cases j with
                | zero =>
                  have : y = x := by simpa using hj
                  rw [← this]; exact h.1
                | succ j =>
                  have := ihl h.2 j x (by simpa using hj)
                  have e : i + (j + 1) = i + 1 + j := by omega
                  rw [e]; exact this
            have := gen hl xs.length z (by rw [hsp]; simp)
            rw [Nat.zero_add] at this; exact this
          have z69 : (μ2.1 69 xs.length).toInt = (z : Int) := by
            have := F2.a (c := 69) (by decide) xs.length
            show iv μ2 69 _ = _
            rw [this, hz]
          obtain ⟨gz, nz⟩ := hy z (by rw [hsp]; simp)
          have lz := gz.1.lt
          refine ok_gd (inb_iff.mpr (by omega)) (ok_bw (em_op v2 hin (by omega) hrm.2.1 (by omega) c1 z69 (by omega)) ?_)
          rintro μ20 ⟨f1, f2, f3, f4⟩
          refine ok_bv (fun v22 ev22 => ih v22 (xs ++ [z]) zs μ20 (by rw [hsp]; simp) (by rw [ev22, ti_add (by omega) (by omega), e1, h6]; simp) (by omega) f1 (F2.trans (Fr.mono f2 (by decide +kernel) (fun h => h))) f3 f4 ?_)
          rw [f2.a (by decide)]; exact hA
  exact loop FUEL 0 [] ys μ15 (by simp) (by decide) (by show _ < 10000000000; omega) d1 F15 v15 d3 (by rw [d4]; exact h3)
def frLC : List (Nat × Nat × Nat) := fdT ++ [(0, 0, 96), (0, 0, 97), (0, 0, 110), (0, 0, 118), (1, 57, 0), (1, 58, 0), (1, 59, 0), (1, 60, 0), (1, 61, 0), (1, 66, 0), (1, 67, 0), (1, 68, 0), (1, 69, 0), (1, 70, 0), (1, 71, 0), (1, 72, 0)]
/-- what a call that is left leaves -/
def Pq (b : Nat) (Vb : Nat → Prop) (ve : Nat) (μ : Mem) (L : List Act) (cs : List Nat) (R : List Fm) (Zs : List Zc) (V : Nat → Prop) (q : Mem) : Prop :=
  IM q ∧ Fr frLC true μ q ∧ (q.1 0 68 ≠ 0 ∨ ∃ z V2, (∀ u, V u → V2 u) ∧ Mx true b Vb ve q L (z :: cs) R Zs V2 ∧ Gr μ q ∧ nv q 56 + nv μ 89 ≤ nv μ 56 + 1 + nv q 89 ∧ nv μ 89 ≤ nv q 89 ∧ VP q ∧ nv μ 110 ≤ nv q 110)
theorem Pq.pre {b : Nat} {Vb : Nat → Prop} {ve : Nat} {μ μ1 : Mem} {L : List Act} {cs : List Nat} {R : List Fm} {Zs : List Zc} {V V1 : Nat → Prop} {q : Mem} (h : Pq b Vb ve μ1 L cs R Zs V1 q) (hVV : ∀ u, V u → V1 u) (f : Fr frLC true μ μ1) (g : Gr μ μ1) (h1 : nv μ1 56 + nv μ 89 ≤ nv μ 56 + nv μ1 89) (h2 : nv μ 89 ≤ nv μ1 89) (h3 : nv μ 110 ≤ nv μ1 110) : Pq b Vb ve μ L cs R Zs V q := by
  obtain ⟨q1, q2, q3⟩ := h
  refine ⟨q1, f.trans q2, ?_⟩
  rcases q3 with q3 | ⟨z, V2, a1, a2, a3, a4, a5, a6, a7⟩
  · exact Or.inl q3
  · exact Or.inr ⟨z, V2, fun u hu => a1 u (hVV u hu), a2, g.tr a3, by omega, by omega, a6, by omega⟩
theorem Po.pq {b : Nat} {Vb : Nat → Prop} {ve : Nat} {μ : Mem} {L : List Act} {cs : List Nat} {R : List Fm} {Zs : List Zc} {V : Nat → Prop} {q : Mem} (h : Po true b Vb ve μ L cs R Zs V q) (hVP : VP μ) : Pq b Vb ve μ L cs R Zs V q := by
  obtain ⟨q1, q2, q3⟩ := h
  have q2 : Fr fdT true μ q := q2
  refine ⟨q1, Fr.mono q2 (by decide +kernel) (fun h => h), ?_⟩
  rcases q3 with q3 | ⟨z, V2, a1, a2, a3, a4, a5, _⟩
  · exact Or.inl q3.1
  · exact Or.inr ⟨z, V2, a1, a2, a3, a4, a5, hVP.fr q2 (by decide +kernel), by rw [q2.n (by decide +kernel)]; exact Nat.le_refl _⟩
/-- what stands at each star is lifted -/
theorem lc_lift {b : Nat} {Vb : Nat → Prop} {ve : Nat} {L : List Act} {cs : List Nat} {R : List Fm} {Zs : List Zc} {v : Nat} {a3 : Int32} (h3 : a3.toInt = (v : Int)) (hcs : cs.length < 5990) : ∀ (m : Nat) (a4 a5 : Int32) (p : Nat) (ys : List Nat) (μ : Mem) (V : Nat → Prop), Mx true b Vb ve μ L cs R Zs V → nv μ 56 + 302 ≤ 100000 + nv μ 89 → 0 ≤ (μ.1 0 73).toInt → (μ.1 0 73).toInt < 1000000 → VP μ → v < nv μ 110 → 0 ≤ (μ.1 0 118).toInt → nv μ 118 ≤ 200 → iv μ 59 v = (c3 (iv μ 67) (nv μ 118) : Int) → c3 (iv μ 67) (nv μ 118) ≤ 8 → a4.toInt = (ys.length : Int) → a5.toInt = (p : Int) → p ≤ nv μ 118 → nv μ 118 < m + p → ys.length = c3 (iv μ 67) p → Lst (iv μ 69) 0 ys → (∀ y, y ∈ ys → Gd μ V y ∧ iv μ 30 y ≠ 2) → (∀ q, p ≤ q → q < nv μ 118 → ∃ x : Nat, iv μ 69 q = (x : Int) ∧ Gd μ V x) → ok (p_X12_leaveCall_b129 m a3 a4 a5 μ) (Pq b Vb ve μ L cs R Zs V) := by
  intro m
  have e1 : (1 : Int32).toInt = 1 := by decide
  have e3 : (3 : Int32).toInt = 3 := by decide
  induction m with
  | zero => intro a4 a5 p ys μ V _ _ _ _ _ _ _ _ _ _ _ _ h1 h2; omega
  | succ m ih =>
    intro a4 a5 p ys μ V hM hh w1 w2 hVP hv h118 h200 h59 hc8 h4 h5 hp hm hys hl hgy hrest
    rw [p_X12_leaveCall_b129_s]
    have m118 := ti_nat (a := μ.1 0 118) h118
    have em118 : nv μ 118 = (μ.1 0 118).toNatClampNeg := rfl
    have hcl := c3_le (iv μ 67) p
    refine ok_ite (fun hle => ?_) (fun hle => ?_)
    · rw [ti_le] at hle
      have hpe : p = nv μ 118 := by omega
      subst hpe
      refine ok_mono (lc_emit hM ⟨hh, hcs, w1, w2⟩ hl (by omega) hgy hv (by rw [h59, hys]) h3 h4) (fun q hq => hq.pq hVP)
    · rw [ti_le] at hle
      rw [if_pos hM.2.2.1, tn_of h5]
      have b5 : inb a5 210 = true := inb_iff.mpr (by omega)
      have hc : c3 (iv μ 67) (p + 1) = c3 (iv μ 67) p + (if iv μ 67 p = 3 then 1 else 0) := rfl
      have t51 : (a5 + 1).toInt = ((p + 1 : Nat) : Int) := by rw [ti_add (by omega) (by omega), e1, h5]; omega
      refine ok_gd b5 (ok_ite (fun hs3 => ok_gd b5 ?_) (fun hs3 => ?_))
      · have hs3' : iv μ 67 p = 3 := by unfold iv; rw [hs3]; exact e3
        rw [if_pos hs3'] at hc
        obtain ⟨x, x1, x2⟩ := hrest p (Nat.le_refl _) (by omega)
        refine ok_bd (k_lift hM (by omega) (x := x) x1 x2) ?_
        rintro r26 μ25 ⟨⟨l1, l2, l3⟩, l4, l5⟩
        have l1 : IM μ25 := l1
        have l2 : Fr fdT true μ μ25 := l2
        have l4 : 0 ≤ r26.toInt := l4
        have l5 : r26.toInt < 100000 := l5
        rw [tn_of h4]
        refine ok_gd (inb_iff.mpr (by omega)) (ok_bv (fun μ27 em27 => ok_bv (fun v28 ev28 => ?_)))
        rw [p_X12_leaveCall_b180_eq]
        refine ok_bv (fun v29 ev29 => ?_)
        have hI27 : IM μ27 := by rw [em27]; exact IM_F l1 (rpm_69 (by omega))
        have f27 : Fr [(1, 69, 0)] true μ25 μ27 := by rw [em27]; exact Fr.puta Fr.rf (by decide +kernel)
        have F27 : Fr frLC true μ μ27 := (Fr.mono l2 (by decide +kernel) (fun h => h)).trans (Fr.mono f27 (by decide +kernel) (fun h => h))
        by_cases ho : μ25.1 0 68 = 0
        · obtain ⟨y, V1, j1, j2, j3, j4, j5, j6, j7, j8, j9⟩ := l3.resolve_left (fun h => h.1 ho)
          have j1 : r26.toInt = (y : Int) := j1
          have j2 : Mx true b Vb ve μ25 L cs R Zs V1 := j2
          have j4 : Gr μ μ25 := j4
          have j5 : Gd μ25 V1 y := j5
          have j6 : iv μ25 30 y ≠ 2 := j6
          have j7 : nv μ25 56 + nv μ 89 ≤ nv μ 56 + nv μ25 89 := j7
          have j8 : nv μ 89 ≤ nv μ25 89 := j8
          have j9 : μ25.1 0 73 = μ.1 0 73 := j9
          have hM27 := j2.fr hI27 f27 (by decide +kernel) (by decide +kernel) (by decide +kernel)
          have G27 := f27.gr (by decide +kernel)
          have e56 : nv μ27 56 = nv μ25 56 := (f27.heq (by decide +kernel)).1
          have e89 : nv μ27 89 = nv μ25 89 := f27.n (by decide +kernel)
          have F2 : Fr (fdT ++ [(1, 69, 0)]) true μ μ27 := (Fr.mono l2 (by decide +kernel) (fun h => h)).trans (Fr.mono f27 (by decide +kernel) (fun h => h))
          have k67 : iv μ27 67 = iv μ 67 := F2.fe (by decide)
          have k59 : iv μ27 59 = iv μ 59 := F2.fe (by decide)
          have k118 : nv μ27 118 = nv μ 118 := F2.n (by decide +kernel)
          have k110 : nv μ27 110 = nv μ 110 := F2.n (by decide +kernel)
          have o69 : ∀ i, i ≠ ys.length → iv μ27 69 i = iv μ 69 i := fun i hi => by
            rw [← l2.a (c := 69) (by decide) i]; unfold iv; rw [em27, sF_k hi]
          have v69 : iv μ27 69 ys.length = (y : Int) := by unfold iv; rw [em27, sF_v]; exact j1
          refine ok_mono (ih v28 v29 (p + 1) (ys ++ [y]) μ27 V1 hM27 (by omega) (by rw [f27.v (by decide +kernel), j9]; exact w1) (by rw [f27.v (by decide +kernel), j9]; exact w2) (hVP.fr F2 (by decide +kernel)) (by omega) (by rw [F2.v (by decide +kernel)]; exact h118) (by omega) (by rw [k59, k67, k118]; exact h59) (by rw [k67, k118]; exact hc8) (by rw [ev28, ti_add (by omega) (by omega), e1, h4]; simp) (by rw [ev29]; exact t51) (by omega) (by omega) (by rw [k67]; simp; omega) ?_ ?_ ?_) (fun q hq => hq.pre j3 F27 (j4.tr G27) (by omega) (by omega) (by omega))
          · refine Lst.snoc (hl.cong (fun j _ hj => o69 j (by omega))) ?_
            rw [Nat.zero_add]; exact v69
          · intro z hz
            rcases List.mem_append.mp hz with hz | hz
            · obtain ⟨g1, g2⟩ := hgy z hz
              exact ⟨((g1.gr j4).mono j3).gr G27, by rw [(G27.2 z (g1.gr j4).1.lt).1, (j4.2 z g1.1.lt).1]; exact g2⟩
            · have : z = y := by simpa using hz
              rw [this]; exact ⟨j5.gr G27, by rw [(G27.2 y j5.1.lt).1]; exact j6⟩
          · intro q hq1 hq2
            rw [k118] at hq2
            obtain ⟨x', a1, a2⟩ := hrest q (by omega) hq2
            exact ⟨x', by rw [o69 q (by omega)]; exact a1, ((a2.gr j4).mono j3).gr G27⟩
        · -- it is over
          have ho27 : μ27.1 0 68 ≠ 0 := by rw [f27.v (by decide +kernel)]; exact ho
          obtain ⟨m', rfl⟩ : ∃ m', m = m' + 1 := ⟨m - 1, by omega⟩
          have fin : ∀ a4' : Int32, ok (p_X12_leaveCall_b186 a3 a4' μ27) (Pq b Vb ve μ L cs R Zs V) := by
            intro a4'
            rw [p_X12_leaveCall_b186_eq, if_neg ho27]
            exact ok_some ⟨hI27, F27, Or.inl ho27⟩
          rw [p_X12_leaveCall_b129_s]
          exact ok_ite (fun _ => fin _) (fun _ => by rw [if_neg ho27]; exact fin _)
      · have hs3' : iv μ 67 p ≠ 3 := fun h => hs3 (ti_eq.mpr (by rw [e3]; exact h))
        rw [if_neg hs3'] at hc
        rw [p_X12_leaveCall_b180_eq]
        exact ok_bv (fun v29 ev29 => ih a4 v29 (p + 1) ys μ V hM hh w1 w2 hVP hv h118 h200 h59 hc8 h4 (by rw [ev29]; exact t51) (by omega) (by omega) (by omega) hl hgy (fun q h1 h2 => hrest q (by omega) h2))
