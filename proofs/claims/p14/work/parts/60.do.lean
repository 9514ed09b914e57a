theorem rm_89 {μ : Mem} (hI : IM μ) : nv μ 89 ≤ 300 := by
  have g89 := rgm_0_89 hI
  have n89 := ti_nat (a := μ.1 0 89) (by omega)
  have en89 : nv μ 89 = (μ.1 0 89).toNatClampNeg := rfl
  omega
/-- one instruction with one operand, its register comes -/
theorem em_one {b : Nat} {Vb : Nat → Prop} {ve : Nat} {μ : Mem} {L : List Act} {cs : List Nat} {R : List Fm} {Zs : List Zc} {V : Nat → Prop} (hM : Mx true b Vb ve μ L cs R Zs V) (hR : Rm μ cs) {kk : Int32} (hk : 1 ≤ kk.toInt ∧ kk.toInt ≤ 5) {a : Int32} {x : Nat} (h1 : a.toInt = (x : Int)) (hx : Gd μ V x) (h2 : iv μ 30 x ≠ 2) : ok (bd (p_X12_instruction kk 1 μ) (fun r23 μ22 => (if (μ22.1 0 68) = 0 then bw (p_X12_operand r23 a μ22) (fun μ25 => bd (p_X12_registerOf r23 μ25) (fun r28 μ27 => bw (p_X12_come r28 μ27) (fun μ29 => some μ29))) else some μ22))) (Po true b Vb ve μ L cs R Zs V) := by
  have hrm := (hM.2.2.2.1 rfl).2.room hM.1.1
  refine em_instr hM (fun r μ12 c1 c2 c3 c4 c5 => ?_)
  have hb : ((1 : Int32) != 0) = true := by decide
  rw [hb] at c5
  have e3 : nv μ12 56 = nv μ 56 := (c3.heq (by decide +kernel)).1
  have lx := hx.1.lt
  refine ok_bw (em_op c4 c5 (by omega) hrm.2.1 (by simp) c1 h1 (by omega)) ?_
  rintro μ16 ⟨f1, f2, f3, f4⟩
  have e16 : nv μ16 56 = nv μ12 56 := (f2.heq (by decide +kernel)).1
  have FT : Fr fdT true μ μ16 := (frIn_T c3).trans (frOp_T f2)
  have GT : Gr μ μ16 := (c3.gr (by decide +kernel)).tr (f2.gr (by decide +kernel))
  refine em_tail hM hR f1 FT f3 GT (by omega) ?_ ?_ f4 ?_ (by omega) ?_ c1 (by omega)
  · rw [f2.v (by decide +kernel), c3.v (by decide +kernel)]
  · rw [f2.v (by decide +kernel), c3.v (by decide +kernel)]
  · have hop := ops_opd f4 (V := V) f3.2.1 (fun z hz => by
      rcases List.mem_cons.mp hz with e | hz
      · rw [e]; exact ⟨(hx.gr GT).1, by rw [(GT.2 x lx).1]; exact h2⟩
      · exact absurd hz (by simp))
    have o0 := hop 0 (by simp)
    obtain ⟨i1, i2, i3, i4, i5, i6, i7, i8, i9, i10, i11, i12, i13, i14, i15, i16⟩ := f4
    refine ⟨fun _ => ?_, by rw [i8]; simp, by rw [i8]; simp, nv μ 88, i7, Or.inr (Or.inr (Or.inr (Or.inr (Or.inl ⟨by omega, by omega, o0⟩))))⟩
    rw [(i4 rfl).1]; omega
  · unfold oc
    rw [if_neg (by omega), if_neg (by omega), if_neg (by omega), if_neg (by omega)]; simp
theorem k_doOne {t : Bool} {b : Nat} {Vb : Nat → Prop} {ve : Nat} {μ : Mem} {L : List Act} {cs : List Nat} {R : List Fm} {Zs : List Zc} {V : Nat → Prop} {x : Nat} {a : Int32} (ha : 0 ≤ a.toInt ∧ a.toInt < 5) (hM : Mx t b Vb ve μ L (x :: cs) R Zs V) (hR : Rm μ (x :: cs)) : ok (p_X12_doOne a μ) (Po t b Vb ve μ L cs R Zs V) := by
  rw [p_X12_doOne_eq]
  obtain ⟨R1, R2, R3, R4⟩ := hR
  have g89 := rm_89 hM.1.1
  simp only [List.length_cons] at R2
  have e1 : (1 : Int32).toInt = 1 := by decide
  have e2 : (2 : Int32).toInt = 2 := by decide
  have e3 : (3 : Int32).toInt = 3 := by decide
  have e4 : (4 : Int32).toInt = 4 := by decide
  refine ok_bd hM.gone ?_
  rintro r2 μ1 ⟨a1, a2, a3, a4, a5, a6, a7, a8⟩
  have a1 : r2.toInt = (x : Int) := a1
  have a2 : Fr (fd t) true μ μ1 := a2
  have a3 : Gr μ μ1 := a3
  have a4 : nv μ1 56 = nv μ 56 := a4
  have a5 : nv μ1 89 = nv μ 89 := a5
  have a6 : μ1.1 0 73 = μ.1 0 73 := a6
  have a8 : Mx t b Vb ve μ1 L cs R Zs V := a8
  have a7 : Gd μ1 V x := a7
  have lx := a7.1.lt
  have ehp := hp_nv a8.1.1
  have g56 := rgm_0_56 a8.1.1
  have hR1 : Rm μ1 cs := ⟨by omega, by omega, by rw [a6]; exact R3, by rw [a6]; exact R4⟩
  -- what is no pair
  have b56 : ∀ (c : Int32) (y : Nat), c.toInt = (y : Int) → Gd μ1 V y → iv μ1 30 y ≠ 2 → ok (p_X12_doOne_b56 a c μ1) (Po t b Vb ve μ L cs R Zs V) := by
    intro c y hc hy h2
    have ly := hy.1.lt
    rw [p_X12_doOne_b56_eq]
    refine ok_bd (t_isKnown a8.1.1 hc ly) ?_
    rintro r6 μ5 ⟨u1, u2⟩
    have u1 : μ1 = μ5 := Eq.symm u1
    subst u1
    have u2 : (r6 = 0 ∧ iv μ1 30 y = 3) ∨ (r6 = 1 ∧ iv μ1 30 y ≠ 3) := u2
    refine ok_ite (fun h0 => ?_) (fun h0 => ok_ite (fun h3 => ?_) (fun h3 => ok_ite (fun h4 => ?_) (fun h4 => ?_)))
    · have h3 : iv μ1 30 y = 3 := by
        rcases u2 with ⟨_, u2⟩ | ⟨u2, _⟩
        · exact u2
        · rw [u2] at h0; exact absurd h0 (by decide)
      have ht := a8.known hy h3
      subst ht
      refine ok_mono (em_one a8 hR1 (kk := 1 + a) (by rw [ti_add (by omega) (by omega), e1]; omega) hc hy h2) (fun q hq => hq.pre a2 a3 a4 a5 a6)
    · exact po_come (fun u h => h) a8 a2 a3 (by omega) (by rw [a6]; omega) (by omega) hc hy
    · exact po_node (fun u h => h) a8 a2 a3 a4 (by omega) (by rw [a6]; omega) (by omega) (by omega) (Or.inl (by decide))
    · have bc : inb c 100000 = true := inb_iff.mpr (by omega)
      refine ok_gd bc (ok_gd bc (ok_bw (ok_pk (k_X12_turn _ _ _ μ1 a8.1.1) (q_turn _ _ _ μ1)) ?_))
      rintro μ27 ⟨⟨f1, f2⟩, f3⟩
      have hM27 := a8.fr f1 f2 (by decide +kernel) (by decide +kernel) (by decide +kernel)
      have e27 : nv μ27 56 = nv μ1 56 := (f2.heq (by decide +kernel)).1
      have e2789 : nv μ27 89 = nv μ1 89 := f2.n (by decide +kernel)
      exact po_given (fun u h => h) hM27 (a2.trans (fd_mono f2 (by decide +kernel) t)) (a3.tr (f2.gr (by decide +kernel))) (by omega) (by omega) (by rw [f2.v (by decide +kernel), a6]; omega) (by omega) (by omega) f3
  have b45 : (3 ≤ a.toInt → iv μ1 30 x ≠ 2) → ok (p_X12_doOne_b45 a r2 μ1) (Po t b Vb ve μ L cs R Zs V) := by
    intro h
    rw [p_X12_doOne_b45_eq]
    refine ok_ite (fun hle => b56 r2 x a1 a7 (h ?_)) (fun _ => ok_bd (t_num a8.1.1 a8.1.2.1 a1 lx) ?_)
    · rw [ti_le] at hle; omega
    · rintro r32 μ31 ⟨k, k1, k2, k3⟩
      have k2 : μ1 = μ31 := k2.symm
      subst k2
      exact b56 r32 k k1 (k3.gd a7) k3.2.2.1
  have bx : inb r2 100000 = true := inb_iff.mpr (by omega)
  have ex : r2.toNatClampNeg = x := tn_of a1
  refine ok_ite (fun hle => b45 (fun h => ?_)) (fun hle => ok_gd bx (ok_ite (fun h2 => ?_) (fun h2 => b45 (fun _ h => h2 (ti_eq.mpr ?_)))))
  · rw [ti_le] at hle; omega
  · rw [ex] at h2 ⊢
    have h2' : iv μ1 30 x = 2 := by unfold iv; rw [h2]; exact e2
    obtain ⟨v1, v2⟩ := a7.1.kids h2'
    obtain ⟨_, ⟨hz, _⟩ | ⟨_, p, q, hp1, hq1, hpx, hqx, hw⟩⟩ := a8.1.2.1 x lx
    · omega
    have wp := (a8.1.2.1 p (by omega)).1
    have wq := (a8.1.2.1 q (by omega)).1
    have hx2 := a7.2
    rw [hp1] at v1
    rw [hq1] at v2
    refine ok_ite (fun _ => ok_gd bx ?_) (fun _ => ok_gd bx ?_)
    · exact po_come (fun u h => h) a8 a2 a3 (by omega) (by rw [a6]; omega) (by omega) (x := p) hp1 ⟨v1, by omega⟩
    · exact po_come (fun u h => h) a8 a2 a3 (by omega) (by rw [a6]; omega) (by omega) (x := q) hq1 ⟨v2, by omega⟩
  · rw [ex, e2]; exact h
theorem q_show (a : Int32) (μ : Mem) : pk (p_X12_show a μ) (fun q => q.1 0 73 = μ.1 0 73 + 1) := by
  rw [p_X12_show_eq]
  exact pk_ite (fun _ => pk_bv (pk_some (by rw [sF_v]))) (fun _ => pk_gd fun _ => pk_gd fun _ => pk_bv (pk_gd fun _ => pk_gd fun _ => pk_bv (pk_bv (pk_some (by rw [sF_v]; rfl)))))
theorem k_doOut {t : Bool} {b : Nat} {Vb : Nat → Prop} {ve : Nat} {μ : Mem} {L : List Act} {cs : List Nat} {R : List Fm} {Zs : List Zc} {V : Nat → Prop} {x : Nat} (hM : Mx t b Vb ve μ L (x :: cs) R Zs V) (hR : Rm μ (x :: cs)) : ok (p_X12_doOut μ) (Po t b Vb ve μ L cs R Zs V) := by
  rw [p_X12_doOut_eq]
  obtain ⟨R1, R2, R3, R4⟩ := hR
  have g89 := rm_89 hM.1.1
  simp only [List.length_cons] at R2
  have e1 : (1 : Int32).toInt = 1 := by decide
  refine ok_bd hM.gone ?_
  rintro r2 μ1 ⟨a1, a2, a3, a4, a5, a6, a7, a8⟩
  have a1 : r2.toInt = (x : Int) := a1
  have a2 : Fr (fd t) true μ μ1 := a2
  have a3 : Gr μ μ1 := a3
  have a4 : nv μ1 56 = nv μ 56 := a4
  have a5 : nv μ1 89 = nv μ 89 := a5
  have a6 : μ1.1 0 73 = μ.1 0 73 := a6
  have a8 : Mx t b Vb ve μ1 L cs R Zs V := a8
  have a7 : Gd μ1 V x := a7
  have lx := a7.1.lt
  have ehp := hp_nv a8.1.1
  have g56 := rgm_0_56 a8.1.1
  refine ok_bd (t_num a8.1.1 a8.1.2.1 a1 lx) ?_
  rintro r4 μ3 ⟨k, k1, k2, k3⟩
  have k2 : μ1 = μ3 := k2.symm
  subst k2
  have k1 : r4.toInt = (k : Int) := k1
  have gk := k3.gd a7
  have lk := gk.1.lt
  refine ok_ite (fun h69 => ?_) (fun h69 => ?_)
  · have ht : t = false := by
      cases t
      · rfl
      · exact absurd h69 (a8.2.2.2.1 rfl).1
    subst ht
    refine ok_bw (ok_pk (k_X12_show r4 μ1 a8.1.1 ⟨by omega, by omega, by rw [a6]; exact R3⟩) (q_show r4 μ1)) ?_
    rintro μ6 ⟨⟨f1, f2⟩, f3⟩
    have hM6 := a8.fr f1 f2 (by decide +kernel) (by decide +kernel) (by decide +kernel)
    have e6 : nv μ6 56 = nv μ1 56 := (f2.heq (by decide +kernel)).1
    have e689 : nv μ6 89 = nv μ1 89 := f2.n (by decide +kernel)
    have t73 : (μ6.1 0 73).toInt = (μ.1 0 73).toInt + 1 := by rw [f3, a6, ti_add (by omega) (by omega), e1]
    exact po_come (fun u h => h) hM6 (a2.trans (Fr.mono f2 (by decide +kernel) (fun h => h))) (a3.tr (f2.gr (by decide +kernel))) (by omega) (by omega) (by omega) a1 (a7.gr (f2.gr (by decide +kernel)))
  · have ht : t = true := by
      cases t
      · exact absurd (a8.2.2.2.2 rfl).1 h69
      · rfl
    subst ht
    have hrm := (a8.2.2.2.1 rfl).2.room a8.1.1
    refine ok_mono (em_instr a8 (k := 7) (h := 0) (fun r μ12 c1 c2 c3 c4 c5 => ?_)) (fun q hq => hq.pre a2 a3 a4 a5 a6)
    have hb : ((0 : Int32) != 0) = false := by decide
    have e7 : (7 : Int32).toInt = 7 := by decide
    rw [hb, e7] at c5
    have e3 : nv μ12 56 = nv μ1 56 := (c3.heq (by decide +kernel)).1
    refine ok_bw (em_op c4 c5 (by omega) hrm.2.1 (by simp) c1 k1 (by omega)) ?_
    rintro μ16 ⟨f1, f2, f3, f4⟩
    have e16 : nv μ16 56 = nv μ12 56 := (f2.heq (by decide +kernel)).1
    have FT : Fr fdT true μ1 μ16 := (frIn_T c3).trans (frOp_T f2)
    have GT : Gr μ1 μ16 := (c3.gr (by decide +kernel)).tr (f2.gr (by decide +kernel))
    have hP : Pl μ16 (nv μ16 88) (nv μ16 110) V (nv μ1 87) := by
      have hop := ops_opd f4 (V := V) f3.2.1 (fun z hz => by
        rcases List.mem_cons.mp hz with e | hz
        · rw [e]; exact ⟨(gk.gr GT).1, by rw [(GT.2 k lk).1]; exact k3.2.2.1⟩
        · exact absurd hz (by simp))
      have o0 := hop 0 (by simp)
      obtain ⟨i1, i2, i3, i4, i5, i6, i7, i8, i9, i10, i11, i12, i13, i14, i15, i16⟩ := f4
      exact ⟨fun h => absurd i6 h, by rw [i8]; simp, by rw [i8]; simp, nv μ1 88, i7, Or.inl ⟨i6, o0⟩⟩
    have hT := th_pl (a8.2.2.2.1 rfl).2 f4 hP (by decide) (by decide) (by simp [oc])
    have hVe : Vp μ16 V (nv μ1 87) = V := by
      funext u
      apply propext
      refine ⟨fun h => h.elim id (fun h => absurd f4.2.2.2.2.2.1 h.1), Or.inl⟩
    rw [hVe] at hT
    have hM16 : Mx true b Vb ve μ16 L cs R Zs V := by
      refine ⟨f3, a8.2.1.gr GT, ?_, fun _ => ⟨?_, hT⟩, fun h => absurd h (by decide)⟩
      · rw [f2.v (by decide +kernel), c5.2.2.2.2.2.2.2.2.2.2.2.1]; exact a8.2.2.1
      · rw [f2.v (by decide +kernel), c3.v (by decide +kernel)]; exact (a8.2.2.2.1 rfl).1
    have e89 := f4.2.2.1
    exact po_come (fun u h => h) hM16 FT GT (by omega) (by rw [f2.v (by decide +kernel), c3.v (by decide +kernel), a6]; omega) (by omega) a1 (a7.gr GT)
theorem k_doGet {t : Bool} {b : Nat} {Vb : Nat → Prop} {ve : Nat} {μ : Mem} {L : List Act} {cs : List Nat} {R : List Fm} {Zs : List Zc} {V : Nat → Prop} {a : Int32} (ha : 0 ≤ a.toInt ∧ a.toInt < 8) (hM : Mx t b Vb ve μ L cs R Zs V) (hR : Rm μ cs) : ok (p_X12_doGet a μ) (Po t b Vb ve μ L cs R Zs V) := by
  rw [p_X12_doGet_eq]
  have hR' := hR
  obtain ⟨R1, R2, R3, R4⟩ := hR
  have g89 := rm_89 hM.1.1
  have ba : inb a 8 = true := inb_iff.mpr (by omega)
  refine ok_ite (fun h69 => ok_ite (fun _ => ok_gd ba ?_) (fun _ => ok_gd ba ?_)) (fun h69 => ?_)
  · exact po_node (fun u h => h) hM Fr.rf Gr.rf rfl (Nat.le_refl _) (by omega) (by omega) (by omega) (Or.inr (by decide))
  · exact po_node (fun u h => h) hM Fr.rf Gr.rf rfl (Nat.le_refl _) (by omega) (by omega) (by omega) (Or.inl (by decide))
  · have ht : t = true := by
      cases t
      · exact absurd (hM.2.2.2.2 rfl).1 h69
      · rfl
    subst ht
    have hrm := (hM.2.2.2.1 rfl).2.room hM.1.1
    refine em_instr hM (k := 9) (h := 1) (fun r μ12 c1 c2 c3 c4 c5 => ?_)
    have hb : ((1 : Int32) != 0) = true := by decide
    have e9 : (9 : Int32).toInt = 9 := by decide
    rw [hb, e9] at c5
    have ei : r.toNatClampNeg = nv μ 87 := tn_of c1
    rw [ei]
    obtain ⟨d1, d2, d3, d4⟩ := t_itemA c2 c5 a
    refine ok_gd (inb_iff.mpr (by omega)) (ok_bv (fun μ15 em15 => ?_))
    rw [← em15] at d1 d2 d3 d4
    have v15 := c4.fr d1 d2 (by decide +kernel)
    have e3 : nv μ12 56 = nv μ 56 := (c3.heq (by decide +kernel)).1
    have e15 : nv μ15 56 = nv μ12 56 := (d2.heq (by decide +kernel)).1
    refine em_tail hM hR' d1 ((frIn_T c3).trans (fr48_T d2)) v15 ((c3.gr (by decide +kernel)).tr (d2.gr (by decide +kernel))) (by omega) ?_ ?_ d3 ?_ (by decide) (by simp) c1 (by omega)
    · rw [d2.v (by decide +kernel), c3.v (by decide +kernel)]
    · rw [d2.v (by decide +kernel), c3.v (by decide +kernel)]
    · obtain ⟨i1, i2, i3, i4, i5, i6, i7, i8, i9, i10, i11, i12, i13, i14, i15, i16⟩ := d3
      refine ⟨fun _ => ?_, by rw [i8]; simp, by rw [i8]; simp, nv μ 88, i7, Or.inr (Or.inr (Or.inl ⟨i6, by omega, by omega⟩))⟩
      rw [(i4 rfl).1]; omega
theorem k_doPut {t : Bool} {b : Nat} {Vb : Nat → Prop} {ve : Nat} {μ : Mem} {L : List Act} {cs : List Nat} {R : List Fm} {Zs : List Zc} {V : Nat → Prop} {x : Nat} {a : Int32} (ha : 0 ≤ a.toInt ∧ a.toInt < 8) (hM : Mx t b Vb ve μ L (x :: cs) R Zs V) (hR : Rm μ (x :: cs)) : ok (p_X12_doPut a μ) (Po t b Vb ve μ L cs R Zs V) := by
  rw [p_X12_doPut_eq]
  obtain ⟨R1, R2, R3, R4⟩ := hR
  have g89 := rm_89 hM.1.1
  simp only [List.length_cons] at R2
  have em1 : (-1 : Int32).toInt = -1 := by decide
  refine ok_bd hM.gone ?_
  rintro r2 μ1 ⟨a1, a2, a3, a4, a5, a6, a7, a8⟩
  have a1 : r2.toInt = (x : Int) := a1
  have a2 : Fr (fd t) true μ μ1 := a2
  have a3 : Gr μ μ1 := a3
  have a4 : nv μ1 56 = nv μ 56 := a4
  have a5 : nv μ1 89 = nv μ 89 := a5
  have a6 : μ1.1 0 73 = μ.1 0 73 := a6
  have a8 : Mx t b Vb ve μ1 L cs R Zs V := a8
  have a7 : Gd μ1 V x := a7
  have lx := a7.1.lt
  have ehp := hp_nv a8.1.1
  have g56 := rgm_0_56 a8.1.1
  refine ok_bd (t_num a8.1.1 a8.1.2.1 a1 lx) ?_
  rintro r4 μ3 ⟨k, k1, k2, k3⟩
  have k2 : μ1 = μ3 := k2.symm
  subst k2
  have k1 : r4.toInt = (k : Int) := k1
  have gk := k3.gd a7
  have lk := gk.1.lt
  have bk : inb r4 100000 = true := inb_iff.mpr (by omega)
  -- a known number is held
  have hold : ∀ (ν μ9 : Mem) (V9 : Nat → Prop), (∀ u, V u → V9 u) → Mx t b Vb ve μ9 L cs R Zs V9 → Fr (fd t) true ν μ9 → Gr ν μ9 → nv μ9 56 = nv ν 56 → nv ν 89 ≤ nv μ9 89 → μ9.1 0 73 = ν.1 0 73 → nv ν 56 < 100000 → 0 ≤ (ν.1 0 73).toInt → ok (bw (p_X12_holdAt a r4 μ9) (fun μ11 => (if (μ11.1 0 69) = 0 then gd (inb a 8) (bv (sF μ11 42 a.toNatClampNeg (μ11.1 0 1)) (fun μ18 => bd (p_X12_given μ18) (fun r20 μ19 => bw (p_X12_come r20 μ19) (fun μ21 => some μ21)))) else bd (p_X12_given μ11) (fun r15 μ14 => bw (p_X12_come r15 μ14) (fun μ16 => some μ16))))) (Po t b Vb ve ν L cs R Zs V) := by
    intro ν μ9 V9 hVV hM9 F9 G9 e9 e989 e973 hh0 hw0
    refine ok_bw (ok_pk (k_X12_holdAt a r4 μ9 hM9.1.1 (by omega)) (q_holdAt a r4 μ9)) ?_
    rintro μ11 ⟨⟨f1, f2⟩, f3⟩
    have hM11 := hM9.fr f1 f2 (by decide +kernel) (by decide +kernel) (by decide +kernel)
    have F11 : Fr (fd t) true ν μ11 := F9.trans (fd_mono f2 (by decide +kernel) t)
    have G11 := G9.tr (f2.gr (by decide +kernel))
    have e11 : nv μ11 56 = nv μ9 56 := (f2.heq (by decide +kernel)).1
    have e1189 : nv μ11 89 = nv μ9 89 := f2.n (by decide +kernel)
    have e1173 : μ11.1 0 73 = ν.1 0 73 := by rw [f2.v (by decide +kernel)]; exact e973
    refine ok_ite (fun h69 => ok_gd (inb_iff.mpr (by omega)) (ok_bv (fun μ18 em18 => ?_))) (fun h69 => ?_)
    · have ht : t = false := by
        cases t
        · rfl
        · exact absurd h69 (hM11.2.2.2.1 rfl).1
      subst ht
      have f18 : Fr [(1, 42, 0)] true μ11 μ18 := by rw [em18]; exact Fr.puta Fr.rf (by decide +kernel)
      have hI18 : IM μ18 := by rw [em18]; exact IM_F f1 (rtma_42 _ _)
      have hM18 := hM11.fr hI18 f18 (by decide +kernel) (by decide +kernel) (by decide +kernel)
      have e18 : nv μ18 56 = nv μ11 56 := (f18.heq (by decide +kernel)).1
      have e1889 : nv μ18 89 = nv μ11 89 := f18.n (by decide +kernel)
      exact po_given hVV hM18 (F11.trans (Fr.mono f18 (by decide +kernel) (fun h => h))) (G11.tr (f18.gr (by decide +kernel))) (by omega) (by omega) (by rw [f18.v (by decide +kernel), e1173]; omega) (by omega) (by omega) (by rw [f18.v (by decide +kernel)]; exact f3)
    · exact po_given hVV hM11 F11 G11 (by omega) (by omega) (by rw [e1173]; omega) (by omega) (by omega) f3
  refine ok_ite (fun h69 => ?_) (fun h69 => ?_)
  · have ht : t = false := by
      cases t
      · rfl
      · exact absurd h69 (a8.2.2.2.1 rfl).1
    subst ht
    rw [p_X12_doPut_b27_eq, if_pos a8.2.2.1, if_pos rfl, p_X12_doPut_b54_eq]
    refine ok_bd (t_isKnown a8.1.1 k1 lk) ?_
    rintro r9 μ8 ⟨u1, u2⟩
    have u1 : μ1 = μ8 := Eq.symm u1
    subst u1
    have u2 : (r9 = 0 ∧ iv μ1 30 k = 3) ∨ (r9 = 1 ∧ iv μ1 30 k ≠ 3) := u2
    refine ok_ite (fun h0 => ?_) (fun h0 => hold μ μ1 V (fun u h => h) a8 a2 a3 a4 (by omega) a6 (by omega) R3)
    rcases u2 with ⟨_, u2⟩ | ⟨u2, _⟩
    · exact absurd (a8.known gk u2) (by decide)
    · rw [u2] at h0; exact absurd h0 (by decide)
  · have ht : t = true := by
      cases t
      · exact absurd (a8.2.2.2.2 rfl).1 h69
      · rfl
    subst ht
    have hrm := (a8.2.2.2.1 rfl).2.room a8.1.1
    have hshape : (fun (r31 : Int32) (μ30 : Mem) => p_X12_doPut_b27 a r4 r31 μ30) = (fun (r31 : Int32) (μ30 : Mem) => if μ30.1 0 68 = 0 then (if r31 = -1 then p_X12_doPut_b54 a r4 r31 μ30 else gd (inb r31 960) (bv (sF μ30 48 r31.toNatClampNeg a) (fun μ27 => bw (p_X12_operand r31 r4 μ27) (fun μ28 => p_X12_doPut_b54 a r4 r31 μ28)))) else some μ30) := by
      funext r31 μ30
      rw [p_X12_doPut_b27_eq]
    rw [hshape]
    refine ok_mono (em_instr a8 (k := 8) (h := 1) (fun r μ12 c1 c2 c3 c4 c5 => ?_)) (fun q hq => hq.pre a2 a3 a4 a5 a6)
    have hb : ((1 : Int32) != 0) = true := by decide
    have e8 : (8 : Int32).toInt = 8 := by decide
    rw [hb, e8] at c5
    have ei : r.toNatClampNeg = nv μ1 87 := tn_of c1
    rw [ei, if_neg (fun h => by rw [h, em1] at c1; omega)]
    obtain ⟨d1, d2, d3, d4⟩ := t_itemA c2 c5 a
    refine ok_gd (inb_iff.mpr (by omega)) (ok_bv (fun μ15 em15 => ?_))
    rw [← em15] at d1 d2 d3 d4
    have v15 := c4.fr d1 d2 (by decide +kernel)
    have e3 : nv μ12 56 = nv μ1 56 := (c3.heq (by decide +kernel)).1
    have e15 : nv μ15 56 = nv μ12 56 := (d2.heq (by decide +kernel)).1
    refine ok_bw (em_op v15 d3 (by omega) hrm.2.1 (by simp) c1 k1 (by omega)) ?_
    rintro μ16 ⟨f1, f2, f3, f4⟩
    have e16 : nv μ16 56 = nv μ15 56 := (f2.heq (by decide +kernel)).1
    have FT : Fr fdT true μ1 μ16 := ((frIn_T c3).trans (fr48_T d2)).trans (frOp_T f2)
    have GT : Gr μ1 μ16 := ((c3.gr (by decide +kernel)).tr (d2.gr (by decide +kernel))).tr (f2.gr (by decide +kernel))
    have hA : iv μ16 48 (nv μ1 87) = a.toInt := by rw [f2.a (by decide)]; exact d4
    have hP : Pl μ16 (nv μ16 88) (nv μ16 110) V (nv μ1 87) := by
      have hop := ops_opd f4 (V := V) f3.2.1 (fun z hz => by
        rcases List.mem_cons.mp hz with e | hz
        · rw [e]; exact ⟨(gk.gr GT).1, by rw [(GT.2 k lk).1]; exact k3.2.2.1⟩
        · exact absurd hz (by simp))
      have o0 := hop 0 (by simp)
      obtain ⟨i1, i2, i3, i4, i5, i6, i7, i8, i9, i10, i11, i12, i13, i14, i15, i16⟩ := f4
      refine ⟨fun _ => ?_, by rw [i8]; simp, by rw [i8]; simp, nv μ1 88, i7, Or.inr (Or.inr (Or.inr (Or.inl ⟨i6, by omega, by omega, o0⟩)))⟩
      rw [(i4 rfl).1]; omega
    have g73 : μ16.1 0 73 = μ1.1 0 73 := by rw [f2.v (by decide +kernel), d2.v (by decide +kernel), c3.v (by decide +kernel)]
    have g69 : μ16.1 0 69 = μ1.1 0 69 := by rw [f2.v (by decide +kernel), d2.v (by decide +kernel), c3.v (by decide +kernel)]
    rw [p_X12_doPut_b54_eq]
    refine ok_bd (t_isKnown f1 k1 (by omega)) ?_
    rintro r9 μ8 ⟨u1, u2⟩
    have u1 : μ16 = μ8 := Eq.symm u1
    subst u1
    have hR1 : Rm μ1 cs := ⟨by omega, by omega, by rw [a6]; exact R3, by rw [a6]; exact R4⟩
    refine ok_ite (fun h0 => ?_) (fun h0 => ?_)
    · exact em_tail a8 hR1 f1 FT f3 GT (by omega) g73 g69 f4 hP (by decide) (by simp [oc]) c1 (by omega)
    · have hT := th_pl (a8.2.2.2.1 rfl).2 f4 hP (by decide) (by decide) (by simp [oc])
      have hM16 : Mx true b Vb ve μ16 L cs R Zs (Vp μ16 V (nv μ1 87)) := by
        refine ⟨f3, (a8.2.1.gr GT).mono (fun u hu => Or.inl hu), ?_, fun _ => ⟨by rw [g69]; exact (a8.2.2.2.1 rfl).1, hT⟩, fun h => absurd h (by decide)⟩
        rw [f2.v (by decide +kernel), d2.v (by decide +kernel), c5.2.2.2.2.2.2.2.2.2.2.2.1]; exact a8.2.2.1
      have e89 := f4.2.2.1
      exact hold μ1 μ16 _ (fun u h => Or.inl h) hM16 FT GT (by omega) (by omega) g73 (by omega) (by rw [a6]; exact R3)
