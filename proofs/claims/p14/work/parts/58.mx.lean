/-! WHAT IS DONE WITH VALUES -/
def nT (F : List (Nat × Nat × Nat)) : Bool := na F 46 && na F 47 && na F 48 && na F 49 && na F 50 && na F 51 && na F 52 && na F 53 && na F 54 && na F 59 && na F 62 && na F 63 && na F 64 && nf F 45 && nf F 87 && nf F 88 && nf F 89 && nf F 90 && nf F 93 && nf F 110
theorem Th.fr {F : List (Nat × Nat × Nat)} {bb : Bool} {b : Nat} {Vb : Nat → Prop} {ve : Nat} {μ μ' : Mem} {Zs : List Zc} {V : Nat → Prop} (h : Th b Vb ve μ Zs V) (f : Fr F bb μ μ') (n : nT F = true) : Th b Vb ve μ' Zs V := by
  unfold nT at n
  simp only [Bool.and_eq_true] at n
  obtain ⟨⟨⟨⟨⟨⟨⟨⟨⟨⟨⟨⟨⟨⟨⟨⟨⟨⟨⟨n46, n47⟩, n48⟩, n49⟩, n50⟩, n51⟩, n52⟩, n53⟩, n54⟩, n59⟩, n62⟩, n63⟩, n64⟩, n45⟩, n87⟩, n88⟩, n89⟩, n90⟩, n93⟩, n110⟩ := n
  obtain ⟨h1, h2, h3, h4, h5, h6, h7, h8⟩ := h
  unfold Th
  rw [f.n n87, f.n n88, f.n n89, f.n n93, f.n n110, f.v n90]
  refine ⟨h1.cong ⟨Nat.le_refl _, Nat.le_refl _, fun o _ => ⟨f.a n53 o, f.a n54 o⟩, fun v _ => f.a n59 v⟩ (fun j _ _ => ⟨f.a n46 j, f.a n47 j, f.a n48 j, f.a n49 j, f.a n50 j, f.a n51 j, f.a n52 j⟩), h2, h3, h4, h5, ?_, ?_, h8.1, h8.2.cong ⟨Nat.le_refl _, Nat.le_refl _, fun o _ => ⟨f.a n53 o, f.a n54 o⟩, fun v _ => f.a n59 v⟩ (fun j _ => ⟨f.a n46 j, f.a n47 j, f.a n48 j, f.a n49 j, f.a n50 j, f.a n51 j, f.a n52 j⟩) (fun w => ⟨f.a n62 w, f.a n63 w, f.a n64 w, f.v n45⟩)⟩
  · intro c cM W ha
    rw [f.fe n46, f.n n87, f.n n89]; exact h6 c cM W ha
  · rw [f.fe n46]; exact h7
/-- the machine at hand -/
def Mx (t : Bool) (b : Nat) (Vb : Nat → Prop) (ve : Nat) (μ : Mem) (L : List Act) (cs : List Nat) (R : List Fm) (Zs : List Zc) (V : Nat → Prop) : Prop :=
  Vw μ L cs R ∧ Lv μ V cs R ∧ μ.1 0 68 = 0 ∧ (t = true → μ.1 0 69 ≠ 0 ∧ Th b Vb ve μ Zs V) ∧ (t = false → μ.1 0 69 = 0 ∧ Zs = [] ∧ ∀ u, ¬ V u)
theorem Mx.fr {F : List (Nat × Nat × Nat)} {bb : Bool} {t : Bool} {b : Nat} {Vb : Nat → Prop} {ve : Nat} {μ μ' : Mem} {L : List Act} {cs : List Nat} {R : List Fm} {Zs : List Zc} {V : Nat → Prop} (h : Mx t b Vb ve μ L cs R Zs V) (hI : IM μ') (f : Fr F bb μ μ') (n : (nh F && nA F && nC F && nE F) = true) (n2 : nT F = true) (n3 : (nf F 68 && nf F 69) = true) : Mx t b Vb ve μ' L cs R Zs V := by
  obtain ⟨h1, h2, h3, h4, h5⟩ := h
  have n' := n
  simp only [Bool.and_eq_true] at n' n3
  exact ⟨h1.fr hI f n, h2.gr (f.gr n'.1.1.1), by rw [f.v n3.1]; exact h3, fun ht => ⟨by rw [f.v n3.2]; exact (h4 ht).1, (h4 ht).2.fr f n2⟩, fun ht => ⟨by rw [f.v n3.2]; exact (h5 ht).1, (h5 ht).2⟩⟩
def fdR : List (Nat × Nat × Nat) := [(0, 0, 0), (0, 0, 1), (0, 0, 68), (0, 0, 73), (1, 42, 0), (1, 43, 0), (1, 44, 0)] ++ frN ++ frCo
def fdT : List (Nat × Nat × Nat) := [(0, 0, 0), (0, 0, 1), (0, 0, 68)] ++ frN ++ frCo ++ frIn ++ frOp ++ [(1, 55, 0), (1, 56, 0)]
def fd (t : Bool) : List (Nat × Nat × Nat) := if t then fdT else fdR
/-- a frame that is one of both kinds -/
theorem fd_mono {F : List (Nat × Nat × Nat)} {μ μ' : Mem} (f : Fr F true μ μ') (h : (F.all (fun x => fdT.contains x) && F.all (fun x => fdR.contains x)) = true) (t : Bool) : Fr (fd t) true μ μ' := by
  simp only [Bool.and_eq_true] at h
  cases t
  · exact Fr.mono f h.2 (fun h => h)
  · exact Fr.mono f h.1 (fun h => h)
/-- it is over; in a run what was written is counted on -/
def Ov (t : Bool) (μ q : Mem) : Prop := q.1 0 68 ≠ 0 ∧ (t = false → 0 ≤ (q.1 0 73).toInt ∧ (q.1 0 73).toInt ≤ (μ.1 0 73).toInt + 1)
/-- what a deed leaves: one value more on cs -/
def Po (t : Bool) (b : Nat) (Vb : Nat → Prop) (ve : Nat) (μ : Mem) (L : List Act) (cs : List Nat) (R : List Fm) (Zs : List Zc) (V0 : Nat → Prop) (q : Mem) : Prop :=
  IM q ∧ Fr (fd t) true μ q ∧ (Ov t μ q ∨ ∃ z V, (∀ u, V0 u → V u) ∧ Mx t b Vb ve q L (z :: cs) R Zs V ∧ Gr μ q ∧ nv q 56 + nv μ 89 ≤ nv μ 56 + 1 + nv q 89 ∧ nv μ 89 ≤ nv q 89 ∧ 0 ≤ (q.1 0 73).toInt ∧ (q.1 0 73).toInt ≤ (μ.1 0 73).toInt + 1)
/-- the room that a deed wants -/
def Rm (μ : Mem) (cs : List Nat) : Prop := nv μ 56 + 302 ≤ 100000 + nv μ 89 ∧ cs.length < 5990 ∧ 0 ≤ (μ.1 0 73).toInt ∧ (μ.1 0 73).toInt < 1000000
theorem Po.pre {t : Bool} {b : Nat} {Vb : Nat → Prop} {ve : Nat} {μ μ1 : Mem} {L : List Act} {cs : List Nat} {R : List Fm} {Zs : List Zc} {V0 : Nat → Prop} {q : Mem} (h : Po t b Vb ve μ1 L cs R Zs V0 q) (f : Fr (fd t) true μ μ1) (g : Gr μ μ1) (e56 : nv μ1 56 = nv μ 56) (e89 : nv μ1 89 = nv μ 89) (e73 : μ1.1 0 73 = μ.1 0 73) : Po t b Vb ve μ L cs R Zs V0 q := by
  obtain ⟨h1, h2, h3⟩ := h
  refine ⟨h1, f.trans h2, ?_⟩
  rcases h3 with h3 | ⟨z, V, h0, h4, h5, h6, h7, h8, h9⟩
  · exact Or.inl ⟨h3.1, fun ht => by rw [← e73]; exact h3.2 ht⟩
  · exact Or.inr ⟨z, V, h0, h4, g.tr h5, by omega, by omega, h8, by rw [e73] at h9; exact h9⟩
theorem Gd.one {μ : Mem} {V : Nat → Prop} {x : Nat} (h : x < nv μ 56) (hs : iv μ 30 x = 0 ∨ iv μ 30 x = 1) (hw : iv μ 33 x = 1) : Gd μ V x := ⟨Vl.leaf h (by omega) (fun h3 => by omega), by omega⟩
/-- a value comes: nothing else is left to do -/
theorem po_come {t : Bool} {b : Nat} {Vb : Nat → Prop} {ve : Nat} {μ μ1 : Mem} {L : List Act} {cs : List Nat} {R : List Fm} {Zs : List Zc} {V0 V : Nat → Prop} (hVV : ∀ u, V0 u → V u) (hM : Mx t b Vb ve μ1 L cs R Zs V) (f : Fr (fd t) true μ μ1) (g : Gr μ μ1) (hb : nv μ1 56 + nv μ 89 ≤ nv μ 56 + 1 + nv μ1 89 ∧ nv μ 89 ≤ nv μ1 89) (hw : 0 ≤ (μ1.1 0 73).toInt ∧ (μ1.1 0 73).toInt ≤ (μ.1 0 73).toInt + 1) (hl : cs.length < 5990) {a : Int32} {x : Nat} (h1 : a.toInt = (x : Int)) (hx : Gd μ1 V x) : ok (bw (p_X12_come a μ1) (fun μ5 => some μ5)) (Po t b Vb ve μ L cs R Zs V0) := by
  obtain ⟨m1, m2, m3, m4, m5⟩ := hM
  refine ok_bw (v_come m1 (by omega) h1 hx.1.lt) ?_
  rintro μ5 ⟨f5, v5⟩
  have g5 := f5.gr (by decide +kernel)
  have e56 := (f5.heq (by decide +kernel)).1
  have e89 : nv μ5 89 = nv μ1 89 := f5.n (by decide +kernel)
  refine ok_some ⟨v5.1, f.trans (fd_mono f5 (by decide +kernel) t), Or.inr ⟨x, V, hVV, ⟨v5, (m2.gr g5).cons (hx.gr g5), by rw [f5.v (by decide +kernel)]; exact m3, fun ht => ⟨by rw [f5.v (by decide +kernel)]; exact (m4 ht).1, (m4 ht).2.fr f5 (by decide +kernel)⟩, fun ht => ⟨by rw [f5.v (by decide +kernel)]; exact (m5 ht).1, (m5 ht).2⟩⟩, g.tr g5, by omega, by omega, by rw [f5.v (by decide +kernel)]; exact hw.1, by rw [f5.v (by decide +kernel)]; exact hw.2⟩⟩
theorem Mx.gone {t : Bool} {b : Nat} {Vb : Nat → Prop} {ve : Nat} {μ : Mem} {L : List Act} {cs : List Nat} {R : List Fm} {Zs : List Zc} {V : Nat → Prop} {x : Nat} (hM : Mx t b Vb ve μ L (x :: cs) R Zs V) : ok (p_X12_gone μ) (fun q => q.1.toInt = (x : Int) ∧ Fr (fd t) true μ q.2 ∧ Gr μ q.2 ∧ nv q.2 56 = nv μ 56 ∧ nv q.2 89 = nv μ 89 ∧ q.2.1 0 73 = μ.1 0 73 ∧ Gd q.2 V x ∧ Mx t b Vb ve q.2 L cs R Zs V) := by
  obtain ⟨m1, m2, m3, m4, m5⟩ := hM
  refine ok_mono (v_gone m1) ?_
  rintro q ⟨h1, f5, v5⟩
  have g5 := f5.gr (by decide +kernel)
  have m2' := m2.gr g5
  exact ⟨h1, fd_mono f5 (by decide +kernel) t, g5, (f5.heq (by decide +kernel)).1, f5.n (by decide +kernel), f5.v (by decide +kernel), m2'.1 x (by simp), v5, ⟨fun y hy => m2'.1 y (by simp [hy]), m2'.2⟩, by rw [f5.v (by decide +kernel)]; exact m3, fun ht => ⟨by rw [f5.v (by decide +kernel)]; exact (m4 ht).1, (m4 ht).2.fr f5 (by decide +kernel)⟩, fun ht => ⟨by rw [f5.v (by decide +kernel)]; exact (m5 ht).1, (m5 ht).2⟩⟩
theorem Nm.gd {μ : Mem} {V : Nat → Prop} {x k : Nat} (h : Nm μ x k) (hx : Gd μ V x) : Gd μ V k := ⟨h.2.2.2.2 V hx.1, by rw [h.2.2.2.1]; decide⟩
/-- in a run nothing is unknown -/
theorem Mx.known {t : Bool} {b : Nat} {Vb : Nat → Prop} {ve : Nat} {μ : Mem} {L : List Act} {cs : List Nat} {R : List Fm} {Zs : List Zc} {V : Nat → Prop} {x : Nat} (hM : Mx t b Vb ve μ L cs R Zs V) (hx : Gd μ V x) (h3 : iv μ 30 x = 3) : t = true := by
  cases t
  · obtain ⟨m1, m2, m3, m4, m5⟩ := hM
    obtain ⟨C, c1, c2⟩ := hx.1
    exact absurd ((c2 x c1).2.1 h3).2 ((m5 rfl).2.2 _)
  · rfl
/-- an instruction with a register is whole: its register comes -/
theorem em_tail {b : Nat} {Vb : Nat → Prop} {ve : Nat} {μ μ1 : Mem} {L : List Act} {cs : List Nat} {R : List Fm} {Zs : List Zc} {V : Nat → Prop} {k : Int} {xs : List Nat} (hM : Mx true b Vb ve μ L cs R Zs V) (hR : Rm μ cs) (hI1 : IM μ1) (F1 : Fr fdT true μ μ1) (hV1 : Vw μ1 L cs R) (hG : Gr μ μ1) (e56 : nv μ1 56 = nv μ 56) (e73 : μ1.1 0 73 = μ.1 0 73) (e69 : μ1.1 0 69 = μ.1 0 69) (hi : In μ μ1 k true xs) (hP : Pl μ1 (nv μ1 88) (nv μ1 110) V (nv μ 87)) (hk : k ≠ 6 ∧ k ≠ 13 ∧ k ≠ 14 ∧ k ≠ 7) (hxs : xs.length ≤ oc k) {r : Int32} (hr : r.toInt = (nv μ 87 : Int)) (h87 : nv μ 87 < 960) :
    ok (bd (p_X12_registerOf r μ1) (fun r9 μ8 => bw (p_X12_come r9 μ8) (fun μ9 => some μ9))) (Po true b Vb ve μ L cs R Zs V) := by
  have hT1 := th_pl (hM.2.2.2.1 rfl).2 hi hP ⟨hk.1, hk.2.1, hk.2.2.1⟩ (by simp [hk.2.2.2]) hxs
  obtain ⟨R1, R2, R3, R4⟩ := hR
  have h89 := (hT1.room hI1).2.2.2
  obtain ⟨i1, i2, i3, i4, i5, i6, i7, i8, i9, i10, i11, i12, i13, i14, i15, i16⟩ := hi
  obtain ⟨r1, r2⟩ := i4 rfl
  refine ok_bd (v_reg hV1 hr h87 r1 (by omega)) ?_
  rintro r9 μ8 ⟨c1, c2, c3, c4, c5, c6, c7, c8⟩
  have c1 : r9.toInt = (nv μ1 56 : Int) := c1
  have c2 : Fr frN true μ1 μ8 := c2
  have c3 : Gr μ1 μ8 := c3
  have c4 : Vw μ8 L cs R := c4
  have c5 : nv μ8 56 = nv μ1 56 + 1 := c5
  have c6 : iv μ8 30 (nv μ1 56) = 3 := c6
  have c7 : iv μ8 31 (nv μ1 56) = (nv μ 93 : Int) := c7
  have c8 : iv μ8 33 (nv μ1 56) = 1 := c8
  have e89 : nv μ8 89 = nv μ1 89 := c2.n (by decide +kernel)
  have hx : Gd μ8 (Vp μ1 V (nv μ 87)) (nv μ1 56) := by
    refine ⟨Vl.leaf (by omega) (by omega) (fun _ => ?_), by omega⟩
    rw [c7]
    refine ⟨by omega, Or.inr ⟨by rw [i6]; exact hk.2.2.2, ?_⟩⟩
    rw [r1]; rfl
  have hM8 : Mx true b Vb ve μ8 L cs R Zs (Vp μ1 V (nv μ 87)) := by
    refine ⟨c4, (hM.2.1.gr (hG.tr c3)).mono (fun u hu => Or.inl hu), ?_, fun _ => ⟨?_, hT1.fr c2 (by decide +kernel)⟩, fun h => absurd h (by decide)⟩
    · rw [c2.v (by decide +kernel), i12]; exact hM.2.2.1
    · rw [c2.v (by decide +kernel), e69]; exact (hM.2.2.2.1 rfl).1
  exact po_come (fun u hu => Or.inl hu) hM8 (F1.trans (Fr.mono c2 (by decide +kernel) (fun h => h))) (hG.tr c3) (by omega) (by rw [c2.v (by decide +kernel), e73]; omega) (by omega) c1 hx
theorem q_give (a1 a2 : Int32) (μ : Mem) : pk (p_X12_give a1 a2 μ) (fun q => (q.1 0 0) = a1) := by
  rw [p_X12_give_eq]; exact pk_bv (pk_bv (pk_some (by rw [sF_k (by decide), sF_v])))
theorem pk_bs {α β : Type} {x : Option α} {f : α → Option β} {Q : β → Prop} (h : ∀ a, pk (f a) Q) : pk (bs x f) Q := by
  intro r e
  unfold bs at e
  cases hq : x with
  | none => rw [hq] at e; exact absurd e (by simp)
  | some q => rw [hq] at e; exact h q r e
theorem q_g {a1 a2 : Int32} {μ : Mem} (h : a1.toInt = 0 ∨ a1.toInt = 1) : pk (bw (p_X12_give a1 a2 μ) (fun μ2 => some μ2)) (fun q => (q.1 0 0).toInt = 0 ∨ (q.1 0 0).toInt = 1) := by
  refine pk_bw (q_give _ _ _) ?_
  intro μ1 e
  exact pk_some (by rw [e]; exact h)
theorem q_join (a1 a2 a3 a4 a5 : Int32) (μ : Mem) : pk (p_X12_join a1 a2 a3 a4 a5 μ) (fun q => (q.1 0 0).toInt = 0 ∨ (q.1 0 0).toInt = 1) := by
  rw [p_X12_join_eq]
  have h0 : (0 : Int32).toInt = 0 ∨ (0 : Int32).toInt = 1 := by decide
  have h1 : (1 : Int32).toInt = 0 ∨ (1 : Int32).toInt = 1 := by decide
  have hb : ∀ k0, pk (p_X12_join_b16 a1 a2 a3 a4 a5 k0 μ) (fun q => (q.1 0 0).toInt = 0 ∨ (q.1 0 0).toInt = 1) := by
    intro k0
    rw [p_X12_join_b16_eq]
    refine pk_ite (fun _ => pk_bs (fun _ => pk_ite (fun _ => q_g h0) (fun _ => pk_bs (fun _ => pk_gd fun _ => q_g h0)))) (fun _ => pk_ite (fun _ => pk_ite (fun _ => pk_ite (fun _ => q_g h0) (fun _ => q_g h0)) (fun _ => pk_bs (fun _ => pk_ite (fun _ => q_g h0) (fun _ => q_g h0)))) (fun _ => pk_ite (fun _ => pk_ite (fun _ => pk_ite (fun _ => q_g h0) (fun _ => q_g h0)) (fun _ => pk_bs (fun _ => pk_ite (fun _ => q_g h0) (fun _ => q_g h0)))) (fun _ => pk_ite (fun _ => q_g h0) (fun _ => pk_bs (fun _ => q_g h1)))))
  refine pk_ite (fun _ => ?_) (fun _ => pk_ite (fun _ => ?_) (fun _ => hb _))
  · rw [p_X12_join_b11_eq]; exact hb _
  · rw [p_X12_join_b11_eq]; exact hb _
theorem q_turn (a1 a2 a3 : Int32) (μ : Mem) : pk (p_X12_turn a1 a2 a3 μ) (fun q => (q.1 0 0).toInt = 0 ∨ (q.1 0 0).toInt = 1) := by
  rw [p_X12_turn_eq]
  have h0 : (0 : Int32).toInt = 0 ∨ (0 : Int32).toInt = 1 := by decide
  have h1 : (1 : Int32).toInt = 0 ∨ (1 : Int32).toInt = 1 := by decide
  exact pk_ite (fun _ => pk_bs (fun _ => q_g h0)) (fun _ => pk_ite (fun _ => q_g h1) (fun _ => q_g h0))
theorem q_holdAt (a1 a2 : Int32) (μ : Mem) : pk (p_X12_holdAt a1 a2 μ) (fun q => (q.1 0 0).toInt = 0 ∨ (q.1 0 0).toInt = 1) := by
  rw [p_X12_holdAt_eq]
  have h0 : (0 : Int32).toInt = 0 ∨ (0 : Int32).toInt = 1 := by decide
  have h1 : (1 : Int32).toInt = 0 ∨ (1 : Int32).toInt = 1 := by decide
  exact pk_ite (fun _ => pk_gd fun _ => pk_gd fun _ => q_g h1) (fun _ => pk_gd fun _ => pk_gd fun _ => pk_bs (fun _ => q_g h0))
