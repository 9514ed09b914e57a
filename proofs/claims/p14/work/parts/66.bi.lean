theorem ud_ud {ρ : Evn} {v : Nat} {o : Option Nat} : ud (ud ρ v o) v (ρ v) = ρ := by
  funext u
  unfold ud
  by_cases e : u = v
  · rw [if_pos e, e]
  · rw [if_neg e, if_neg e]
/-- a var is written: what the vars are then -/
theorem ev_set {μ : Mem} {ρ : Evn} {c0 : Nat} {R : List Fm} (h : EV μ ((ρ, c0) :: R)) {v : Nat} (hv : v < 14) {a : Int32} {o : Option Nat} (ho : o = none ∨ ∃ y : Nat, o = some y ∧ a.toInt = (y : Int)) : EV (sF μ 41 (14 * R.length + v) a) ((ud ρ v o, c0) :: R) := by
  obtain ⟨h1, h2, h3, h4⟩ := h
  have x41 : ∀ i, i ≠ 14 * R.length + v → iv (sF μ 41 (14 * R.length + v) a) 41 i = iv μ 41 i := fun i hi => by unfold iv; rw [sF_k hi]
  refine ⟨h1, h2, fun u x hu => ?_, h4.cong (fun i hi => x41 i (by omega))⟩
  unfold ud at hu
  by_cases e : u = v
  · have hu : o = some x := by simpa [e] using hu
    refine ⟨by omega, ?_⟩
    rcases ho with ho | ⟨y, ho, ha⟩
    · rw [ho] at hu; exact absurd hu (by simp)
    · rw [ho] at hu
      have : y = x := by simpa using hu
      unfold iv
      rw [e, sF_v, ha, this]
  · have hu : ρ u = some x := by simpa [e] using hu
    obtain ⟨a1, a2⟩ := h3 u x hu
    exact ⟨a1, by rw [x41 _ (by omega)]; exact a2⟩
theorem Dp.env {t : Bool} {μ : Mem} {R : List Fm} {f g : Fm} (h : Dp t μ (f :: R)) (e : f.2 = g.2) : Dp t μ (g :: R) := by
  obtain ⟨⟨k, k1, k2⟩, h2, h3⟩ := h
  refine ⟨?_, h2, h3⟩
  cases R with
  | nil =>
    have : f = k := by simpa using k1
    exact ⟨g, rfl, by rw [← e, this]; exact k2⟩
  | cons f2 R => rw [List.getLast?_cons_cons] at k1; exact ⟨k, by rw [List.getLast?_cons_cons]; exact k1, k2⟩
theorem base_ix {μ : Mem} {f : Fm} {R : List Fm} (h : EV μ (f :: R)) {a : Int32} {v : Nat} (ha : a.toInt = (v : Int)) (hv : v < 14) : (μ.1 0 67 + a).toNatClampNeg = 14 * R.length + v ∧ inb (μ.1 0 67 + a) 500 = true := by
  obtain ⟨h1, h2, _⟩ := h
  simp only [List.length_cons] at h1 h2
  have t : (μ.1 0 67 + a).toInt = 14 * (R.length : Int) + v := by rw [ti_add (by omega) (by omega), ha]; omega
  exact ⟨tn_of (by omega), inb_iff.mpr (by omega)⟩
theorem g_unbind {t : Bool} {b : Nat} {Vb : Nat → Prop} {ve : Nat} {th wo be bh : Nat → Int} {N : Nat} {μ : Mem} {v : Nat} {c : Int} {L : List Act} {cs : List Nat} {R : List Fm} {Zs : List Zc} {V : Nat → Prop} {T : Nat} (h : Jx t b Vb ve th wo be bh N μ (4, v, c) L cs R Zs V T) {a2 a3 : Int32} (ha : a2.toInt = (v : Int)) (hc : a3.toInt = c) : ok (gd (inb (μ.1 0 67 + a2) 500) (bv (sF μ 41 (μ.1 0 67 + a2).toNatClampNeg a3) (fun μ15 => some μ15))) (Sx t b Vb ve th wo be bh N μ T) := by
  have hJ := h
  obtain ⟨h1, h2, h3, h4, h5, h6, h7, h8, h9, h10⟩ := h
  cases R with
  | nil => exact h2.elim
  | cons f R =>
    obtain ⟨ρ, c0⟩ := f
    obtain ⟨hc0, hcl⟩ := h2
    obtain ⟨hv, o, ho, hO⟩ : v < 14 ∧ ∃ o : Option Nat, (o = none ∨ ∃ y : Nat, o = some y ∧ c = (y : Int) ∧ Gd μ V y) ∧ Ok th wo be N μ L ((ud ρ v o, c0) :: R) cs Zs V := by
      rcases hcl with ⟨h, _⟩ | ⟨h, _⟩ | ⟨h, _⟩ | ⟨h, _⟩ | ⟨_, a1, o, a2, a3⟩ | ⟨h, _⟩ | ⟨h, _⟩ | ⟨h, _⟩
      rotate_left 4
      · exact ⟨a1, o, a2, a3⟩
      all_goals exact absurd h (by decide)
    obtain ⟨m1, m2, m3, m4, m5⟩ := h1
    obtain ⟨v1, v2, v3, v4, v5⟩ := m1
    obtain ⟨b1, b2⟩ := base_ix v5 ha hv
    rw [b1]
    refine ok_gd b2 (ok_bv (fun q eq => ok_some ?_))
    have f : Fr [(1, 41, 0)] true μ q := by rw [eq]; exact Fr.puta Fr.rf (by decide +kernel)
    have hI : IM q := by rw [eq]; exact IM_F v1 (rtma_41 _ _)
    have g := f.gr (by decide +kernel)
    have hE : EV q ((ud ρ v o, c0) :: R) := by rw [eq]; exact ev_set v5 hv (ho.imp id (fun ⟨y, y1, y2, _⟩ => ⟨y, y1, by rw [hc]; exact y2⟩))
    have hL : Lv q V cs ((ud ρ v o, c0) :: R) := by
      refine ⟨fun x hx => (m2.1 x hx).gr g, fun e he u x hu => ?_⟩
      rcases List.mem_cons.mp he with e1 | e1
      · rw [e1] at hu
        have hu : ud ρ v o u = some x := hu
        unfold ud at hu
        by_cases e2 : u = v
        · have hu : o = some x := by simpa [e2] using hu
          rcases ho with ho | ⟨y, y1, y2, y3⟩
          · rw [ho] at hu; exact absurd hu (by simp)
          · have : y = x := by rw [y1] at hu; simpa using hu
            rw [← this]; exact y3.gr g
        · have hu : ρ u = some x := by simpa [e2] using hu
          exact (m2.2 (ρ, c0) (by simp) u x hu).gr g
      · exact (m2.2 e (by simp [e1]) u x hu).gr g
    have hM : Mx t b Vb ve q L cs ((ud ρ v o, c0) :: R) Zs V := ⟨⟨hI, v2.fr f (by decide +kernel), v3.fr f (by decide +kernel), v4.fr f (by decide +kernel), hE⟩, hL, by rw [f.v (by decide +kernel)]; exact m3, fun ht => ⟨by rw [f.v (by decide +kernel)]; exact (m4 ht).1, (m4 ht).2.fr f (by decide +kernel)⟩, fun ht => ⟨by rw [f.v (by decide +kernel)]; exact (m5 ht).1, (m5 ht).2⟩⟩
    have hS : Sp4 bh ((4, v, c) :: L) = 1 + Sp4 bh L := by show stp bh _ + _ = _; simp [stp]
    refine sx_mk hJ f (fg_mono f (by decide +kernel) t) (by decide +kernel) hM (Ok.gr g _ _ _ _ _ hO) (Bd.env _ _ _ (ρ, c0) (ud ρ v o, c0) rfl ((h3.head (by simp)).mono (by omega))) ((h5.fr f (by decide +kernel)).env rfl) (cl_fr f (by decide +kernel)) (by omega) ?_ (f.v (by decide +kernel))
    rw [(f.heq (by decide +kernel)).1, f.n (by decide +kernel)]; omega
theorem g_leave {t : Bool} {b : Nat} {Vb : Nat → Prop} {ve : Nat} {th wo be bh : Nat → Int} {N : Nat} {μ : Mem} {v : Nat} {c : Int} {L : List Act} {cs : List Nat} {R : List Fm} {Zs : List Zc} {V : Nat → Prop} {T : Nat} (h : Jx t b Vb ve th wo be bh N μ (5, v, c) L cs R Zs V T) : ok (p_X12_leave μ) (Sx t b Vb ve th wo be bh N μ T) := by
  have hJ := h
  obtain ⟨h1, h2, h3, h4, h5, h6, h7, h8, h9, h10⟩ := h
  cases R with
  | nil => exact h2.elim
  | cons f R =>
    obtain ⟨ρ, c0⟩ := f
    obtain ⟨hc0, hcl⟩ := h2
    obtain ⟨hz, hne, hlen, hO⟩ : Zs = [] ∧ R ≠ [] ∧ cs.length = c0 + 1 ∧ Ok th wo be N μ L R cs [] V := by
      rcases hcl with ⟨h, _⟩ | ⟨h, _⟩ | ⟨h, _⟩ | ⟨h, _⟩ | ⟨h, _⟩ | ⟨_, a1, a2, a3, a4⟩ | ⟨h, _⟩ | ⟨h, _⟩
      rotate_left 5
      · exact ⟨a1, a2, a3, a4⟩
      all_goals exact absurd h (by decide)
    subst hz
    obtain ⟨m1, m2, m3, m4, m5⟩ := h1
    obtain ⟨v1, v2, v3, v4, E1, E2, E3, E4⟩ := m1
    simp only [List.length_cons] at E1 E2
    have e14 : (14 : Int32).toInt = 14 := by decide
    have e1 : (1 : Int32).toInt = 1 := by decide
    have hRl : 1 ≤ R.length := by
      cases R with
      | nil => exact absurd rfl hne
      | cons g R => simp
    have hbd : Bd bh L 1 R c0 := by
      have h3 : (if (5, v, c).1 = 5 then 0 + cs.length ≤ 81 + c0 ∧ Bd bh L 1 R c0 else Bd bh L (0 + pot bh (5, v, c)) ((ρ, c0) :: R) cs.length) := h3
      rw [if_pos rfl] at h3
      exact h3.2
    have hS : Sp4 bh ((5, v, c) :: L) = 1 + Sp4 bh L := by show stp bh _ + _ = _; simp [stp]
    rw [p_X12_leave_eq]
    refine ok_bv (fun μ1 em1 => ?_)
    have t67 : (μ.1 0 67 - 14).toInt = (μ.1 0 67).toInt - 14 := by rw [ti_sub (by omega) (by omega), e14]
    have f1 : Fr [(0, 0, 67)] true μ μ1 := by rw [em1]; exact Fr.put Fr.rf (by decide +kernel)
    have hI1 : IM μ1 := by rw [em1]; exact IM_F v1 (rtm_0_67 _)
    have hE1 : EV μ1 R := ⟨by rw [em1, sF_v, t67]; omega, by omega, by rw [f1.fe (by decide)]; exact E4⟩
    have x69 : μ1.1 0 69 = μ.1 0 69 := f1.v (by decide +kernel)
    -- what is left, whichever count goes down
    have fin : ∀ (F : List (Nat × Nat × Nat)) (q : Mem), Fr F true μ1 q → IM q → (nh F && nA F && nC F && nE F) = true → nT F = true → (nf F 68 && nf F 69) = true → nP F = true → nf F 73 = true → nf F 89 = true → Fr (fg t) true μ q → Dp t q R → cl t q = cl t μ → Sx t b Vb ve th wo be bh N μ T q := by
      intro F q fq hIq n1 n2 n3 n4 n5 n6 hfg hD hcl
      have hM1 : Mx t b Vb ve μ1 L cs R [] V := ⟨⟨hI1, v2.fr f1 (by decide +kernel), v3.fr f1 (by decide +kernel), v4.fr f1 (by decide +kernel), hE1⟩, ⟨fun x hx => (m2.1 x hx).gr (f1.gr (by decide +kernel)), fun e he u x hu => (m2.2 e (by simp [he]) u x hu).gr (f1.gr (by decide +kernel))⟩, by rw [f1.v (by decide +kernel)]; exact m3, fun ht => ⟨by rw [x69]; exact (m4 ht).1, (m4 ht).2.fr f1 (by decide +kernel)⟩, fun ht => ⟨by rw [x69]; exact (m5 ht).1, (m5 ht).2⟩⟩
      have hMq := hM1.fr hIq fq n1 n2 n3
      have n1' := n1
      simp only [Bool.and_eq_true] at n1'
      have gq : Gr μ q := (f1.gr (by decide +kernel)).tr (fq.gr n1'.1.1.1)
      have e56 : nv q 56 = nv μ 56 := by rw [(fq.heq n1'.1.1.1).1, (f1.heq (by decide +kernel)).1]
      have e89 : nv q 89 = nv μ 89 := by rw [fq.n n6, f1.n (by decide +kernel)]
      refine ⟨hIq, hfg, Or.inr ⟨L, cs, R, [], V, Sp4 bh L + 330 * cl t q, ⟨hMq, Ok.gr gq _ _ _ _ _ hO, hbd.mono (by omega), (h4.fr f1 (by decide +kernel)).fr fq n4, hD, rfl, by rw [hcl]; omega, by rw [fq.v n5, f1.v (by decide +kernel)]; exact h8, by rw [fq.v n5, f1.v (by decide +kernel), hcl]; omega⟩, by rw [hcl]; omega⟩⟩
    have hlast : ∃ g : Fm, R.getLast? = some g ∧ g.2 = 0 := by
      obtain ⟨⟨g, g1, g2⟩, _⟩ := h5
      cases R with
      | nil => exact absurd rfl hne
      | cons f2 R => rw [List.getLast?_cons_cons] at g1; exact ⟨g, g1, g2⟩
    refine ok_ite (fun h69 => ok_bv (fun q eq => ok_some ?_)) (fun h69 => ok_bv (fun q eq => ok_some ?_))
    · have ht : t = false := by
        cases t
        · rfl
        · exact absurd (by rw [← x69]; exact h69) (m4 rfl).1
      subst ht
      have fq : Fr [(0, 0, 76)] true μ1 q := by rw [eq]; exact Fr.put Fr.rf (by decide +kernel)
      obtain ⟨d1, d2, d3, d4⟩ := h5.2.2 rfl
      simp only [List.length_cons] at d1 d2
      have x76 : μ1.1 0 76 = μ.1 0 76 := f1.v (by decide +kernel)
      refine fin _ q fq (by rw [eq]; exact IM_F hI1 (rtm_0_76 _)) (by decide +kernel) (by decide +kernel) (by decide +kernel) (by decide +kernel) (by decide +kernel) (by decide +kernel) ((fg_mono f1 (by decide +kernel) false).trans (Fr.mono fq (by decide +kernel) (fun h => h))) ⟨hlast, fun h => absurd h (by decide), fun _ => ⟨?_, by omega, ?_, ?_⟩⟩ ?_
      · rw [eq, sF_v, x76, ti_sub (by omega) (by omega), e1]; omega
      · rw [fq.v (by decide +kernel), f1.v (by decide +kernel)]; exact d3
      · rw [fq.v (by decide +kernel), f1.v (by decide +kernel)]; exact d4
      · show 100 - nv q 75 = 100 - nv μ 75
        rw [fq.n (by decide +kernel), f1.n (by decide +kernel)]
    · have ht : t = true := by
        cases t
        · exact absurd (by rw [x69]; exact (m5 rfl).1) h69
        · rfl
      subst ht
      have fq : Fr [(0, 0, 92)] true μ1 q := by rw [eq]; exact Fr.put Fr.rf (by decide +kernel)
      obtain ⟨d1, d2, d3, d4, d5, d6, d7⟩ := h5.2.1 rfl
      simp only [List.length_cons] at d1 d2
      have x92 : μ1.1 0 92 = μ.1 0 92 := f1.v (by decide +kernel)
      refine fin _ q fq (by rw [eq]; exact IM_F hI1 (rtm_0_92 _)) (by decide +kernel) (by decide +kernel) (by decide +kernel) (by decide +kernel) (by decide +kernel) (by decide +kernel) ((fg_mono f1 (by decide +kernel) true).trans (Fr.mono fq (by decide +kernel) (fun h => h))) ⟨hlast, fun _ => ⟨?_, by omega, ?_, ?_, (d5.fr f1 (by decide +kernel)).fr fq (by decide +kernel), ?_, ?_⟩, fun h => absurd h (by decide)⟩ ?_
      · rw [eq, sF_v, x92, ti_sub (by omega) (by omega), e1]; omega
      · rw [fq.v (by decide +kernel), f1.v (by decide +kernel)]; exact d3
      · rw [fq.v (by decide +kernel), f1.v (by decide +kernel)]; exact d4
      · rw [fq.v (by decide +kernel), f1.v (by decide +kernel)]; exact d6
      · rw [fq.v (by decide +kernel), f1.v (by decide +kernel), fq.n (by decide +kernel), f1.n (by decide +kernel)]; exact d7
      · show 200 - nv q 91 = 200 - nv μ 91
        rw [fq.n (by decide +kernel), f1.n (by decide +kernel)]
theorem g_bind {t : Bool} {b : Nat} {Vb : Nat → Prop} {ve : Nat} {th wo be bh : Nat → Int} {N : Nat} {μ : Mem} {p : Nat} {c : Int} {L : List Act} {cs : List Nat} {R : List Fm} {Zs : List Zc} {V : Nat → Prop} {T : Nat} (h : Jx t b Vb ve th wo be bh N μ (3, p, c) L cs R Zs V T) {a : Int32} (ha : a.toInt = (p : Int)) : ok (p_X12_bindVar a μ) (Sx t b Vb ve th wo be bh N μ T) := by
  have hJ := h
  obtain ⟨rl, hR, r31⟩ := h.room
  obtain ⟨h1, h2, h3, h4, h5, h6, h7, h8, h9, h10⟩ := h
  obtain ⟨hBq, hN⟩ := h4.bq
  have ea : a.toNatClampNeg = p := tn_of ha
  have e0 : (0 : Int32).toInt = 0 := by decide
  have e1 : (1 : Int32).toInt = 1 := by decide
  have e4 : (4 : Int32).toInt = 4 := by decide
  cases R with
  | nil => exact h2.elim
  | cons f R =>
    obtain ⟨ρ, c0⟩ := f
    obtain ⟨hc0, hcl⟩ := h2
    obtain ⟨⟨v, m, q, a1, a2, a3, a4, a5, a6, a7⟩, hlen, hnx⟩ : (∃ v m q : Nat, th p = 11 ∧ be p = 2 ∧ wo p = (v : Int) ∧ v < 14 ∧ q ≤ N ∧ Fo th wo be (Dm ρ) 1 (p + 1) m ∧ Fo th wo be (Sp (Dm ρ) v) 1 m q) ∧ c0 + 1 ≤ cs.length ∧ ∀ x, Ok th wo be N μ L ((ρ, c0) :: R) (x :: cs.drop 1) Zs V := by
      rcases hcl with ⟨h, _⟩ | ⟨h, _⟩ | ⟨h, _⟩ | ⟨_, b1, b2, b3⟩ | ⟨h, _⟩ | ⟨h, _⟩ | ⟨h, _⟩ | ⟨h, _⟩
      rotate_left 3
      · exact ⟨b1, b2, b3⟩
      all_goals exact absurd h (by decide)
    cases cs with
    | nil => simp at hlen
    | cons x cs =>
      simp only [List.drop_succ_cons, List.drop_zero] at hnx
      simp only [List.length_cons] at hlen
      have l1 := a6.le
      have l2 := a7.le
      have hb1 : bh (p + 1) = (m : Int) := hBq.at a6.sh (by omega)
      have hb2 : bh m = (q : Int) := hBq.at a7.sh (by omega)
      have hbp : bh p = (q : Int) := hBq.at (Sh.cons (k := 2) a2 (a6.sh.app a7.sh) Sh.nil) (by omega)
      obtain ⟨P1, P2, P3, P4, P5, P6, P7⟩ := h4
      rw [p_X12_bindVar_eq]
      refine ok_bd h1.gone ?_
      rintro r2 μ1 ⟨g1, g2, g3, g4, g5, g6, g7, g8⟩
      have g1 : r2.toInt = (x : Int) := g1
      have g2 : Fr (fd t) true μ μ1 := g2
      have g3 : Gr μ μ1 := g3
      have g4 : nv μ1 56 = nv μ 56 := g4
      have g5 : nv μ1 89 = nv μ 89 := g5
      have g6 : μ1.1 0 73 = μ.1 0 73 := g6
      have g7 : Gd μ1 V x := g7
      have g8 : Mx t b Vb ve μ1 L cs ((ρ, c0) :: R) Zs V := g8
      have nd : nD (fd t) = true := by cases t <;> decide +kernel
      have np : nP (fd t) = true := by cases t <;> decide +kernel
      have x8 : ∀ ν : Mem, PA th wo be bh N ν → (ν.1 8 p).toInt = (v : Int) := fun ν hν => by
        rw [← a3, ← hν.2.1]; rfl
      have hPA1 : PA th wo be bh N μ1 := (show PA th wo be bh N μ from ⟨P1, P2, P3, P4, P5, P6, P7⟩).fr g2 np
      obtain ⟨bi1, bi2⟩ := base_ix g8.1.2.2.2.2 (x8 μ1 hPA1) a4
      have b8 : inb a 800 = true := inb_iff.mpr (by omega)
      rw [ea]
      refine ok_gd b8 (ok_gd b8 (ok_gd bi2 ?_))
      rw [bi1]
      refine ok_bw (g8.push (by omega) (w := 4) (a := v) (c := (μ1.1 41 (14 * R.length + v)).toInt) e4 (x8 μ1 hPA1) rfl) ?_
      rintro μ3 ⟨f3, hM3⟩
      have hPA3 := hPA1.fr f3 (by decide +kernel)
      obtain ⟨bj1, bj2⟩ := base_ix hM3.1.2.2.2.2 (x8 μ3 hPA3) a4
      rw [bj1]
      refine ok_gd b8 (ok_gd bj2 (ok_bv (fun μ5 em5 => ?_)))
      have f5 : Fr [(1, 41, 0)] true μ3 μ5 := by rw [em5]; exact Fr.puta Fr.rf (by decide +kernel)
      obtain ⟨m1, m2, m3, m4, m5⟩ := hM3
      obtain ⟨v1, v2, v3, v4, v5⟩ := m1
      have hI5 : IM μ5 := by rw [em5]; exact IM_F v1 (rtma_41 _ _)
      have hE5 : EV μ5 ((ud ρ v (some x), c0) :: R) := by rw [em5]; exact ev_set v5 a4 (Or.inr ⟨x, rfl, g1⟩)
      have G5 := f5.gr (by decide +kernel)
      have G3 := f3.gr (by decide +kernel)
      have hL5 : Lv μ5 V cs ((ud ρ v (some x), c0) :: R) := by
        refine ⟨fun y hy => (m2.1 y hy).gr G5, fun e he u y hu => ?_⟩
        rcases List.mem_cons.mp he with e1 | e1
        · rw [e1] at hu
          have hu : ud ρ v (some x) u = some y := hu
          unfold ud at hu
          by_cases e2 : u = v
          · have : x = y := by simpa [e2] using hu
            rw [← this]; exact (g7.gr G3).gr G5
          · have hu : ρ u = some y := by simpa [e2] using hu
            exact (m2.2 (ρ, c0) (by simp) u y hu).gr G5
        · exact (m2.2 e (by simp [e1]) u y hu).gr G5
      have hM5 : Mx t b Vb ve μ5 ((4, v, (μ1.1 41 (14 * R.length + v)).toInt) :: L) cs ((ud ρ v (some x), c0) :: R) Zs V := ⟨⟨hI5, v2.fr f5 (by decide +kernel), v3.fr f5 (by decide +kernel), v4.fr f5 (by decide +kernel), hE5⟩, hL5, by rw [f5.v (by decide +kernel)]; exact m3, fun ht => ⟨by rw [f5.v (by decide +kernel)]; exact (m4 ht).1, (m4 ht).2.fr f5 (by decide +kernel)⟩, fun ht => ⟨by rw [f5.v (by decide +kernel)]; exact (m5 ht).1, (m5 ht).2⟩⟩
      have t1 : (a + 1).toInt = ((p + 1 : Nat) : Int) := by rw [ti_add (by omega) (by omega), e1, ha]; omega
      have n1 : (a + 1).toNatClampNeg = p + 1 := tn_of t1
      rw [n1]
      have hPA5 := hPA3.fr f5 (by decide +kernel)
      have x10 : (μ5.1 10 (p + 1)).toInt = (m : Int) := by rw [← hb1, ← hPA5.2.2.2.1]; rfl
      refine ok_gd (inb_iff.mpr (by omega)) (ok_bw (hM5.push (by simp; omega) (w := 0) (a := m) (c := 0) e0 x10 e0) ?_)
      rintro μ6 ⟨f6, hM6⟩
      have G6 := f6.gr (by decide +kernel)
      have F16 : Fr (frPu ++ [(1, 41, 0)]) true μ1 μ6 := ((Fr.mono f3 (by decide +kernel) (fun h => h)).trans (Fr.mono f5 (by decide +kernel) (fun h => h))).trans (Fr.mono f6 (by decide +kernel) (fun h => h))
      have hfg : Fr (fg t) true μ μ6 := (fd_fg g2).trans (fg_mono F16 (by decide +kernel) t)
      have hpot : pot bh (3, p, c) = 1 + (q - m) := by simp [pot, hbp, hb1]
      have hstp : stp bh (3, p, c) = 2 + 4 * (q - m) := by simp [stp, hbp, hb1]
      have hS : Sp4 bh ((3, p, c) :: L) = 2 + 4 * (q - m) + Sp4 bh L := by show stp bh _ + _ = _; rw [hstp]
      have hbd := h3.head (by simp)
      rw [hpot] at hbd
      have hsz : sz bh m = q - m := by unfold sz; rw [hb2]; omega
      have hold : (μ1.1 41 (14 * R.length + v)).toInt = iv μ1 41 (14 * R.length + v) := rfl
      have hOk : Ok th wo be N μ1 ((0, m, 0) :: (4, v, (μ1.1 41 (14 * R.length + v)).toInt) :: L) ((ud ρ v (some x), c0) :: R) cs Zs V := by
        refine ⟨by omega, Or.inl ⟨rfl, q, a5, a7.mono _ (fun u hu => ?_), fun z => ⟨by simp; omega, Or.inr (Or.inr (Or.inr (Or.inr (Or.inl ⟨rfl, a4, ρ v, ?_, ?_⟩))))⟩⟩⟩
        · rcases hu with ⟨y, hy⟩ | hu
          · by_cases e2 : u = v
            · exact ⟨x, by unfold ud; rw [if_pos e2]⟩
            · exact ⟨y, by unfold ud; rw [if_neg e2]; exact hy⟩
          · exact ⟨x, by unfold ud; rw [if_pos hu]⟩
        · cases hρ : ρ v with
          | none => exact Or.inl rfl
          | some y =>
            refine Or.inr ⟨y, rfl, ?_, g8.2.1.2 (ρ, c0) (by simp) v y hρ⟩
            rw [hold]; exact (g8.1.2.2.2.2.2.2.1 v y hρ).2
        · rw [ud_ud]; exact Ok.gr g3 _ _ _ _ _ (hnx z)
      have G16 : Gr μ1 μ6 := (G3.tr G5).tr G6
      refine ok_some ⟨hM6.1.1, hfg, Or.inr ⟨_, cs, _, Zs, V, Sp4 bh ((0, m, 0) :: (4, v, (μ1.1 41 (14 * R.length + v)).toInt) :: L) + 330 * cl t μ6, ⟨hM6, Ok.gr G16 _ _ _ _ _ hOk, ?_, hPA5.fr f6 (by decide +kernel), (((h5.fr g2 nd).fr F16 (by decide +kernel)).env rfl), rfl, ?_, ?_, ?_⟩, ?_⟩⟩
      · refine Bd.env _ _ _ (ρ, c0) _ rfl ?_
        refine Bd.app (A := [(0, m, 0), (4, v, (μ1.1 41 (14 * R.length + v)).toInt)]) ?_ (hbd.mono ?_)
        · intro t ht
          rcases List.mem_cons.mp ht with e | ht
          · rw [e]; simp
          · have : t = (4, v, (μ1.1 41 (14 * R.length + v)).toInt) := by simpa using ht
            rw [this]; simp
        · simp [pot, hsz]; omega
      all_goals have ecl : cl t μ6 = cl t μ := by rw [cl_fr F16 (by decide +kernel), cl_fr g2 nd]
      all_goals have hSn : Sp4 bh ((0, m, 0) :: (4, v, (μ1.1 41 (14 * R.length + v)).toInt) :: L) = 4 * (q - m) + (1 + Sp4 bh L) := by simp [Sp4, stp, hsz]
      all_goals have e56 : nv μ6 56 = nv μ 56 := by rw [(F16.heq (by decide +kernel)).1, g4]
      all_goals have e89 : nv μ6 89 = nv μ 89 := by rw [F16.n (by decide +kernel), g5]
      all_goals have e73 : μ6.1 0 73 = μ.1 0 73 := by rw [F16.v (by decide +kernel), g6]
      · rw [hSn, ecl]; omega
      · rw [e73]; exact h8
      · rw [e73, hSn, ecl]; omega
      · rw [hSn, ecl]; omega
