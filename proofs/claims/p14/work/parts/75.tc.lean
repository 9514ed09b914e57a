/-! CALLS, AS STEPS -/
theorem sx_come {b : Nat} {Vb : Nat → Prop} {ve : Nat} {th wo be bh : Nat → Int} {N : Nat} {μ q : Mem} {p : Nat} {c : Int} {L : List Act} {cs cs2 : List Nat} {R : List Fm} {Zs : List Zc} {V V2 : Nat → Prop} {T : Nat} (h : Jx true b Vb ve th wo be bh N μ (1, p, c) L cs R Zs V T) (hcs : cs2.length ≤ cs.length) (hO : ∀ x, Ok th wo be N μ L R (x :: cs2) Zs V) (F1 : Fr fgT true μ q) (hVV : ∀ u, V u → V2 u) {z : Nat} (hM : Mx true b Vb ve q L (z :: cs2) R Zs V2) (g : Gr μ q) (hh : nv q 56 + nv μ 89 ≤ nv μ 56 + 1 + nv q 89) (hD : Dp true q R) (hc : cl true q = cl true μ) : Sx true b Vb ve th wo be bh N μ T q := by
  have hS : Sp4 bh ((1, p, c) :: L) = 1 + Sp4 bh L := by show stp bh _ + _ = _; simp [stp]
  refine sx_mk h F1 F1 (by decide +kernel) hM (Ok.gr g _ _ _ _ _ (Ok.mono _ _ _ _ _ _ hVV (hO z))) ?_ hD hc (by omega) (by omega) (F1.v (by decide +kernel))
  obtain ⟨h1, h2, h3, _⟩ := h
  cases R with
  | nil => exact h3.elim
  | cons f R =>
    refine (h3.head (by simp)).mono ?_
    have hp1 : pot bh (1, p, c) = 1 := by simp [pot]
    simp only [List.length_cons]; omega
def fcl (t : Bool) : List (Nat × Nat × Nat) := if t then fdT ++ [(1, 45, 0)] else fdR ++ [(1, 45, 0)]
theorem fcl_fg {t : Bool} {μ μ' : Mem} (f : Fr (fcl t) true μ μ') : Fr (fg t) true μ μ' := by
  cases t
  · exact Fr.mono f (by decide +kernel) (fun h => h)
  · exact Fr.mono f (by decide +kernel) (fun h => h)
theorem fd_fcl {t : Bool} {μ μ' : Mem} (f : Fr (fd t) true μ μ') : Fr (fcl t) true μ μ' := by
  cases t
  · exact Fr.mono f (by decide +kernel) (fun h => h)
  · exact Fr.mono f (by decide +kernel) (fun h => h)
/-- the arguments are taken -/
def Cl (t : Bool) (b : Nat) (Vb : Nat → Prop) (ve : Nat) (μ μ2 : Mem) (L : List Act) (cs2 : List Nat) (R : List Fm) (Zs : List Zc) (V : Nat → Prop) (j : Nat) (l : List Nat) : Prop :=
  Fr (fcl t) true μ μ2 ∧ Gr μ μ2 ∧ nv μ2 56 = nv μ 56 ∧ nv μ2 89 = nv μ 89 ∧ μ2.1 0 73 = μ.1 0 73 ∧ Mx t b Vb ve μ2 L cs2 R Zs V ∧ Lst (iv μ2 45) j l ∧ ∀ x, x ∈ l → Gd μ2 V x
theorem dp_last {R : List Fm} (h : R ≠ []) (f : Fm) : (f :: R).getLast? = R.getLast? := by
  cases R with
  | nil => exact absurd rfl h
  | cons a R => rfl
set_option maxHeartbeats 2000000 in
theorem k_thinkCall {b : Nat} {Vb : Nat → Prop} {ve : Nat} {th wo be bh : Nat → Int} {N : Nat} {μ μ2 : Mem} {p : Nat} {c : Int} {L : List Act} {cs cs2 : List Nat} {R : List Fm} {Zs : List Zc} {V : Nat → Prop} {T : Nat} (h : Jx true b Vb ve th wo be bh N μ (1, p, c) L cs R Zs V T) (hcs : cs2.length ≤ cs.length) (hO : ∀ x, Ok th wo be N μ L R (x :: cs2) Zs V) {l : List Nat} (hC : Cl true b Vb ve μ μ2 L cs2 R Zs V 0 l) (hl5 : l.length ≤ 5) {a1 a2 : Int32} (h2 : a2.toInt = (l.length : Int)) (h1 : a1 = -1 ∨ ∃ f : Nat, a1.toInt = (f : Int) ∧ f < nv μ2 17 ∧ μ2.1 3 f = a2) : ok (p_X12_thinkCall a1 a2 μ2) (Sx true b Vb ve th wo be bh N μ T) := by
  have hJ := h
  obtain ⟨rl, hRm, r31⟩ := h.room
  obtain ⟨j1, j2, j3, j4, j5, j6, j7, j8, j9, j10⟩ := h
  obtain ⟨F2, G2, e56, e89, e73, hM2, hl1, hl3⟩ := hC
  have hD2 : Dp true μ2 R := j5.fr F2 (by decide +kernel)
  have hc2 : cl true μ2 = cl true μ := cl_fr F2 (by decide +kernel)
  have Fg2 : Fr fgT true μ μ2 := fcl_fg F2
  have e1 : (1 : Int32).toInt = 1 := by decide
  have hRm2 : Rm μ2 cs2 := by
    obtain ⟨r1, r2, r3, r4⟩ := hRm
    exact ⟨by omega, by omega, by rw [e73]; exact r3, by rw [e73]; exact r4⟩
  rw [p_X12_thinkCall_eq]
  refine ok_ite (fun hm1 => ?_) (fun hm1 => ?_)
  · -- none
    have hrm := (hM2.2.2.2.1 rfl).2.room hM2.1.1
    refine ok_mono (em_instr hM2 (k := 12) (h := 1) (fun r μ12 c1 c2 c3 c4 c5 => ?_)) ?_
    · have hb : ((1 : Int32) != 0) = true := by decide
      rw [hb] at c5
      have e12 : (12 : Int32).toInt = 12 := by decide
      have c5' := c5
      obtain ⟨i1, i2, i3, i4, i5, i6, i7, i8, i9, i10, i11, i12, i13, i14, i15, i16⟩ := c5
      rw [e12] at i6
      refine em_tail hM2 hRm2 c2 (frIn_T c3) c4 (c3.gr (by decide +kernel)) (c3.heq (by decide +kernel)).1 (c3.v (by decide +kernel)) (c3.v (by decide +kernel)) c5' ⟨fun _ => ?_, by rw [i8]; simp, by rw [i8]; simp, nv μ2 88, i7, Or.inr (Or.inl i6)⟩ (by decide) (by simp) c1 (by omega)
      rw [(i4 rfl).1]; omega
    · rintro q ⟨q1, q2, q3⟩
      have q2 : Fr fdT true μ2 q := q2
      rcases q3 with q3 | ⟨z, V2, hVV, m, g, b1, b2, w1, w2⟩
      · exact ⟨q1, Fg2.trans (Fr.mono q2 (by decide +kernel) (fun h => h)), Or.inl ⟨q3.1, fun h => absurd h (by decide)⟩⟩
      · exact sx_come hJ hcs hO (Fg2.trans (Fr.mono q2 (by decide +kernel) (fun h => h))) hVV m (G2.tr g) (by omega) (hD2.fr q2 (by decide +kernel)) (by rw [cl_fr q2 (by decide +kernel), hc2])
  · obtain ⟨f, f1, f2, f3⟩ := h1.resolve_left hm1
    have hl2 : iv μ2 3 f = (l.length : Int) := by unfold iv; rw [f3]; exact h2
    have hDt := hD2.2.1 rfl
    obtain ⟨d1, d2, d3, d4, d5, d6, d7⟩ := hDt
    have lv : ok (bw (p_X12_leaveCall a1 a2 μ2) (fun μ6 => some μ6)) (Sx true b Vb ve th wo be bh N μ T) := by
      refine ok_bw (k_leaveCall hM2 hRm2 d5 ⟨d6, d7⟩ f2 hl1 hl5 hl2 hl3 f1 h2) ?_
      rintro q ⟨q1, q2, q3⟩
      have Fq : Fr fgT true μ q := Fg2.trans (Fr.mono q2 (by decide +kernel) (fun h => h))
      rcases q3 with q3 | ⟨z, V2, hVV, m, g, b1, b2, vp, v110⟩
      · exact ok_some ⟨q1, Fq, Or.inl ⟨q3, fun h => absurd h (by decide)⟩⟩
      · refine ok_some (sx_come hJ hcs hO Fq hVV m (G2.tr g) (by omega) ⟨hD2.1, fun _ => ?_, fun h => absurd h (by decide)⟩ ?_)
        · rw [q2.v (k := 92) (by decide +kernel), q2.v (k := 91) (by decide +kernel), q2.v (k := 111) (by decide +kernel)]
          exact ⟨d1, d2, d3, d4, vp, d6, by omega⟩
        · rw [← hc2]; unfold cl; rw [q2.n (k := 91) (by decide +kernel), q2.n (k := 75) (by decide +kernel)]
    refine ok_ite (fun h90 => ok_gd (by decide) (ok_ite (fun _ => lv) (fun hle => ok_ite (fun _ => ?_) (fun h200 => ?_)))) (fun _ => lv)
    · refine ok_bv (fun μ13 em => ok_some ⟨by rw [em]; exact IM_F hM2.1.1 (rtm_0_68 _), ?_, Or.inl ⟨?_, fun h => absurd h (by decide)⟩⟩)
      · have f13 : Fr [(0, 0, 68)] true μ2 μ13 := by rw [em]; exact Fr.put Fr.rf (by decide +kernel)
        exact Fg2.trans (Fr.mono f13 (by decide +kernel) (fun h => h))
      · rw [em, sF_v]; decide
    · have hZ : Zs = [] := by
        have := (hM2.2.2.2.1 rfl).2.2.2.2.1
        rw [h90] at this
        have e0 : (0 : Int32).toInt = 0 := by decide
        rw [e0] at this
        exact List.length_eq_zero_iff.mp (by omega)
      subst hZ
      have e200 : (200 : Int32).toInt = 200 := by decide
      have h200 : (μ2.1 0 91).toInt ≠ 200 := fun h => h200 (ti_eq.mpr (by rw [h, e200]))
      have hr29 : iv μ2 29 0 ≤ 12 := by rw [F2.a (by decide +kernel)]; exact j4.2.2.2.2.2.2.2
      have h0 : (0 : Int32).toNatClampNeg = 0 := by decide
      rw [ti_le, h0] at hle
      have hle : ¬ iv μ2 29 0 ≤ (μ2.1 0 92).toInt := hle
      refine ok_bv (fun μ9 em9 => ok_bv (fun μ10 em10 => ?_))
      have f9 : Fr [(0, 0, 91), (0, 0, 92)] true μ2 μ9 := by rw [em9]; exact Fr.put Fr.rf (by decide +kernel)
      have f10 : Fr [(0, 0, 91), (0, 0, 92)] true μ2 μ10 := by rw [em10]; exact Fr.put f9 (by decide +kernel)
      have hI10 : IM μ10 := by rw [em10]; refine IM_F (by rw [em9]; exact IM_F hM2.1.1 (rtm_0_91 _)) (rtm_0_92 _)
      have x91 : (μ10.1 0 91).toInt = (μ2.1 0 91).toInt + 1 := by rw [em10, sF_k (by decide), em9, sF_v, ti_add (by omega) (by omega), e1]
      have x92 : (μ10.1 0 92).toInt = (μ2.1 0 92).toInt + 1 := by
        rw [em10, sF_v, em9, sF_k (by decide), ti_add (by omega) (by omega), e1]
      have hM10 := hM2.fr hI10 f10 (by decide +kernel) (by decide +kernel) (by decide +kernel)
      have G10 : Gr μ2 μ10 := f10.gr (by decide +kernel)
      have FF : Fr (fcl true ++ [(0, 0, 91), (0, 0, 92)]) true μ μ10 := (Fr.mono F2 (by decide +kernel) (fun h => h)).trans (Fr.mono f10 (by decide +kernel) (fun h => h))
      have n91 := ti_nat (a := μ2.1 0 91) (by omega)
      have n91' := ti_nat (a := μ10.1 0 91) (by omega)
      have hne : R ≠ [] := by
        intro e
        obtain ⟨⟨f', g1, g2⟩, _⟩ := hD2
        rw [e] at g1; exact absurd g1 (by simp)
      refine sx_enter hJ hcs hO FF (Fr.mono FF (by decide +kernel) (fun h => h)) (by decide +kernel) hM10 (G2.tr G10) (by rw [(f10.heq (by decide +kernel)).1]; exact e56) (by rw [f10.n (by decide +kernel)]; exact e89) (by rw [f10.v (by decide +kernel)]; exact e73) ?_ (by omega) (fun q f' fq => ⟨?_, fun _ => ?_, fun h => absurd h (by decide)⟩) f1 (by rw [f10.n (by decide +kernel)]; exact f2) (l := l) (by rw [f10.fe (by decide)]; exact hl1) (by rw [f10.a (by decide)]; exact hl2) (fun x hx => (hl3 x hx).gr G10) (fun q => rfl)
      · rw [← hc2]; unfold cl nv; simp only [if_true]; omega
      · rw [dp_last hne]; exact hD2.1
      · rw [fq.v (k := 92) (by decide +kernel), fq.v (k := 91) (by decide +kernel), fq.v (k := 111) (by decide +kernel), fq.n (k := 110) (by decide +kernel), f10.v (k := 111) (by decide +kernel), f10.n (k := 110) (by decide +kernel)]
        exact ⟨by rw [x92]; simp only [List.length_cons]; omega, by simp only [List.length_cons]; omega, by omega, by omega, (d5.fr f10 (by decide +kernel)).fr fq (by decide +kernel), d6, d7⟩
