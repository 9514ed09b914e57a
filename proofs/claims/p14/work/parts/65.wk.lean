/-! THE ACTS, ONE BY ONE -/
theorem sx_mk {t : Bool} {b : Nat} {Vb : Nat → Prop} {ve : Nat} {th wo be bh : Nat → Int} {N : Nat} {μ q : Mem} {A : Act} {L : List Act} {cs : List Nat} {R : List Fm} {Zs : List Zc} {V : Nat → Prop} {T : Nat} (h : Jx t b Vb ve th wo be bh N μ A L cs R Zs V T) {F : List (Nat × Nat × Nat)} (f : Fr F true μ q) (hf : Fr (fg t) true μ q) (np : nP F = true) {L2 : List Act} {cs2 : List Nat} {R2 : List Fm} {Z2 : List Zc} {V2 : Nat → Prop} (hM : Mx t b Vb ve q L2 cs2 R2 Z2 V2) (hO : Ok th wo be N q L2 R2 cs2 Z2 V2) (hB : Bd bh L2 0 R2 cs2.length) (hD : Dp t q R2) (hc : cl t q = cl t μ) (hS : Sp4 bh L2 < Sp4 bh (A :: L)) (hh : nv q 56 + nv μ 89 + Sp4 bh L2 ≤ nv μ 56 + nv q 89 + Sp4 bh (A :: L)) (e73 : q.1 0 73 = μ.1 0 73) : Sx t b Vb ve th wo be bh N μ T q := by
  obtain ⟨h1, h2, h3, h4, h5, h6, h7, h8, h9, h10⟩ := h
  refine ⟨hM.1.1, hf, Or.inr ⟨L2, cs2, R2, Z2, V2, Sp4 bh L2 + 330 * cl t q, ⟨hM, hO, hB, h4.fr f np, hD, rfl, by rw [hc]; omega, by rw [e73]; exact h8, by rw [e73, hc]; omega⟩, by rw [hc]; omega⟩⟩
theorem PA.bq {th wo be bh : Nat → Int} {N : Nat} {μ : Mem} (h : PA th wo be bh N μ) : Bq be bh N ∧ N ≤ 800 := by
  obtain ⟨P1, P2, P3, P4, P5, P6, P7⟩ := h
  refine ⟨fun r hr => ?_, by rw [← P5]; exact P6.1.1⟩
  rw [← P3, ← P4, ← P5]
  rw [← P5] at hr
  exact P6.2 r (Nat.zero_le _) hr
theorem stp_1 (bh : Nat → Int) (t : Act) : 1 ≤ stp bh t := by
  unfold stp sz
  split
  · omega
  · split
    · omega
    · split
      · omega
      · split <;> omega
set_option maxHeartbeats 2000000 in
theorem g_work {t : Bool} {b : Nat} {Vb : Nat → Prop} {ve : Nat} {th wo be bh : Nat → Int} {N : Nat} {μ : Mem} {p : Nat} {c : Int} {L : List Act} {cs : List Nat} {R : List Fm} {Zs : List Zc} {V : Nat → Prop} {T : Nat} (h : Jx t b Vb ve th wo be bh N μ (0, p, c) L cs R Zs V T) {a : Int32} (ha : a.toInt = (p : Int)) : ok (p_X12_work a μ) (Sx t b Vb ve th wo be bh N μ T) := by
  have hJ := h
  obtain ⟨rl, hR, r31⟩ := h.room
  obtain ⟨h1, h2, h3, h4, h5, h6, h7, h8, h9, h10⟩ := h
  obtain ⟨hBq, hN⟩ := h4.bq
  have ea : a.toNatClampNeg = p := tn_of ha
  have e0 : (0 : Int32).toInt = 0 := by decide
  have e1 : (1 : Int32).toInt = 1 := by decide
  cases R with
  | nil => exact h2.elim
  | cons f R =>
    obtain ⟨ρ, c0⟩ := f
    obtain ⟨hc0, hcl⟩ := h2
    obtain ⟨q, hqN, hFo, hnx⟩ : ∃ q, q ≤ N ∧ Fo th wo be (Dm ρ) 1 p q ∧ ∀ x, Ok th wo be N μ L ((ρ, c0) :: R) (x :: cs) Zs V := by
      rcases hcl with ⟨_, q, a1, a2, a3⟩ | ⟨h, _⟩ | ⟨h, _⟩ | ⟨h, _⟩ | ⟨h, _⟩ | ⟨h, _⟩ | ⟨h, _⟩ | ⟨h, _⟩
      · exact ⟨q, a1, a2, a3⟩
      all_goals exact absurd h (by decide)
    have hle := hFo.le
    have hbp : bh p = (q : Int) := hBq.at hFo.sh hqN
    have hszp : sz bh p = q - p := by unfold sz; rw [hbp]; omega
    have hpot : pot bh (0, p, c) = q - p := by unfold pot; rw [if_pos rfl]; exact hszp
    have hstp : stp bh (0, p, c) = 4 * (q - p) := by unfold stp; rw [if_pos rfl]; rw [← hszp]
    have hS : Sp4 bh ((0, p, c) :: L) = 4 * (q - p) + Sp4 bh L := by show stp bh _ + _ = _; rw [hstp]
    have hBd := h3.head (by simp)
    rw [hpot] at hBd
    obtain ⟨P1, P2, P3, P4, P5, P6, P7⟩ := h4
    have x7 : (μ.1 7 p).toInt = th p := by rw [← P1]; rfl
    have x8 : (μ.1 8 p).toInt = wo p := by rw [← P2]; rfl
    have rm := hR
    obtain ⟨R1, R2, R3, R4⟩ := hR
    have g89 := rm_89 h1.1.1
    rw [p_X12_work_eq, ea]
    refine ok_gd (inb_iff.mpr (by omega)) (ok_bv (fun v1 ev1 => ?_))
    have tv : v1.toInt = th p := by rw [ev1]; exact x7
    have ne : ∀ (k : Int32), th p ≠ k.toInt → ¬ v1 = k := fun k hk e => hk (by rw [← tv, e])
    have eq : ∀ (k : Int32), th p = k.toInt → v1 = k := fun k hk => ti_eq.mpr (by rw [tv, hk])
    have nd : nD frPu = true := by decide +kernel
    have np : nP frPu = true := by decide +kernel
    have mkp : ∀ (P : List Act) (μ2 : Mem), Fr frPu true μ μ2 → Mx t b Vb ve μ2 (P ++ L) cs ((ρ, c0) :: R) Zs V → (∀ t, t ∈ P → t.1 ≠ 5) → (P.map (pot bh)).sum ≤ q - p → Sp4 bh P < 4 * (q - p) → Ok th wo be N μ (P ++ L) ((ρ, c0) :: R) cs Zs V → Sx t b Vb ve th wo be bh N μ T μ2 := by
      intro P μ2 f2 hM2 hP5 hps hss hO
      have g2 := f2.gr (by decide +kernel)
      refine sx_mk hJ f2 (fg_mono f2 (by decide +kernel) t) np hM2 (Ok.gr g2 _ _ _ _ _ hO) (Bd.app hP5 (hBd.mono (by omega))) (h5.fr f2 nd) (cl_fr f2 nd) (by rw [hS, Sp4_app]; omega) ?_ (f2.v (by decide +kernel))
      rw [(f2.heq (by decide +kernel)).1, f2.n (by decide +kernel), hS, Sp4_app]; omega
    rcases hFo.inv with ⟨S', p', _, e, _⟩ | ⟨S', n', p', q', rfl, e, rfl, rfl, tt, hb, x⟩ | ⟨S', n', p', q', v, rfl, e, rfl, rfl, tt, hw, hv, hs, hb, x⟩ | ⟨S', n', p', m, q', k, rfl, e, rfl, rfl, tt, hb, x, y⟩ | ⟨S', n', p', m, q', rfl, e, rfl, rfl, tt, hb, x, y⟩ | ⟨S', n', p', aa, m, q', v, rfl, e, rfl, rfl, tt, hw, hv, hb, x, y, z⟩
    · omega
    · -- a number
      have hst : ok (p_X12_work_b16 a v1 μ) (Sx t b Vb ve th wo be bh N μ T) := by
        rw [p_X12_work_b16_eq]
        refine ok_gd (inb_iff.mpr (by omega)) (ok_mono (po_node (fun u h => h) h1 Fr.rf Gr.rf rfl (Nat.le_refl _) (by omega) (by omega) (by omega) (by rw [tv]; exact tt)) (fun q hq => sx_po hJ (by simp) hnx (by rw [hpot]; omega) (by rw [hstp]; omega) hq))
      rcases tt with tt | tt
      · rw [if_pos (eq 0 tt)]; exact hst
      · rw [if_neg (ne 0 (by rw [tt]; decide)), if_pos (eq 1 tt)]; exact hst
    · -- a var
      rw [if_neg (ne 0 (by rw [tt]; decide)), if_neg (ne 1 (by rw [tt]; decide)), if_pos (eq 4 tt)]
      obtain ⟨xv, hxv⟩ := hs
      obtain ⟨v1', v2', v3', v4', E1, E2, E3, E4⟩ := h1.1
      obtain ⟨E5, E6⟩ := E3 v xv hxv
      simp only [List.length_cons] at E1 r31
      have tb : (μ.1 0 67 + μ.1 8 p).toInt = 14 * (R.length : Int) + v := by
        rw [ti_add (by rw [x8, hw]; omega) (by rw [x8, hw]; omega), x8, hw]; omega
      have nb : (μ.1 0 67 + μ.1 8 p).toNatClampNeg = 14 * R.length + v := tn_of (by omega)
      rw [nb]
      refine ok_gd (inb_iff.mpr (by omega)) (ok_gd (inb_iff.mpr (by omega)) ?_)
      have hgx : Gd μ V xv := h1.2.1.2 (ρ, c0) (by simp) v xv hxv
      refine ok_mono (po_come (fun u h => h) h1 Fr.rf Gr.rf (by omega) (by omega) (by omega) (x := xv) E6 hgx) (fun q hq => sx_po hJ (by simp) hnx (by rw [hpot]; omega) (by rw [hstp]; omega) hq)
    · -- what is done with values
      have ht5 : th p ≠ 0 ∧ th p ≠ 1 ∧ th p ≠ 4 ∧ th p ≠ 7 ∧ th p ≠ 11 := by unfold Kd at tt; omega
      have hk5 : k ≤ 5 := by unfold Kd at tt; omega
      rw [if_neg (ne 0 (by rw [e0]; omega)), if_neg (ne 1 (by rw [e1]; omega)), if_neg (ne 4 (by show th p ≠ 4; omega)), if_neg (ne 7 (by show th p ≠ 7; omega)), if_neg (ne 11 (by show th p ≠ 11; omega))]
      have en : n' = 0 := by omega
      subst en
      have hyz : m = q := y.sh.zero
      subst hyz
      have lx := x.le
      refine ok_bw (h1.push (by omega) (w := 1) (a := p) (c := 0) e1 ha e0) ?_
      rintro μ16 ⟨f16, hM16⟩
      have hP16 : PA th wo be bh N μ16 := (show PA th wo be bh N μ from ⟨P1, P2, P3, P4, P5, P6, P7⟩).fr f16 np
      refine ok_bw (k_workBelow hM16 hP16 (by simp; omega) ha (by omega) hk5 hb x (by omega)) ?_
      rintro μ18 ⟨f18, hM18⟩
      refine ok_some ?_
      obtain ⟨kp1, kp2⟩ := kids_pot hBq k (p + 1) m (by omega) x
      have := mkp ((kids bh (p + 1) k).map wk ++ [(1, p, 0)]) μ18 (f16.trans f18) (by rw [List.append_assoc]; exact hM18) ?_ ?_ ?_ ?_
      · exact this
      · intro t ht
        rcases List.mem_append.mp ht with ht | ht
        · obtain ⟨y, _, rfl⟩ := List.mem_map.mp ht
          simp [wk]
        · have : t = (1, p, 0) := by simpa using ht
          rw [this]; simp
      · rw [List.map_append, List.sum_append, kp1]
        have : (([(1, p, 0)] : List Act).map (pot bh)).sum = 1 := by simp [pot]
        omega
      · rw [Sp4_app, kp2]
        have : Sp4 bh [(1, p, 0)] = 1 := by simp [Sp4, stp]
        omega
      · rw [List.append_assoc]
        refine ok_kids hBq k (p + 1) m cs (by omega) hc0 x (fun ys hys => ?_)
        refine ⟨by simp; omega, Or.inr (Or.inl ⟨rfl, by omega, k, tt, hb, by simp; omega, fun z => ?_⟩)⟩
        rw [List.drop_append_of_le_length (by omega), List.drop_of_length_le (by omega), List.nil_append]
        exact hnx z
    · -- a choice
      have en : n' = 0 := by omega
      subst en
      have hyz : m = q := y.sh.zero
      subst hyz
      rw [if_neg (ne 0 (by rw [tt]; decide)), if_neg (ne 1 (by rw [tt]; decide)), if_neg (ne 4 (by rw [tt]; decide)), if_pos (eq 7 tt), p_X12_work_b74_eq, if_pos (eq 7 tt), p_X12_work_b86_eq]
      obtain ⟨m1, f1, f2⟩ := x.one
      have l1 := f1.le
      have l2 := f2.le
      have hb1 : bh (p + 1) = (m1 : Int) := hBq.at f1.sh (by omega)
      refine ok_bw (h1.push (by omega) (w := 2) (a := p) (c := 0) (by decide) ha e0) ?_
      rintro μ11 ⟨f11, hM11⟩
      refine ok_bw (hM11.push (by simp; omega) (w := 0) (a := p + 1) (c := 0) e0 (by rw [ti_add (by omega) (by omega), e1, ha]; omega) e0) ?_
      rintro μ13 ⟨f13, hM13⟩
      refine ok_some (mkp [(0, p + 1, 0), (2, p, 0)] μ13 (f11.trans f13) hM13 ?_ ?_ ?_ ?_)
      · intro t ht
        rcases List.mem_cons.mp ht with e | ht
        · rw [e]; simp
        · have : t = (2, p, 0) := by simpa using ht
          rw [this]; simp
      · simp [pot, sz, hb1, hbp]; omega
      · simp [Sp4, stp, sz, hb1, hbp]; omega
      · refine ⟨hc0, Or.inl ⟨rfl, m1, by omega, f1, fun z => ⟨by simp; omega, Or.inr (Or.inr (Or.inl ⟨rfl, tt, ⟨m, by omega, hb, x⟩, by simp; omega, fun z2 => ?_⟩))⟩⟩⟩
        simp only [List.drop_succ_cons, List.drop_zero]
        exact hnx z2
    · -- a let
      have en : n' = 0 := by omega
      subst en
      have hyz : m = q := z.sh.zero
      subst hyz
      rw [if_neg (ne 0 (by rw [tt]; decide)), if_neg (ne 1 (by rw [tt]; decide)), if_neg (ne 4 (by rw [tt]; decide)), if_neg (ne 7 (by rw [tt]; decide)), if_pos (eq 11 tt), p_X12_work_b74_eq, if_neg (ne 7 (by rw [tt]; decide)), p_X12_work_b86_eq]
      have l1 := x.le
      have l2 := y.le
      have hb1 : bh (p + 1) = (aa : Int) := hBq.at x.sh (by omega)
      refine ok_bw (h1.push (by omega) (w := 3) (a := p) (c := 0) (by decide) ha e0) ?_
      rintro μ11 ⟨f11, hM11⟩
      refine ok_bw (hM11.push (by simp; omega) (w := 0) (a := p + 1) (c := 0) e0 (by rw [ti_add (by omega) (by omega), e1, ha]; omega) e0) ?_
      rintro μ13 ⟨f13, hM13⟩
      refine ok_some (mkp [(0, p + 1, 0), (3, p, 0)] μ13 (f11.trans f13) hM13 ?_ ?_ ?_ ?_)
      · intro t ht
        rcases List.mem_cons.mp ht with e | ht
        · rw [e]; simp
        · have : t = (3, p, 0) := by simpa using ht
          rw [this]; simp
      · simp [pot, sz, hb1, hbp]; omega
      · simp [Sp4, stp, sz, hb1, hbp]; omega
      · refine ⟨hc0, Or.inl ⟨rfl, aa, by omega, x, fun z1 => ⟨by simp; omega, Or.inr (Or.inr (Or.inr (Or.inl ⟨rfl, ⟨v, aa, m, tt, hb, hw, hv, by omega, x, y⟩, by simp; omega, fun z2 => ?_⟩)))⟩⟩⟩
        simp only [List.drop_succ_cons, List.drop_zero]
        exact hnx z2
