/-! LIFTING -/
def Wst (a : Nat → Int) : List (Option Nat) → Prop
  | [] => True
  | some x :: w => a w.length = (x : Int) ∧ Wst a w
  | none :: w => a w.length = -1 ∧ Wst a w
theorem Wst.cong {a b : Nat → Int} : ∀ {w : List (Option Nat)}, Wst a w → (∀ i, i < w.length → b i = a i) → Wst b w := by
  intro w
  induction w with
  | nil => intro _ _; trivial
  | cons o w ih =>
    intro h c
    cases o with
    | none => exact ⟨by rw [c _ (by simp)]; exact h.1, ih h.2 (fun i hi => c i (by simp; omega))⟩
    | some x => exact ⟨by rw [c _ (by simp)]; exact h.1, ih h.2 (fun i hi => c i (by simp; omega))⟩
def Lo : List (Option Nat) → Nat → Prop
  | [], n => n = 1
  | some _ :: w, n => Lo w (n + 1)
  | none :: w, n => 2 ≤ n ∧ Lo w (n - 1)
def Mw (μ : Mem) : List (Option Nat) → Nat
  | [] => 0
  | some x :: w => 2 * (iv μ 33 x).toNat + Mw μ w
  | none :: w => 1 + Mw μ w
theorem Mw.gr {μ μ' : Mem} (g : Gr μ μ') : ∀ {w : List (Option Nat)}, (∀ x, some x ∈ w → x < nv μ 56) → Mw μ' w = Mw μ w := by
  intro w
  induction w with
  | nil => intro _; rfl
  | cons o w ih =>
    intro h
    cases o with
    | none => show 1 + Mw μ' w = 1 + Mw μ w; rw [ih (fun x hx => h x (by simp [hx]))]
    | some x => show _ + Mw μ' w = _ + Mw μ w; rw [ih (fun y hy => h y (by simp [hy])), (g.2 x (h x (by simp))).2.2.2]
theorem Mw.len {μ : Mem} (hH : HI μ) : ∀ {w : List (Option Nat)}, (∀ x, some x ∈ w → x < nv μ 56) → w.length ≤ Mw μ w := by
  intro w
  induction w with
  | nil => intro _; exact Nat.le_refl _
  | cons o w ih =>
    intro h
    have := ih (fun x hx => h x (by simp [hx]))
    cases o with
    | none => show w.length + 1 ≤ 1 + Mw μ w; omega
    | some x =>
      have := (hH x (h x (by simp))).1
      show w.length + 1 ≤ 2 * (iv μ 33 x).toNat + Mw μ w; omega
/-- what lifting leaves -/
def Ql (b : Nat) (Vb : Nat → Prop) (ve : Nat) (μ : Mem) (L : List Act) (cs : List Nat) (R : List Fm) (Zs : List Zc) (V : Nat → Prop) (q : Int32 × Mem) : Prop :=
  IM q.2 ∧ Fr fdT true μ q.2 ∧ ((q.2.1 0 68 ≠ 0 ∧ nv q.2 88 ≤ 2640) ∨ ∃ (y : Nat) (V1 : Nat → Prop), q.1.toInt = (y : Int) ∧ Mx true b Vb ve q.2 L cs R Zs V1 ∧ (∀ u, V u → V1 u) ∧ Gr μ q.2 ∧ Gd q.2 V1 y ∧ iv q.2 30 y ≠ 2 ∧ nv q.2 56 + nv μ 89 ≤ nv μ 56 + nv q.2 89 ∧ nv μ 89 ≤ nv q.2 89 ∧ q.2.1 0 73 = μ.1 0 73)
def frLP : List (Nat × Nat × Nat) := frIn ++ frOp ++ frN
theorem k_liftPair {b : Nat} {Vb : Nat → Prop} {ve : Nat} {μ : Mem} {L : List Act} {cs : List Nat} {R : List Fm} {Zs : List Zc} {V : Nat → Prop} (hM : Mx true b Vb ve μ L cs R Zs V) (hh : nv μ 56 + 301 ≤ 100000 + nv μ 89) {a1 a2 : Int32} {x y : Nat} (h1 : a1.toInt = (x : Int)) (h2 : a2.toInt = (y : Int)) (hx : Gd μ V x) (hy : Gd μ V y) (nx : iv μ 30 x ≠ 2) (ny : iv μ 30 y ≠ 2) : ok (p_X12_liftPair a1 a2 μ) (fun q => (q.1 = a1 ∨ 0 ≤ q.1.toInt) ∧ q.1.toInt < 100000 ∧ Fr frLP true μ q.2 ∧ Ql b Vb ve μ L cs R Zs V q) := by
  rw [p_X12_liftPair_eq]
  have hrm := (hM.2.2.2.1 rfl).2.room hM.1.1
  have g89 := rm_89 hM.1.1
  have lx := hx.1.lt
  have ly := hy.1.lt
  refine ok_bd (t_instr hM.1.1 (by omega) (by omega)) ?_
  rintro r μ1 ⟨c1, c2, c3, c4⟩
  have c1 : r.toInt = (nv μ 87 : Int) := c1
  have c2 : IM μ1 := c2
  have c3 : Fr frIn true μ μ1 := c3
  have ehp := hp_nv hM.1.1
  have g56 := rgm_0_56 hM.1.1
  refine ok_ite (fun h0 => ?_) (fun h0 => ok_some ⟨Or.inl rfl, by show a1.toInt < _; omega, Fr.mono c3 (by decide +kernel) (fun h => h), c2, frIn_T c3, Or.inl ⟨h0, by show nv μ1 88 ≤ _; rw [c3.n (by decide +kernel)]; exact ((hM.2.2.2.1 rfl).2.room hM.1.1).2.1⟩⟩)
  have c5 := c4.resolve_left (fun h => h h0)
  have hb : ((1 : Int32) != 0) = true := by decide
  have e10 : (10 : Int32).toInt = 10 := by decide
  rw [hb, e10] at c5
  have v1 := hM.1.fr c2 c3 (by decide +kernel)
  have e1 : nv μ1 56 = nv μ 56 := (c3.heq (by decide +kernel)).1
  refine ok_bw (em_op v1 c5 (by omega) hrm.2.1 (by simp) c1 h1 (by omega)) ?_
  rintro μ4 ⟨f1, f2, f3, f4⟩
  have e4 : nv μ4 56 = nv μ1 56 := (f2.heq (by decide +kernel)).1
  refine ok_bw (em_op f3 f4 (by omega) hrm.2.1 (by simp) c1 h2 (by omega)) ?_
  rintro μ6 ⟨k1, k2, k3, k4⟩
  have e6 : nv μ6 56 = nv μ4 56 := (k2.heq (by decide +kernel)).1
  have FT : Fr fdT true μ μ6 := ((frIn_T c3).trans (frOp_T f2)).trans (frOp_T k2)
  have GT : Gr μ μ6 := ((c3.gr (by decide +kernel)).tr (f2.gr (by decide +kernel))).tr (k2.gr (by decide +kernel))
  have hP : Pl μ6 (nv μ6 88) (nv μ6 110) V (nv μ 87) := by
    have hop := ops_opd k4 (V := V) k3.2.1 (fun z hz => by
      rcases List.mem_cons.mp hz with e | hz
      · rw [e]; exact ⟨(hx.gr GT).1, by rw [(GT.2 x lx).1]; exact nx⟩
      · rcases List.mem_cons.mp hz with e | hz
        · rw [e]; exact ⟨(hy.gr GT).1, by rw [(GT.2 y ly).1]; exact ny⟩
        · exact absurd hz (by simp))
    have o0 := hop 0 (by simp)
    have o1 := hop 1 (by simp)
    obtain ⟨i1, i2, i3, i4, i5, i6, i7, i8, i9, i10, i11, i12, i13, i14, i15, i16⟩ := k4
    refine ⟨fun _ => ?_, by rw [i8]; simp, by rw [i8]; simp, nv μ 88, i7, Or.inr (Or.inr (Or.inr (Or.inr (Or.inr (Or.inl ⟨Or.inr i6, o0, o1, by rw [i8]; simp⟩)))))⟩
    rw [(i4 rfl).1]; omega
  have hT := th_pl (hM.2.2.2.1 rfl).2 k4 hP (by decide) (by decide) (by simp [oc])
  have h89 := (hT.room k1).2.2.2
  obtain ⟨i1, i2, i3, i4, i5, i6, i7, i8, i9, i10, i11, i12, i13, i14, i15, i16⟩ := k4
  obtain ⟨r1, r2⟩ := i4 rfl
  refine ok_bd (v_reg k3 c1 (by omega) r1 (by omega)) ?_
  rintro r9 μ8 ⟨d1, d2, d3, d4, d5, d6, d7, d8⟩
  have d1 : r9.toInt = (nv μ6 56 : Int) := d1
  have d2 : Fr frN true μ6 μ8 := d2
  have d3 : Gr μ6 μ8 := d3
  have d4 : Vw μ8 L cs R := d4
  have d5 : nv μ8 56 = nv μ6 56 + 1 := d5
  have d6 : iv μ8 30 (nv μ6 56) = 3 := d6
  have d7 : iv μ8 31 (nv μ6 56) = (nv μ 93 : Int) := d7
  have d8 : iv μ8 33 (nv μ6 56) = 1 := d8
  have e89 : nv μ8 89 = nv μ6 89 := d2.n (by decide +kernel)
  refine ok_some ⟨Or.inr (by show 0 ≤ r9.toInt; omega), by show r9.toInt < _; omega, (((Fr.mono c3 (by decide +kernel) (fun h => h) : Fr frLP true μ μ1).trans (Fr.mono f2 (by decide +kernel) (fun h => h))).trans (Fr.mono k2 (by decide +kernel) (fun h => h))).trans (Fr.mono d2 (by decide +kernel) (fun h => h)), d4.1, FT.trans (Fr.mono d2 (by decide +kernel) (fun h => h)), Or.inr ⟨nv μ6 56, Vp μ6 V (nv μ 87), d1, ?_, fun u hu => Or.inl hu, GT.tr d3, ?_, by show iv μ8 30 (nv μ6 56) ≠ 2; omega, by show nv μ8 56 + _ ≤ _ + nv μ8 89; omega, by show _ ≤ nv μ8 89; omega, ?_⟩⟩
  · refine ⟨d4, (hM.2.1.gr (GT.tr d3)).mono (fun u hu => Or.inl hu), ?_, fun _ => ⟨?_, hT.fr d2 (by decide +kernel)⟩, fun h => absurd h (by decide)⟩
    · show μ8.1 0 68 = 0
      rw [d2.v (by decide +kernel), i12]; exact hM.2.2.1
    · show μ8.1 0 69 ≠ 0
      rw [d2.v (by decide +kernel), k2.v (by decide +kernel), f2.v (by decide +kernel), c3.v (by decide +kernel)]; exact (hM.2.2.2.1 rfl).1
  · show Gd μ8 _ _
    refine ⟨Vl.leaf (by omega) (by omega) (fun _ => ?_), by omega⟩
    rw [d7]
    refine ⟨by omega, Or.inr ⟨by rw [i6]; decide, ?_⟩⟩
    rw [r1]; rfl
  · show μ8.1 0 73 = _
    rw [d2.v (by decide +kernel), k2.v (by decide +kernel), f2.v (by decide +kernel), c3.v (by decide +kernel)]
theorem k_lift {b : Nat} {Vb : Nat → Prop} {ve : Nat} {μ : Mem} {L : List Act} {cs : List Nat} {R : List Fm} {Zs : List Zc} {V : Nat → Prop} (hM : Mx true b Vb ve μ L cs R Zs V) (hh : nv μ 56 + 301 ≤ 100000 + nv μ 89) {a : Int32} {x : Nat} (h1 : a.toInt = (x : Int)) (hx : Gd μ V x) : ok (p_X12_lift a μ) (fun q => Ql b Vb ve μ L cs R Zs V q ∧ 0 ≤ q.1.toInt ∧ q.1.toInt < 100000) := by
  rw [p_X12_lift_eq]
  have e0 : (0 : Int32).toInt = 0 := by decide
  have z0 : (0 : Int32).toNatClampNeg = 0 := by decide
  have e1 : (1 : Int32).toInt = 1 := by decide
  have e2 : (2 : Int32).toInt = 2 := by decide
  have e3 : (3 : Int32).toInt = 3 := by decide
  have em1 : (-1 : Int32).toInt = -1 := by decide
  have em2 : (-2 : Int32).toInt = -2 := by decide
  have ehp := hp_nv hM.1.1
  have g56 := rgm_0_56 hM.1.1
  have lx := hx.1.lt
  -- it is over
  have over : ∀ (m : Nat) (a2 a3 : Int32) (μ1 : Mem), IM μ1 → Fr fdT true μ μ1 → μ1.1 0 68 ≠ 0 → nv μ1 88 ≤ 2640 → 0 < m → ok (p_X12_lift_b11 m a a2 a3 μ1) (fun q => Ql b Vb ve μ L cs R Zs V q ∧ 0 ≤ q.1.toInt ∧ q.1.toInt < 100000) := by
    intro m a2 a3 μ1 hI1 F1 ho h88 hm
    obtain ⟨m, rfl⟩ : ∃ m', m = m' + 1 := ⟨m - 1, by omega⟩
    have fin : ok (p_X12_lift_b139 a μ1) (fun q => Ql b Vb ve μ L cs R Zs V q ∧ 0 ≤ q.1.toInt ∧ q.1.toInt < 100000) := by
      rw [p_X12_lift_b139_eq, if_neg ho]
      exact ok_some ⟨⟨hI1, F1, Or.inl ⟨ho, h88⟩⟩, by show 0 ≤ a.toInt; omega, by show a.toInt < _; omega⟩
    rw [p_X12_lift_b11_s]
    exact ok_ite (fun _ => fin) (fun _ => by rw [if_neg ho]; exact fin)
  have loop : ∀ (m : Nat) (a2 a3 : Int32) (w : List (Option Nat)) (ys : List Nat) (μ1 : Mem) (V1 : Nat → Prop), Mx true b Vb ve μ1 L cs R Zs V1 → (∀ u, V u → V1 u) → Fr fdT true μ μ1 → Gr μ μ1 → nv μ1 56 + nv μ 89 ≤ nv μ 56 + nv μ1 89 → nv μ 89 ≤ nv μ1 89 → μ1.1 0 73 = μ.1 0 73 → a2.toInt = (ys.length : Int) → a3.toInt = (w.length : Int) → Wst (iv μ1 55) w → Stk (iv μ1 56) ys → Lo w ys.length → (∀ y, some y ∈ w → Gd μ1 V1 y) → (∀ y, y ∈ ys → Gd μ1 V1 y ∧ iv μ1 30 y ≠ 2) → Mw μ1 w + ys.length ≤ 80 → Mw μ1 w < m → ok (p_X12_lift_b11 m a a2 a3 μ1) (fun q => Ql b Vb ve μ L cs R Zs V q ∧ 0 ≤ q.1.toInt ∧ q.1.toInt < 100000) := by
    intro m
    induction m with
    | zero => intro a2 a3 w ys μ1 V1 _ _ _ _ _ _ _ _ _ _ _ _ _ _ _ h; omega
    | succ m ih =>
      intro a2 a3 w ys μ1 V1 hM1 hVV F1 G1 hb1 h89 h73 ha2 ha3 hw hys hlo hgw hgy hmw hm
      rw [p_X12_lift_b11_s]
      have hov := hM1.2.2.1
      have ehp1 := hp_nv hM1.1.1
      have g561 := rgm_0_56 hM1.1.1
      cases w with
      | nil =>
        rw [if_pos (ti_le.mpr (by simp at ha3; omega)), p_X12_lift_b139_eq, if_pos hov, z0]
        have hl1 : ys.length = 1 := hlo
        obtain ⟨y, rfl⟩ : ∃ y, ys = [y] := by
          match ys, hl1 with
          | [y], _ => exact ⟨y, rfl⟩
        have hy0 : iv μ1 56 0 = (y : Int) := hys.1
        obtain ⟨gy, ny⟩ := hgy y (by simp)
        have ly := gy.1.lt
        have hy0' : (μ1.1 56 0).toInt = (y : Int) := hy0
        exact ok_gd (by decide) (ok_some ⟨⟨hM1.1.1, F1, Or.inr ⟨y, V1, hy0, hM1, hVV, G1, gy, ny, hb1, h89, h73⟩⟩, by show 0 ≤ (μ1.1 56 0).toInt; omega, by show (μ1.1 56 0).toInt < _; omega⟩)
      | cons o w =>
        simp only [List.length_cons] at ha3
        rw [if_neg (by rw [ti_le]; omega), if_pos hov]
        have hlw := Mw.len hM1.1.2.1 (w := o :: w) (fun y hy => (hgw y hy).1.lt)
        simp only [List.length_cons] at hlw
        refine ok_bv (fun v5 ev5 => ?_)
        have t5 : v5.toInt = (w.length : Int) := by rw [ev5, ti_add (by omega) (by omega), em1]; omega
        have n5 : v5.toNatClampNeg = w.length := tn_of t5
        have b5 : inb v5 200 = true := inb_iff.mpr (by omega)
        rw [n5]
        refine ok_gd b5 (ok_bv (fun v6 ev6 => ?_))
        cases o with
        | some y =>
          have h6 : v6.toInt = (y : Int) := by rw [ev6]; exact hw.1
          have gy := hgw y (by simp)
          have ly := gy.1.lt
          have n6 : v6.toNatClampNeg = y := tn_of h6
          have b6 : inb v6 100000 = true := inb_iff.mpr (by omega)
          rw [if_pos (ti_le.mpr (by omega)), n6]
          have hmy : Mw μ1 (some y :: w) = 2 * (iv μ1 33 y).toNat + Mw μ1 w := rfl
          have wy := (hM1.1.2.1 y ly).1
          refine ok_gd b6 (ok_ite (fun h2 => ok_gd b5 (ok_bv (fun μ11 em11 => ok_gd b6 ?_))) (fun h2 => ?_))
          · -- a pair
            have h2' : iv μ1 30 y = 2 := by unfold iv; rw [h2]; exact e2
            obtain ⟨v1, v2⟩ := gy.1.kids h2'
            obtain ⟨_, ⟨hz, _⟩ | ⟨_, p, q, hp1, hq1, hpx, hqx, hwt⟩⟩ := hM1.1.2.1 y ly
            · omega
            have wp := (hM1.1.2.1 p (by omega)).1
            have wq := (hM1.1.2.1 q (by omega)).1
            rw [hp1] at v1
            rw [hq1] at v2
            have gy2 := gy.2
            have t51 : (v5 + 1).toInt = (w.length : Int) + 1 := by rw [ti_add (by omega) (by omega), e1, t5]
            have t52 : (v5 + 2).toInt = (w.length : Int) + 2 := by rw [ti_add (by omega) (by omega), e2, t5]
            have n51 : (v5 + 1).toNatClampNeg = w.length + 1 := tn_of (by omega)
            have n52 : (v5 + 2).toNatClampNeg = w.length + 2 := tn_of (by omega)
            rw [n51, n52]
            refine ok_gd (inb_iff.mpr (by omega)) (ok_bv (fun μ12 em12 => ok_gd b6 (ok_gd (inb_iff.mpr (by omega)) (ok_bv (fun μ13 em13 => ok_bv (fun v14 ev14 => ?_))))))
            rw [p_X12_lift_b136_eq]
            have f13 : Fr [(1, 55, 0)] true μ1 μ13 := by
              rw [em13]; refine Fr.puta ?_ (by decide +kernel)
              rw [em12]; refine Fr.puta ?_ (by decide +kernel)
              rw [em11]; exact Fr.puta Fr.rf (by decide +kernel)
            have hI13 : IM μ13 := by
              rw [em13]; refine IM_F ?_ (rtma_55 _ _)
              rw [em12]; refine IM_F ?_ (rtma_55 _ _)
              rw [em11]; exact IM_F hM1.1.1 (rtma_55 _ _)
            have hM13 := hM1.fr hI13 f13 (by decide +kernel) (by decide +kernel) (by decide +kernel)
            have G13 := f13.gr (by decide +kernel)
            have q55 : ∀ i, i < w.length → iv μ13 55 i = iv μ1 55 i := by
              intro i hi
              unfold iv
              rw [em13, sF_k (by omega), em12, sF_k (by omega), em11, sF_k (by omega)]
            have q0 : iv μ13 55 w.length = -1 := by
              unfold iv
              rw [em13, sF_k (by omega), em12, sF_k (by omega), em11, sF_v]; exact em1
            have s11 : μ11.1 32 y = μ1.1 32 y := by rw [em11]; rfl
            have s12 : μ12.1 31 y = μ1.1 31 y := by rw [em12, sF_i (by decide), em11]; rfl
            have q1 : iv μ13 55 (w.length + 1) = (q : Int) := by
              unfold iv
              rw [em13, sF_k (by omega), em12, sF_v, s11]; exact hq1
            have q2 : iv μ13 55 (w.length + 2) = (p : Int) := by
              unfold iv
              rw [em13, sF_v, s12]; exact hp1
            have hmw13 : Mw μ13 (some p :: some q :: none :: w) = 2 * (iv μ1 33 p).toNat + (2 * (iv μ1 33 q).toNat + (1 + Mw μ1 w)) := by
              show 2 * (iv μ13 33 p).toNat + (2 * (iv μ13 33 q).toNat + (1 + Mw μ13 w)) = _
              rw [(G13.2 p (by omega)).2.2.2, (G13.2 q (by omega)).2.2.2, Mw.gr G13 (fun z hz => (hgw z (by simp [hz])).1.lt)]
            refine ih a2 v14 (some p :: some q :: none :: w) ys μ13 V1 hM13 hVV (F1.trans (Fr.mono f13 (by decide +kernel) (fun h => h))) (G1.tr G13) ?_ ?_ ?_ ha2 ?_ ⟨q2, q1, q0, hw.2.cong q55⟩ (hys.cong (fun i _ => f13.a (by decide) i)) ?_ ?_ ?_ (by omega) (by omega)
            · rw [(f13.heq (by decide +kernel)).1, f13.n (by decide +kernel)]; exact hb1
            · rw [f13.n (by decide +kernel)]; exact h89
            · rw [f13.v (by decide +kernel)]; exact h73
            · rw [ev14, ti_add (by omega) (by omega), e3, t5]; simp; omega
            · show 2 ≤ ys.length + 1 + 1 ∧ Lo w (ys.length + 1 + 1 - 1)
              exact ⟨by omega, hlo⟩
            · intro z hz
              rcases List.mem_cons.mp hz with e | hz
              · cases e; exact Gd.gr ⟨v1, by omega⟩ G13
              · rcases List.mem_cons.mp hz with e | hz
                · cases e; exact Gd.gr ⟨v2, by omega⟩ G13
                · rcases List.mem_cons.mp hz with e | hz
                  · cases e
                  · exact (hgw z (by simp [hz])).gr G13
            · intro z hz
              exact ⟨(hgy z hz).1.gr G13, by rw [(G13.2 z (hgy z hz).1.1.lt).1]; exact (hgy z hz).2⟩
          · -- none
            have nn : iv μ1 30 y ≠ 2 := fun h => h2 (ti_eq.mpr (by rw [e2]; exact h))
            have na2 : a2.toNatClampNeg = ys.length := tn_of ha2
            rw [na2]
            refine ok_gd (inb_iff.mpr (by omega)) (ok_bv (fun μ9 em9 => ok_bv (fun v10 ev10 => ?_)))
            rw [p_X12_lift_b136_eq]
            have f9 : Fr [(1, 56, 0)] true μ1 μ9 := by rw [em9]; exact Fr.puta Fr.rf (by decide +kernel)
            have hI9 : IM μ9 := by rw [em9]; exact IM_F hM1.1.1 (rpm_56 (by omega))
            have hM9 := hM1.fr hI9 f9 (by decide +kernel) (by decide +kernel) (by decide +kernel)
            have G9 := f9.gr (by decide +kernel)
            refine ih v10 v5 w (y :: ys) μ9 V1 hM9 hVV (F1.trans (Fr.mono f9 (by decide +kernel) (fun h => h))) (G1.tr G9) ?_ ?_ ?_ ?_ t5 (hw.2.cong (fun i _ => f9.a (by decide) i)) ⟨?_, hys.cong (fun i hi => ?_)⟩ hlo (fun z hz => (hgw z (by simp [hz])).gr G9) ?_ ?_ ?_
            · rw [(f9.heq (by decide +kernel)).1, f9.n (by decide +kernel)]; exact hb1
            · rw [f9.n (by decide +kernel)]; exact h89
            · rw [f9.v (by decide +kernel)]; exact h73
            · rw [ev10, ti_add (by omega) (by omega), e1, ha2]; simp
            · unfold iv; rw [em9, sF_v]; exact h6
            · unfold iv; rw [em9, sF_k (by omega)]
            · intro z hz
              rcases List.mem_cons.mp hz with e | hz
              · rw [e]; exact ⟨gy.gr G9, by rw [(G9.2 y ly).1]; exact nn⟩
              · exact ⟨(hgy z hz).1.gr G9, by rw [(G9.2 z (hgy z hz).1.1.lt).1]; exact (hgy z hz).2⟩
            · rw [Mw.gr G9 (fun z hz => (hgw z (by simp [hz])).1.lt)]; simp; omega
            · rw [Mw.gr G9 (fun z hz => (hgw z (by simp [hz])).1.lt)]; omega
        | none =>
          have h6 : v6.toInt = -1 := by rw [ev6]; exact hw.1
          rw [if_neg (by rw [ti_le]; omega)]
          obtain ⟨hl2, hlo2⟩ := hlo
          have hmy : Mw μ1 (none :: w) = 1 + Mw μ1 w := rfl
          obtain ⟨y, x2, ys2, rfl⟩ : ∃ y x2 ys2, ys = y :: x2 :: ys2 := by
            match ys, hl2 with
            | y :: x2 :: ys2, _ => exact ⟨y, x2, ys2, rfl⟩
          simp only [List.length_cons] at ha2 hmw hlo2
          refine ok_bv (fun v15 ev15 => ?_)
          have t15 : v15.toInt = (ys2.length : Int) := by rw [ev15, ti_add (by omega) (by omega), em2]; omega
          have n15 : v15.toNatClampNeg = ys2.length := tn_of t15
          have t151 : (v15 + 1).toInt = (ys2.length : Int) + 1 := by rw [ti_add (by omega) (by omega), e1, t15]
          have n151 : (v15 + 1).toNatClampNeg = ys2.length + 1 := tn_of (by omega)
          rw [n15, n151]
          obtain ⟨gy, ny⟩ := hgy y (by simp)
          obtain ⟨gx2, nx2⟩ := hgy x2 (by simp)
          have hy1 : (μ1.1 56 (ys2.length + 1)).toInt = (y : Int) := hys.1
          have hx2 : (μ1.1 56 ys2.length).toInt = (x2 : Int) := hys.2.1
          have lx2 := gx2.1.lt
          have h892 := rm_89 hM1.1.1
          refine ok_gd (inb_iff.mpr (by omega)) (ok_gd (inb_iff.mpr (by omega)) (ok_bd (k_liftPair hM1 (by omega) hx2 hy1 gx2 gy nx2 ny) ?_))
          rintro r17 μ16 ⟨l1, l2, lf, l3, l4, l5⟩
          have lf : Fr frLP true μ1 μ16 := lf
          have l1 : r17 = μ1.1 56 ys2.length ∨ 0 ≤ r17.toInt := l1
          have l2 : r17.toInt < 100000 := l2
          have l3 : IM μ16 := l3
          have l4 : Fr fdT true μ1 μ16 := l4
          have l0 : 0 ≤ r17.toInt := by
            rcases l1 with h | h
            · rw [h]; omega
            · exact h
          refine ok_gd (inb_iff.mpr (by omega)) (ok_bv (fun μ18 em18 => ok_bv (fun v19 ev19 => ?_)))
          rw [p_X12_lift_b136_eq]
          have f18 : Fr [(1, 56, 0)] true μ16 μ18 := by rw [em18]; exact Fr.puta Fr.rf (by decide +kernel)
          have hI18 : IM μ18 := by rw [em18]; exact IM_F l3 (rpm_56 (by omega))
          have F18 : Fr fdT true μ μ18 := (F1.trans l4).trans (Fr.mono f18 (by decide +kernel) (fun h => h))
          by_cases ho : μ16.1 0 68 = 0
          · obtain ⟨y2, V2, j1, j2, j3, j4, j5, j6, j7, j8, j9⟩ := l5.resolve_left (fun h => h.1 ho)
            have j1 : r17.toInt = (y2 : Int) := j1
            have j2 : Mx true b Vb ve μ16 L cs R Zs V2 := j2
            have j4 : Gr μ1 μ16 := j4
            have j5 : Gd μ16 V2 y2 := j5
            have j7 : nv μ16 56 + nv μ1 89 ≤ nv μ1 56 + nv μ16 89 := j7
            have j8 : nv μ1 89 ≤ nv μ16 89 := j8
            have j9 : μ16.1 0 73 = μ1.1 0 73 := j9
            have hM18 := j2.fr hI18 f18 (by decide +kernel) (by decide +kernel) (by decide +kernel)
            have G18 := f18.gr (by decide +kernel)
            have e56 := (f18.heq (by decide +kernel)).1
            have e89 : nv μ18 89 = nv μ16 89 := f18.n (by decide +kernel)
            have hmeq : Mw μ18 w = Mw μ1 w := Mw.gr (j4.tr G18) (fun z hz => (hgw z (by simp [hz])).1.lt)
            have q55 : ∀ i, iv μ18 55 i = iv μ1 55 i := by
              intro i
              rw [f18.a (by decide) i, lf.a (by decide) i]
            have q56 : ∀ i, i < ys2.length → iv μ18 56 i = iv μ1 56 i := by
              intro i hi
              rw [← lf.a (c := 56) (by decide) i]
              unfold iv
              rw [em18, sF_k (by omega)]
            refine ih v19 v5 w (y2 :: ys2) μ18 V2 hM18 (fun u hu => j3 u (hVV u hu)) F18 ((G1.tr j4).tr G18) (by omega) (by omega) (by rw [f18.v (by decide +kernel), j9]; exact h73) ?_ t5 (hw.2.cong (fun i _ => q55 i)) ⟨?_, hys.2.2.cong q56⟩ ?_ (fun z hz => (((hgw z (by simp [hz])).gr j4).mono j3).gr G18) ?_ (by simp; omega) (by omega)
            · rw [ev19, ti_add (by omega) (by omega), e1, t15]; simp
            · unfold iv; rw [em18, sF_v]; exact j1
            · show Lo w (ys2.length + 1)
              have : ys2.length + 1 + 1 - 1 = ys2.length + 1 := by omega
              rw [this] at hlo2; exact hlo2
            · intro z hz
              rcases List.mem_cons.mp hz with e | hz
              · rw [e]; exact ⟨j5.gr G18, by rw [(G18.2 y2 j5.1.lt).1]; exact j6⟩
              · obtain ⟨g1, g2⟩ := hgy z (by simp [hz])
                exact ⟨((g1.gr j4).mono j3).gr G18, by rw [(G18.2 z (g1.gr j4).1.lt).1, (j4.2 z g1.1.lt).1]; exact g2⟩
          · refine over m v19 v5 μ18 hI18 F18 (by rw [f18.v (by decide +kernel)]; exact ho) ?_ (by omega)
            rw [f18.n (by decide +kernel)]
            rcases l5 with h | ⟨_, _, _, h, _⟩
            · exact h.2
            · exact absurd h.2.2.1 ho
  refine ok_gd (by decide) (ok_bv (fun μ1 em1' => ?_))
  rw [z0] at em1'
  have f1 : Fr [(1, 55, 0)] true μ μ1 := by rw [em1']; exact Fr.puta Fr.rf (by decide +kernel)
  have hI1 : IM μ1 := by rw [em1']; exact IM_F hM.1.1 (rtma_55 _ _)
  have hM1 := hM.fr hI1 f1 (by decide +kernel) (by decide +kernel) (by decide +kernel)
  have G1 := f1.gr (by decide +kernel)
  have hx1 := hx.gr G1
  have wx := (hM1.1.2.1 x hx1.1.lt).1
  have hmw : Mw μ1 [some x] = 2 * (iv μ1 33 x).toNat + 0 := rfl
  have hx2 := hx1.2
  refine loop FUEL 0 1 [some x] [] μ1 V hM1 (fun u hu => hu) (Fr.mono f1 (by decide +kernel) (fun h => h)) G1 ?_ ?_ (f1.v (by decide +kernel)) e0 e1 ⟨?_, trivial⟩ trivial rfl ?_ (fun z hz => absurd hz (by simp)) (by simp; omega) (by show _ < 10000000000; omega)
  · rw [(f1.heq (by decide +kernel)).1, f1.n (by decide +kernel)]; exact Nat.le_refl _
  · rw [f1.n (by decide +kernel)]; exact Nat.le_refl _
  · show (μ1.1 55 0).toInt = _
    rw [em1', sF_v]; exact h1
  · intro z hz
    have : z = x := by simpa using hz
    rw [this]; exact hx1
