/-! DEEDS, ALL ACTS -/
theorem cs_1 {cs : List Nat} (h : 1 ≤ cs.length) : ∃ x, cs = x :: cs.drop 1 := by
  cases cs with
  | nil => exact absurd h (by simp)
  | cons x cs => exact ⟨x, rfl⟩
theorem cs_2 {cs : List Nat} (h : 2 ≤ cs.length) : ∃ y x, cs = y :: x :: cs.drop 2 := by
  cases cs with
  | nil => exact absurd h (by simp)
  | cons y cs =>
    cases cs with
    | nil => exact absurd h (by simp)
    | cons x cs => exact ⟨y, x, rfl⟩
set_option maxHeartbeats 2000000 in
theorem g_do {t : Bool} {b : Nat} {Vb : Nat → Prop} {ve : Nat} {th wo be bh : Nat → Int} {N : Nat} {μ : Mem} {p : Nat} {c : Int} {L : List Act} {cs : List Nat} {R : List Fm} {Zs : List Zc} {V : Nat → Prop} {T : Nat} (h : Jx t b Vb ve th wo be bh N μ (1, p, c) L cs R Zs V T) {a : Int32} (ha : a.toInt = (p : Int)) : ok (p_X12_doThing a μ) (Sx t b Vb ve th wo be bh N μ T) := by
  obtain ⟨rl, hRm, r31⟩ := h.room
  have h' := h
  obtain ⟨h1, h2, h3, h4, h5, h6, h7, h8, h9, h10⟩ := h
  obtain ⟨hBq, hN⟩ := h4.bq
  obtain ⟨P1, P2, P3, P4, P5, P6, P7⟩ := h4
  cases R with
  | nil => exact h2.elim
  | cons f R =>
    obtain ⟨ρ, c0⟩ := f
    obtain ⟨hc, h2⟩ := h2
    rcases h2 with ⟨w, _⟩ | ⟨_, w2, k, w3, w4, w5, w6⟩ | ⟨w, _⟩ | ⟨w, _⟩ | ⟨w, _⟩ | ⟨w, _⟩ | ⟨w, _⟩ | ⟨w, _⟩
    · exact absurd w (by decide)
    · have hp1 : pot bh (1, p, c) = 1 := by simp [pot]
      have hs1 : stp bh (1, p, c) = 1 := by simp [stp]
      have ea : a.toNatClampNeg = p := tn_of ha
      have ba : inb a 800 = true := inb_iff.mpr (by omega)
      have k7 : (μ.1 7 p).toInt = th p := congrFun P1 p
      have k8 : (μ.1 8 p).toInt = wo p := congrFun P2 p
      have k9 : (μ.1 9 p).toInt = (k : Int) := by have : (μ.1 9 p).toInt = be p := congrFun P3 p; omega
      have po : ∀ {q : Mem}, Po t b Vb ve μ L (cs.drop k) ((ρ, c0) :: R) Zs V q → Sx t b Vb ve th wo be bh N μ T q := fun {q} hq => sx_po h' (by simp) w6 (by rw [hp1]; simp) (by omega) hq
      rw [p_X12_doThing_eq, ea]
      refine ok_gd ba ?_
      rcases w3 with ⟨e, ek⟩ | ⟨e, ek, e2, e3⟩ | ⟨e, ek⟩ | ⟨e, ek⟩ | ⟨e, ek, e2, e3⟩ | ⟨e, ek, e2, e3⟩ | ⟨e, ek⟩
      · have e7 : μ.1 7 p = 5 := ti_eq.mpr (by rw [k7, e]; decide)
        rw [e7, if_neg (by decide), if_neg (by decide), if_neg (by decide), if_pos rfl]
        subst ek
        obtain ⟨y, x, ec⟩ := cs_2 (cs := cs) (by omega)
        refine ok_gd ba (ok_bw (k_doSign _ (by rw [← ec]; exact h1) (by rw [← ec]; exact hRm)) (fun q hq => ok_some (po hq)))
      · have e7 : μ.1 7 p = 6 := ti_eq.mpr (by rw [k7, e]; decide)
        rw [e7, if_neg (by decide), if_neg (by decide), if_neg (by decide), if_neg (by decide), if_pos rfl]
        subst ek
        obtain ⟨x, ec⟩ := cs_1 (cs := cs) (by omega)
        refine ok_gd ba (ok_bw (k_doOne (by omega) (by rw [← ec]; exact h1) (by rw [← ec]; exact hRm)) (fun q hq => ok_some (po hq)))
      · have e7 : μ.1 7 p = 2 := ti_eq.mpr (by rw [k7, e]; decide)
        rw [e7, if_pos rfl]
        subst ek
        obtain ⟨y, x, ec⟩ := cs_2 (cs := cs) (by omega)
        refine ok_bw (k_doPair (by rw [← ec]; exact h1) (by rw [← ec]; exact hRm)) (fun q hq => ok_some (po hq))
      · have e7 : μ.1 7 p = 8 := ti_eq.mpr (by rw [k7, e]; decide)
        rw [e7, if_neg (by decide), if_neg (by decide), if_neg (by decide), if_neg (by decide), if_neg (by decide), if_neg (by decide), if_pos rfl]
        subst ek
        obtain ⟨x, ec⟩ := cs_1 (cs := cs) (by omega)
        refine ok_bw (k_doOut (by rw [← ec]; exact h1) (by rw [← ec]; exact hRm)) (fun q hq => ok_some (po hq))
      · have e7 : μ.1 7 p = 9 := ti_eq.mpr (by rw [k7, e]; decide)
        rw [e7, if_neg (by decide), if_neg (by decide), if_neg (by decide), if_neg (by decide), if_neg (by decide), if_neg (by decide), if_neg (by decide), if_pos rfl]
        subst ek
        obtain ⟨x, ec⟩ := cs_1 (cs := cs) (by omega)
        refine ok_gd ba (ok_bw (k_doPut (by omega) (by rw [← ec]; exact h1) (by rw [← ec]; exact hRm)) (fun q hq => ok_some (po hq)))
      · have e7 : μ.1 7 p = 10 := ti_eq.mpr (by rw [k7, e]; decide)
        rw [e7, if_neg (by decide), if_neg (by decide), if_neg (by decide), if_neg (by decide), if_neg (by decide), if_neg (by decide), if_neg (by decide), if_neg (by decide), if_pos rfl]
        subst ek
        refine ok_gd ba (ok_bw (k_doGet (by omega) h1 hRm) (fun q hq => ok_some (po hq)))
      · have e7 : μ.1 7 p = 12 := ti_eq.mpr (by rw [k7, e]; decide)
        rw [e7, if_neg (by decide), if_neg (by decide), if_neg (by decide), if_neg (by decide), if_neg (by decide), if_neg (by decide), if_neg (by decide), if_neg (by decide), if_neg (by decide)]
        exact ok_gd ba (ok_gd ba (ok_bw (k_doCall h' (by omega) ek w6 k9) (fun q hq => ok_some hq)))
    all_goals exact absurd w (by decide)
theorem g_one {t : Bool} {b : Nat} {Vb : Nat → Prop} {ve : Nat} {th wo be bh : Nat → Int} {N : Nat} {μ : Mem} {A : Act} {L : List Act} {cs : List Nat} {R : List Fm} {Zs : List Zc} {V : Nat → Prop} {T : Nat} (h : Jx t b Vb ve th wo be bh N μ A L cs R Zs V T) {a1 a2 a3 : Int32} (h1 : a1.toInt = (A.1 : Int)) (h2 : a2.toInt = (A.2.1 : Int)) (h3 : a3.toInt = A.2.2) : ok (p_X12_goOne a1 a2 a3 μ) (Sx t b Vb ve th wo be bh N μ T) := by
  obtain ⟨w, p, c⟩ := A
  have h2 : a2.toInt = (p : Int) := h2
  have h3 : a3.toInt = c := h3
  have h1 : a1.toInt = (w : Int) := h1
  have hw : w ≤ 7 := by
    have hO := h.2.1
    cases R with
    | nil => exact hO.elim
    | cons f R =>
      obtain ⟨hc, hO⟩ := hO
      rcases hO with ⟨w, _⟩ | ⟨w, _⟩ | ⟨w, _⟩ | ⟨w, _⟩ | ⟨w, _⟩ | ⟨w, _⟩ | ⟨w, _⟩ | ⟨w, _⟩ <;> omega
  rw [p_X12_goOne_eq]
  have key : ∀ n : Nat, n ≤ 7 → w = n → ok (if a1 = 0 then bw (p_X12_work a2 μ) (fun μ3 => some μ3) else (if a1 = 1 then bw (p_X12_doThing a2 μ) (fun μ6 => some μ6) else (if a1 = 2 then bw (p_X12_choose a2 μ) (fun μ9 => some μ9) else (if a1 = 3 then bw (p_X12_bindVar a2 μ) (fun μ12 => some μ12) else (if a1 = 4 then gd (inb ((μ.1 0 67) + a2) 500) (bv (sF μ 41 ((μ.1 0 67) + a2).toNatClampNeg a3) (fun μ15 => some μ15)) else (if a1 = 5 then bw (p_X12_leave μ) (fun μ17 => some μ17) else (if a1 = 6 then bw (p_X12_otherwise a2 a3 μ) (fun μ20 => some μ20) else bw (p_X12_whole a2 μ) (fun μ22 => some μ22)))))))) (Sx t b Vb ve th wo be bh N μ T) := by
    intro n hn e
    subst e
    have sm : ∀ {o : Option Mem}, ok o (Sx t b Vb ve th wo be bh N μ T) → ok (bw o (fun μ3 => some μ3)) (Sx t b Vb ve th wo be bh N μ T) := fun ho => ok_bw ho (fun q hq => ok_some hq)
    have ne : ∀ v : Int32, v.toInt ≠ (w : Int) → ¬ a1 = v := fun v hv e => hv (by rw [← e]; exact h1)
    rcases (by omega : w = 0 ∨ w = 1 ∨ w = 2 ∨ w = 3 ∨ w = 4 ∨ w = 5 ∨ w = 6 ∨ w = 7) with e | e | e | e | e | e | e | e
    · subst e
      rw [if_pos (ti_eq.mpr h1)]; exact sm (g_work h h2)
    · subst e
      rw [if_neg (ne 0 (by decide)), if_pos (ti_eq.mpr h1)]; exact sm (g_do h h2)
    · subst e
      rw [if_neg (ne 0 (by decide)), if_neg (ne 1 (by decide)), if_pos (ti_eq.mpr h1)]; exact sm (g_choose h h2)
    · subst e
      rw [if_neg (ne 0 (by decide)), if_neg (ne 1 (by decide)), if_neg (ne 2 (by decide)), if_pos (ti_eq.mpr h1)]; exact sm (g_bind h h2)
    · subst e
      rw [if_neg (ne 0 (by decide)), if_neg (ne 1 (by decide)), if_neg (ne 2 (by decide)), if_neg (ne 3 (by decide)), if_pos (ti_eq.mpr h1)]; exact g_unbind h h2 h3
    · subst e
      rw [if_neg (ne 0 (by decide)), if_neg (ne 1 (by decide)), if_neg (ne 2 (by decide)), if_neg (ne 3 (by decide)), if_neg (ne 4 (by decide)), if_pos (ti_eq.mpr h1)]; exact sm (g_leave h)
    · subst e
      rw [if_neg (ne 0 (by decide)), if_neg (ne 1 (by decide)), if_neg (ne 2 (by decide)), if_neg (ne 3 (by decide)), if_neg (ne 4 (by decide)), if_neg (ne 5 (by decide)), if_pos (ti_eq.mpr h1)]; exact sm (g_otherwise h h2 h3)
    · subst e
      rw [if_neg (ne 0 (by decide)), if_neg (ne 1 (by decide)), if_neg (ne 2 (by decide)), if_neg (ne 3 (by decide)), if_neg (ne 4 (by decide)), if_neg (ne 5 (by decide)), if_neg (ne 6 (by decide))]; exact sm (g_whole h h2)
  exact key w hw rfl
/-- what is left when all acts are done -/
def Fx (t : Bool) (b : Nat) (Vb : Nat → Prop) (ve : Nat) (th wo be bh : Nat → Int) (N : Nat) (μ : Mem) (q : Mem) : Prop :=
  IM q ∧ Fr (fg t) true μ q ∧ ((q.1 0 68 ≠ 0 ∧ (t = false → 0 ≤ (q.1 0 73).toInt ∧ (q.1 0 73).toInt ≤ c73 t + 1)) ∨ ∃ z R V, Mx t b Vb ve q [] [z] R [] V ∧ PA th wo be bh N q ∧ Dp t q R ∧ R.length = 1 ∧ nv q 56 + 302 ≤ 100000 + nv q 89 ∧ 0 ≤ (q.1 0 73).toInt ∧ (q.1 0 73).toInt ≤ c73 t)
theorem k_goAll {t : Bool} {b : Nat} {Vb : Nat → Prop} {ve : Nat} {th wo be bh : Nat → Int} {N : Nat} {μ : Mem} {L : List Act} {cs : List Nat} {R : List Fm} {Zs : List Zc} {V : Nat → Prop} {T : Nat} (h : Ix t b Vb ve th wo be bh N μ L cs R Zs V T) : ok (p_X12_goAll μ) (Fx t b Vb ve th wo be bh N μ) := by
  have e0 : (0 : Int32).toInt = 0 := by decide
  have e1 : (1 : Int32).toInt = 1 := by decide
  have loop : ∀ (n : Nat) (μ2 : Mem) (L : List Act) (cs : List Nat) (R : List Fm) (Zs : List Zc) (V : Nat → Prop) (T : Nat), T < n → Fr (fg t) true μ μ2 → Ix t b Vb ve th wo be bh N μ2 L cs R Zs V T → ok (p_X12_goAll_b0 n μ2) (Fx t b Vb ve th wo be bh N μ) := by
    intro n
    induction n with
    | zero => intro _ _ _ _ _ _ _ h; omega
    | succ n ih =>
      intro μ2 L cs R Zs V T hT F2 hI
      rw [p_X12_goAll_b0_s]
      have hI' := hI
      obtain ⟨h1, h2, h3, h4, h5, h6, h7, h8, h9⟩ := hI
      obtain ⟨⟨v1, v2, ⟨A1, A2⟩, v4, v5⟩, m2, m3, m4, m5⟩ := h1
      refine ok_ite (fun hle => ?_) (fun hle => ?_)
      · rw [ti_le, e0] at hle
        have hL : L = [] := List.length_eq_zero_iff.mp (by omega)
        subst hL
        obtain ⟨⟨f, f1, f2⟩, hZ⟩ := h2
        obtain ⟨⟨f', g1, g2⟩, h5b⟩ := h5
        rw [f1] at g1
        have ff : f = f' := Option.some.inj g1
        rw [ff, g2] at f2
        obtain ⟨z, hz⟩ : ∃ z, cs = [z] := List.length_eq_one_iff.mp f2
        subst hz; subst hZ
        refine ok_some ⟨v1, F2, Or.inr ⟨z, R, V, ⟨⟨v1, v2, ⟨A1, A2⟩, v4, v5⟩, m2, m3, m4, m5⟩, h4, ⟨⟨f', by rw [f1]; exact g1, g2⟩, h5b⟩, by rw [f1]; rfl, by omega, h8, by omega⟩⟩
      · rw [ti_le, e0] at hle
        rw [if_pos m3]
        cases L with
        | nil => simp only [List.length_nil] at A1; omega
        | cons A L =>
          obtain ⟨a1, a2, a3, a4⟩ := A2
          simp only [List.length_cons] at A1
          refine ok_bv (fun μ3 em => ?_)
          have f3 : Fr [(0, 0, 65)] true μ2 μ3 := by rw [em]; exact Fr.put Fr.rf (by decide +kernel)
          have g65 := rgm_0_65 v1
          have y65 : (μ2.1 0 65 - 1).toInt = (L.length : Int) := by rw [ti_sub (by omega) (by omega), e1]; omega
          have hI3 : IM μ3 := by rw [em]; exact IM_F v1 (rpm_0_65 (by rw [y65]; omega))
          have x65 : (μ3.1 0 65).toInt = (L.length : Int) := by rw [em, sF_v]; exact y65
          have G3 : Gr μ2 μ3 := f3.gr (by decide +kernel)
          have hM3 : Mx t b Vb ve μ3 L cs R Zs V := by
            refine ⟨⟨hI3, v2.fr f3 (by decide +kernel), ⟨x65, ?_⟩, v4.fr f3 (by decide +kernel), v5.fr f3 (by decide +kernel)⟩, m2.gr G3, by rw [f3.v (by decide +kernel)]; exact m3, fun ht => ⟨by rw [f3.v (by decide +kernel)]; exact (m4 ht).1, (m4 ht).2.fr f3 (by decide +kernel)⟩, fun ht => ⟨by rw [f3.v (by decide +kernel)]; exact (m5 ht).1, (m5 ht).2⟩⟩
            rw [f3.fe (by decide), f3.fe (by decide), f3.fe (by decide)]; exact a4
          have hJ : Jx t b Vb ve th wo be bh N μ3 A L cs R Zs V T := by
            refine ⟨hM3, Ok.gr G3 _ _ _ _ _ h2, h3, h4.fr f3 (by decide +kernel), h5.fr f3 (by decide +kernel), by rw [cl_fr f3 (by decide +kernel)]; exact h6, by rw [(f3.heq (by decide +kernel)).1, f3.n (by decide +kernel)]; exact h7, by rw [f3.v (by decide +kernel)]; exact h8, by rw [f3.v (by decide +kernel)]; exact h9, by rw [f3.a (by decide)]; exact a3⟩
          obtain ⟨rl, _⟩ := hJ.room
          have n65 : (μ3.1 0 65).toNatClampNeg = L.length := tn_of x65
          have b65 : inb (μ3.1 0 65) 6000 = true := inb_iff.mpr (by omega)
          rw [n65]
          refine ok_gd b65 (ok_gd b65 (ok_gd b65 (ok_bw (g_one hJ (by have := f3.a (c := 37) (by decide) L.length; rw [← a1, ← this]; rfl) (by have := f3.a (c := 38) (by decide) L.length; rw [← a2, ← this]; rfl) (by have := f3.a (c := 39) (by decide) L.length; rw [← a3, ← this]; rfl)) ?_)))
          rintro q ⟨q1, q2, q3⟩
          have Fq : Fr (fg t) true μ q := (F2.trans (fg_mono f3 (by decide +kernel) t)).trans q2
          rcases q3 with q3 | ⟨L2, cs2, R2, Z2, V2, T2, q3, q4⟩
          · -- over: the loop ends
            have y73 : μ3.1 0 73 = μ2.1 0 73 := f3.v (by decide +kernel)
            have q3' : q.1 0 68 ≠ 0 ∧ (t = false → 0 ≤ (q.1 0 73).toInt ∧ (q.1 0 73).toInt ≤ c73 t + 1) := ⟨q3.1, fun ht => by have := q3.2 ht; rw [y73] at this; omega⟩
            have nz : ∀ n : Nat, 0 < n → ok (p_X12_goAll_b0 n q) (Fx t b Vb ve th wo be bh N μ) := by
              intro n hn
              cases n with
              | zero => omega
              | succ n =>
                rw [p_X12_goAll_b0_s]
                exact ok_ite (fun _ => ok_some ⟨q1, Fq, Or.inl q3'⟩) (fun _ => by rw [if_neg q3.1]; exact ok_some ⟨q1, Fq, Or.inl q3'⟩)
            have : 1 ≤ T := by
              have := stp_1 bh A
              have hS : Sp4 bh (A :: L) = stp bh A + Sp4 bh L := rfl
              omega
            exact nz n (by omega)
          · exact ih q L2 cs2 R2 Z2 V2 T2 (by omega) Fq q3
  rw [p_X12_goAll_eq]
  have hb := h.2.2.2.2.2.2.2.2
  have hb8 := h.2.2.2.2.2.2.2.1
  have h73 := c73_le t
  exact loop FUEL μ L cs R Zs V T (by show T < 10000000000; omega) Fr.rf h
