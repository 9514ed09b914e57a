theorem ug_0 : Ug μX0 := by unfold Ug; decide +kernel
theorem sel_22 : sel 2 2 = 2 := by decide +kernel
theorem sel_29 : sel 2 9 = 9 := by decide +kernel
def Sw5 (μ : Mem) : Prop := (μ.2.2 0 4 = 2 ∧ μ.2.2 0 5 = 9) ∨ (μ.2.2 0 4 = 9 ∧ μ.2.2 0 5 = 2)
def Kh5 (μ q : Mem) : Prop := (∀ i k, 18 ≤ i → i ≤ 29 → q.1 i k = μ.1 i k ∧ q.2.1 i k = μ.2.1 i k) ∧ q.1 0 10 = μ.1 0 10 ∧ (∀ k, k ≤ 2 → q.1 137 k = μ.1 137 k) ∧ ∀ k, 6 ≤ k → k ≤ 9 → q.2.2 0 k = μ.2.2 0 k
def Kp6 (μ q : Mem) : Prop := q.2.2 0 4 = μ.2.2 0 4 ∧ q.2.2 0 5 = μ.2.2 0 5 ∧ ∀ i k, sel 2 (μ.2.2 0 4) ≤ i → i ≤ sel 2 (μ.2.2 0 4) + 6 → q.1 i k = μ.1 i k
theorem Pc5.of {μ q : Mem} {G : List Fn5} {C : List Th3} (h : Pc5 μ G C) (k : Kp6 μ q) : Pc5 q G C := by
  obtain ⟨k4, _, kk⟩ := k
  obtain ⟨oK, ⟨x1, x2, x3, x4⟩, oF, oC, ot, ot8, oc⟩ := h
  unfold Pc5
  rw [k4]
  generalize sel 2 (μ.2.2 0 4) = P at *
  exact ⟨oK, ⟨by rw [kk P 0 (by omega) (by omega)]; exact x1, by rw [kk P 2 (by omega) (by omega)]; exact x2, fun i hi => by rw [kk _ _ (by omega) (by omega)]; exact x3 i hi, fun k hk => by rw [kk (P + 3) k (by omega) (by omega)]; exact x4 k hk⟩, oF.cong (fun k _ => kk _ _ (by omega) (by omega)) (fun k _ => kk _ _ (by omega) (by omega)) (fun f _ => kk _ _ (by omega) (by omega)), oC.cong (kk _ _ (by omega) (by omega)) (fun k => kk _ _ (by omega) (by omega)) (fun k => kk _ _ (by omega) (by omega)) (fun k => kk _ _ (by omega) (by omega)), by rw [kk _ _ (by omega) (by omega)]; exact ot, ot8, oc⟩
theorem q_take11F (μ : Mem) : pk (p_X11_takeTape μ) (fun q => q.2 = μ.2 ∧ ∀ i k, i ≠ 16 → ¬ (i = 0 ∧ k = 1) → q.1 i k = μ.1 i k) := by
  rw [p_X11_takeTape_eq]
  refine pk_bw (P := fun q => q.2 = μ.2 ∧ ∀ i k, i ≠ 16 → q.1 i k = μ.1 i k) ?_ (fun q hq => pk_bv (pk_some ⟨hq.1, fun i k a b => ?_⟩))
  · rw [p_X4_begin_eq]
    exact pk_bvy (fun μ1 m1 => pk_bvy (fun μ2 m2 => pk_bvy (fun μ3 m3 => pk_some ⟨by rw [m3, m2, m1]; rfl, fun i k hi => by rw [m3, sF_i hi, m2, sF_i hi, m1, sF_i hi]⟩)))
  · rw [sF_1]
    by_cases e : i = 0
    · rw [if_pos e, if_neg (fun e2 => b ⟨e, e2⟩), ← e]; exact hq.2 i k a
    · rw [if_neg e]; exact hq.2 i k a
theorem q_prog11F {μ : Mem} (hU : Ug μ) (hS : Sw5 μ) : pk (p_X11_program μ) (fun r => Ug r.2 ∧ Sw5 r.2 ∧ Kh5 μ r.2 ∧ (r.2.1 0 2 = -1 ∨ Kp6 μ r.2)) := by
  rw [p_X11_program_eq]
  refine pk_bw (q_take11F μ) ?_
  rintro μ1 ⟨f1, g1⟩
  obtain ⟨P, Q, hP, s5, sP, s4, sQ, hd⟩ : ∃ P Q, P29 P ∧ μ.2.2 0 5 = P ∧ sel 2 P = P ∧ μ.2.2 0 4 = Q ∧ sel 2 Q = Q ∧ (P = 2 ∧ Q = 9 ∨ P = 9 ∧ Q = 2) := by
    rcases hS with ⟨a, b⟩ | ⟨a, b⟩
    · exact ⟨9, 2, by unfold P29; omega, b, sel_29, a, sel_22, Or.inr ⟨rfl, rfl⟩⟩
    · exact ⟨2, 9, by unfold P29; omega, b, sel_22, a, sel_29, Or.inl ⟨rfl, rfl⟩⟩
  rw [show μ1.2.2 0 5 = P by rw [f1]; exact s5, sP, p_X4_readProgram_eq]
  refine pk_bw (P := fun q => Vz5 P (sR μ1 16 4 P) q) ?_ ?_
  · refine pk_bvy (fun μ2 e2 => ?_)
    have r2 : μ2.2.2 16 4 = P := by rw [e2, sR_3, if_pos rfl, if_pos rfl]
    have V2 : Vg5 P μ2 := ⟨hP, by rw [r2]; exact sP⟩
    rw [r2, sP, ← e2]
    exact pk_bw (v_X3_clear P μ2 rfl V2) (fun μ3 z3 => pk_mono (v_X4_readProgram_b14 FUEL 0 μ3 z3.1) (fun q hq => z3.tr hq))
  rintro μ3 ⟨_, z3, f3⟩
  refine pk_bd (P := fun r => r.2 = μ3) (by rw [p_X4_badPlace_eq]; exact pk_some rfl) ?_
  rintro r6 μ5 e
  have e : μ5 = μ3 := e
  subst e
  refine pk_bvy (fun μ7 m7 => ?_)
  have f7 : μ7.2 = (sR μ1 16 4 P).2 := by rw [m7]; exact f3
  have r7 : ∀ i k, i ≠ 16 → μ7.2.2 i k = μ.2.2 i k := fun i k hi => by rw [f7, sR_3, if_neg hi, f1]
  have l7 : μ7.2.1 = μ.2.1 := by rw [f7, sR_2, f1]
  have i7 : ∀ i k, Pv5 P i k → ¬ (i = 0 ∧ k = 2) → μ7.1 i k = μ.1 i k := by
    intro i k hp h2
    have h1 : (sR μ1 16 4 P).1 i k = μ.1 i k := by
      rw [sR_1]
      exact g1 i k (by unfold Pv5 at hp; omega) (by unfold Pv5 at hp; omega)
    rw [m7, sF_1]
    by_cases e : i = 0
    · rw [if_pos e, if_neg (fun e2 => h2 ⟨e, e2⟩), ← e, z3 i k hp]; exact h1
    · rw [if_neg e, z3 i k hp]; exact h1
  have K7 : Kh5 μ μ7 := ⟨fun i k a b => ⟨i7 i k (by unfold Pv5; omega) (by omega), by rw [l7]⟩, i7 0 10 (by unfold Pv5; omega) (by omega), fun k hk => i7 137 k (by unfold Pv5; omega) (by omega), fun k _ _ => r7 0 k (by omega)⟩
  have U7 : Ug μ7 := by unfold Ug; rw [r7 137 14 (by omega), r7 137 15 (by omega)]; exact hU
  have S7 : Sw5 μ7 := by unfold Sw5; rw [r7 0 4 (by omega), r7 0 5 (by omega)]; exact hS
  refine pk_ite (fun c => ?_) (fun c => ?_)
  · refine pk_bvy (fun μ9 m9 => pk_bvy (fun μ10 m10 => pk_bw (q_clear5 μ10) ?_))
    rintro μ11 ⟨k1, k2⟩
    have r10 : ∀ i k, μ11.2.2 i k = if i = 0 then (if k = 5 then sel 2 (μ7.2.2 0 4) else if k = 4 then sel 2 (μ7.2.2 0 5) else μ7.2.2 0 k) else μ7.2.2 i k := by
      intro i k
      rw [k1, m10, sR_3, m9, sR_3, sR_3]
      by_cases e : i = 0
      · subst e; rw [if_pos rfl, if_pos rfl, if_pos rfl]
      · rw [if_neg e, if_neg e, if_neg e]
    have i11 : ∀ i k, i ≠ 39 → μ11.1 i k = μ7.1 i k := fun i k hi => by rw [k2 i k hi, m10, sR_1, m9, sR_1]
    have l11 : μ11.2.1 = μ7.2.1 := by rw [k1, m10, sR_2, m9, sR_2]
    refine pk_some ⟨?_, ?_, ⟨fun i k a b => ⟨?_, ?_⟩, ?_, fun k hk => ?_, fun k a b => ?_⟩, Or.inl ?_⟩
    · show Ug μ11
      unfold Ug
      rw [r10 137 14, r10 137 15, if_neg (by omega), if_neg (by omega)]; exact U7
    · show Sw5 μ11
      unfold Sw5
      rw [r10, r10, if_pos rfl, if_pos rfl, if_neg (by decide), if_pos rfl, if_pos rfl, r7 0 4 (by omega), r7 0 5 (by omega), s4, s5, sP, sQ]
      omega
    · show μ11.1 i k = _; rw [i11 i k (by omega)]; exact (K7.1 i k a b).1
    · show μ11.2.1 i k = _; rw [l11]; exact (K7.1 i k a b).2
    · show μ11.1 0 10 = _; rw [i11 0 10 (by omega)]; exact K7.2.1
    · show μ11.1 137 k = _; rw [i11 137 k (by omega)]; exact K7.2.2.1 k hk
    · show μ11.2.2 0 k = _; rw [r10, if_pos rfl, if_neg (by omega), if_neg (by omega)]; exact K7.2.2.2 k a b
    · show μ11.1 0 2 = -1; rw [i11 0 2 (by omega)]; exact c
  · refine pk_some ⟨U7, S7, K7, Or.inr ⟨r7 0 4 (by omega), r7 0 5 (by omega), fun i k a b => ?_⟩⟩
    rw [s4, sQ] at a b
    exact i7 i k (by unfold Pv5; omega) (by omega)
def Kq6 (μ q : Mem) : Prop := (∀ i k, 2 ≤ i → i ≤ 15 → q.1 i k = μ.1 i k) ∧ (∀ k, k ≤ 2 → q.1 137 k = μ.1 137 k) ∧ ∀ i k, ¬ (i = 0 ∧ 6 ≤ k ∧ k ≤ 9) → q.2.2 i k = μ.2.2 i k
theorem Kq6.kp {μ q : Mem} (h : Kq6 μ q) (hS : Sw5 μ) : Kp6 μ q := by
  refine ⟨h.2.2 0 4 (by omega), h.2.2 0 5 (by omega), fun i k a b => ?_⟩
  rcases hS with ⟨x, _⟩ | ⟨x, _⟩
  · rw [x, sel_22] at a b; exact h.1 i k (by omega) (by omega)
  · rw [x, sel_29] at a b; exact h.1 i k (by omega) (by omega)
theorem Kq6.ug {μ q : Mem} (h : Kq6 μ q) (hU : Ug μ) : Ug q := by unfold Ug; rw [h.2.2 137 14 (by omega), h.2.2 137 15 (by omega)]; exact hU
theorem PL.of {μ q : Mem} {a : Nat} {L : List Tkn} (h : PL μ a L) (h1 : q.1 a 2 = μ.1 a 2) (h2 : ∀ i, q.2.1 (a + 1) i = μ.2.1 (a + 1) i) : PL q a L := ⟨⟨by rw [h1]; exact h.1.1, fun i x hx => by rw [h2 i]; exact h.1.2 i x hx⟩, h.2⟩
theorem q_task11L {T : Nat} {μ : Mem} (hT : (μ.1 0 1).toInt = (T : Int)) (h8 : T ≤ 800) (hR : Rfi μ) : pk (p_X11_task μ) (fun r => Kq6 μ r.2 ∧ match rtL (fun j => μ.1 1 j) T with
    | .inl f => r.1 = -1 ∧ (r.2.1 0 2).toInt = (f : Int) ∧ r.2.1 0 10 = μ.1 0 10 ∧ (∀ k, r.2.2.2 0 k = μ.2.2 0 k) ∧ ∀ i k, ¬ (sel 1 (μ.2.2 0 7) ≤ i ∧ i ≤ sel 1 (μ.2.2 0 7) + 2) → 18 ≤ i → i ≤ 29 → r.2.1 i k = μ.1 i k ∧ r.2.2.1 i k = μ.2.1 i k
    | .inr (j, L) => r.2.1 0 2 = -1 ∧ r.2.1 0 10 = 0 ∧ r.1.toInt = (stc L : Int) ∧ PL r.2 (sel 1 (r.2.2.2 0 6)) L ∧ ∃ x : Int32, x.toInt = (j : Int) ∧ r.2.1 (sel 1 (r.2.2.2 0 6)) 3 = (hr (fun j => μ.1 1 j) T 0 - 97) * 6 + x) := by
  have main : ∀ a b : Nat, (a = 18 ∨ a = 21) → (b = 18 ∨ b = 21) → a ≠ b → μ.2.2 0 7 = a → μ.2.2 0 6 = b → pk (p_X11_task μ) (fun r => Kq6 μ r.2 ∧ match rtL (fun j => μ.1 1 j) T with
    | .inl f => r.1 = -1 ∧ (r.2.1 0 2).toInt = (f : Int) ∧ r.2.1 0 10 = μ.1 0 10 ∧ (∀ k, r.2.2.2 0 k = μ.2.2 0 k) ∧ ∀ i k, ¬ (sel 1 (μ.2.2 0 7) ≤ i ∧ i ≤ sel 1 (μ.2.2 0 7) + 2) → 18 ≤ i → i ≤ 29 → r.2.1 i k = μ.1 i k ∧ r.2.2.1 i k = μ.2.1 i k
    | .inr (j, L) => r.2.1 0 2 = -1 ∧ r.2.1 0 10 = 0 ∧ r.1.toInt = (stc L : Int) ∧ PL r.2 (sel 1 (r.2.2.2 0 6)) L ∧ ∃ x : Int32, x.toInt = (j : Int) ∧ r.2.1 (sel 1 (r.2.2.2 0 6)) 3 = (hr (fun j => μ.1 1 j) T 0 - 97) * 6 + x) := by
    intro a b ha hb hab h7 h6
    have sa : sel 1 a = a := by rcases ha with rfl | rfl; exact sel_18; exact sel_21
    have sb : sel 1 b = b := by rcases hb with rfl | rfl; exact sel_18; exact sel_21
    have hs : sh 0 a = (0, 1) := by rcases ha with rfl | rfl; exact shx_18; exact shx_21
    rw [p_X11_task_eq]
    refine pk_bw (pk_both (q_take11 hT h8) (q_take11F μ)) ?_
    rintro μ1 ⟨⟨f1, w1⟩, _, g1⟩
    rw [show μ1.2.2 0 7 = a by rw [f1]; exact h7, sa]
    refine pk_bw (q_XtaskL hs ⟨by omega, by omega⟩ w1) ?_
    rintro μ3 ⟨⟨f3, g3, l3⟩, o3⟩
    have f3' : μ3.2.2 = μ.2.2 := by rw [f3, f1]
    refine pk_bd (P := fun r => r.2 = μ3 ∧ r.1 = μ3.1 16 3) (by rw [p_X4_badPlace_eq]; exact pk_some ⟨rfl, rfl⟩) ?_
    rintro r6 μ5 ⟨e, hr6⟩
    have e : μ5 = μ3 := e
    subst e
    have hr6 : r6 = μ5.1 16 3 := hr6
    refine pk_bvy (fun μ7 m7 => ?_)
    have t2 : μ7.1 0 2 = μ5.1 16 3 := by rw [m7, sF_v, hr6]
    have f7 : μ7.2 = μ5.2 := by rw [m7]; rfl
    have i7 : ∀ i k, i ≠ 16 → i ≠ a → ¬ (i = 0 ∧ (k = 1 ∨ k = 2)) → μ7.1 i k = μ.1 i k := by
      intro i k x y z
      have h1 : μ5.1 i k = μ.1 i k := (g3 i k x y).trans (g1 i k x (by omega))
      rw [m7, sF_1]
      by_cases e : i = 0
      · rw [if_pos e, if_neg (by omega), ← e]; exact h1
      · rw [if_neg e]; exact h1
    have l7 : ∀ i k, i ≠ a + 1 → i ≠ a + 2 → μ7.2.1 i k = μ.2.1 i k := fun i k x y => by rw [f7, l3 i k x y, f1]
    have r7 : μ7.2.2 = μ.2.2 := by rw [f7]; exact f3'
    cases ho : rtL (fun j => μ.1 1 j) T with
    | inl f =>
      rw [ho] at o3
      have o3 : Xf _ T f μ5 := o3
      rw [if_neg (by rw [t2]; exact xf_bad o3)]
      refine pk_some ⟨⟨fun i k x y => i7 i k (by omega) (by omega) (by omega), fun k hk => i7 137 k (by omega) (by omega) (by omega), fun i k _ => by show μ7.2.2 i k = _; rw [r7]⟩, rfl, by show (μ7.1 0 2).toInt = _; rw [t2]; exact o3.2, i7 0 10 (by omega) (by omega) (by omega), fun k => by show μ7.2.2 0 k = _; rw [r7], fun i k x y z => ?_⟩
      rw [h7, sa] at x
      exact ⟨i7 i k (by omega) (by omega) (by omega), l7 i k (by omega) (by omega)⟩
    | inr v =>
      obtain ⟨j, L⟩ := v
      rw [ho] at o3
      obtain ⟨o3, hP, x, hx, hk⟩ : μ5.1 16 3 = -1 ∧ PL μ5 a L ∧ ∃ x : Int32, x.toInt = (j : Int) ∧ μ5.1 a 3 = (hr (fun j => μ.1 1 j) T 0 - 97) * 6 + x := o3
      rw [if_pos (by rw [t2]; exact o3)]
      have i7' : μ7.2.2 0 7 = a := by rw [f7, f3']; exact h7
      have i6 : μ7.2.2 0 6 = b := by rw [f7, f3']; exact h6
      rw [i7', i6, sa, sb]
      refine pk_bvy (fun μ9 m9 => pk_bvy (fun μ10 m10 => pk_bvy (fun μ11 m11 => ?_)))
      have r11 : ∀ i k, μ11.2.2 i k = if i = 0 then (if k = 7 then b else if k = 6 then a else μ7.2.2 0 k) else μ7.2.2 i k := by
        intro i k
        rw [m11, sF_2, m10, sR_3, m9, sR_3, sR_3]
        by_cases e : i = 0
        · subst e; rw [if_pos rfl, if_pos rfl, if_pos rfl]
        · rw [if_neg e, if_neg e, if_neg e]
      have l11 : μ11.2.1 = μ5.2.1 := by rw [m11, sF_2, m10, sR_2, m9, sR_2, f7]
      have n11 : ∀ i k, i ≠ 0 → μ11.1 i k = μ5.1 i k := by
        intro i k hi
        rw [m11, sF_i hi, m10, sR_1, m9, sR_1, m7, sF_i hi]
      have i8 : μ11.2.2 0 8 = μ.2.2 0 8 := by rw [r11, if_pos rfl, if_neg (by decide), if_neg (by decide), f7, f3']
      have i6' : μ11.2.2 0 6 = a := by rw [r11, if_pos rfl, if_neg (by decide), if_pos rfl]
      obtain ⟨c, hc, hc8, sc8⟩ : ∃ c, (c = 24 ∨ c = 27) ∧ μ11.2.2 0 8 = c ∧ sel 1 c = c := by
        rcases hR.2 with ⟨x, _⟩ | ⟨x, _⟩
        · exact ⟨24, Or.inl rfl, by rw [i8, x], sel_24⟩
        · exact ⟨27, Or.inr rfl, by rw [i8, x], sel_27⟩
      rw [hc8, sc8]
      refine pk_bw (q_begin2 c 0 μ11) ?_
      rintro μ12 ⟨f12, g12⟩
      refine pk_bw (q_clear5 μ12) ?_
      rintro μ14 ⟨f14, g14⟩
      have P14 : PL μ14 a L := hP.of (by rw [g14 a 2 (by omega), g12 a 2 (by omega), n11 a 2 (by omega)]) (fun i => by rw [f14, f12, l11])
      have j6 : μ14.2.2 0 6 = a := by rw [f14, f12]; exact i6'
      rw [j6, sa]
      refine pk_bd (q_stars P14.pm) ?_
      rintro r17 μ16 ⟨e, hst⟩
      have e : μ16 = μ14 := e
      subst e
      have i14 : ∀ i k, i ≠ 39 → i ≠ c → i ≠ 16 → i ≠ a → ¬ (i = 0 ∧ (k = 1 ∨ k = 2 ∨ k = 10)) → μ16.1 i k = μ.1 i k := by
        intro i k x1 x2 x3 x4 x5
        rw [g14 i k x1, g12 i k x2, m11, sF_1]
        by_cases e : i = 0
        · rw [if_pos e, if_neg (by omega), m10, sR_1, m9, sR_1, ← e]; exact i7 i k x3 x4 (by omega)
        · rw [if_neg e, m10, sR_1, m9, sR_1]; exact i7 i k x3 x4 (by omega)
      refine pk_some ⟨⟨fun i k x y => i14 i k (by omega) (by omega) (by omega) (by omega) (by omega), fun k hk => i14 137 k (by omega) (by omega) (by omega) (by omega) (by omega), fun i k hi => ?_⟩, ?_, ?_, hst, ?_, x, hx, ?_⟩
      · show μ16.2.2 i k = _
        rw [f14, f12, r11]
        by_cases e : i = 0
        · rw [if_pos e, if_neg (by omega), if_neg (by omega), r7, e]
        · rw [if_neg e, r7]
      · show μ16.1 0 2 = -1
        rw [g14 0 2 (by omega), g12 0 2 (by omega), m11, sF_k (by decide), m10, sR_1, m9, sR_1, t2]; exact o3
      · show μ16.1 0 10 = 0
        rw [g14 0 10 (by omega), g12 0 10 (by omega), m11, sF_v]
      · show PL μ16 (sel 1 (μ16.2.2 0 6)) L
        rw [j6, sa]; exact P14
      · show μ16.1 (sel 1 (μ16.2.2 0 6)) 3 = _
        rw [j6, sa, g14 a 3 (by omega), g12 a 3 (by omega), n11 a 3 (by omega)]; exact hk
  rcases hR.1 with ⟨x, y⟩ | ⟨x, y⟩
  · exact main 21 18 (by omega) (by omega) (by omega) y x
  · exact main 18 21 (by omega) (by omega) (by omega) y x
