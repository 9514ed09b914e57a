def cq5 (s s2 : Int32) (T : List Th3) : Nat := (T.filter (fun x => decide (x.1 = s ∨ x.1 = s2))).length
theorem cq5_1 (s : Int32) (T : List Th3) : cq5 s s T = nk s T := by
  unfold cq5 nk
  congr 1
  refine List.filter_congr (fun x _ => ?_)
  simp
theorem cq5_2 {s s2 : Int32} (h : s ≠ s2) (T : List Th3) : cq5 s s2 T = nk s T + nk s2 T := by
  unfold cq5 nk
  induction T with
  | nil => rfl
  | cons x T ih =>
    rw [List.filter_cons, List.filter_cons, List.filter_cons]
    by_cases c : x.1 = s
    · rw [if_pos (by simp [c]), if_pos (by simp [c]), if_neg (by simp [c, h]), List.length_cons, List.length_cons, ih]; omega
    · by_cases d : x.1 = s2
      · rw [if_pos (by simp [d]), if_neg (by simp [c]), if_pos (by simp [d]), List.length_cons, List.length_cons, ih]; omega
      · rw [if_neg (by simp [c, d]), if_neg (by simp [c]), if_neg (by simp [d]), ih]
theorem cq5_s {s s2 : Int32} {T : List Th3} {j : Nat} {x : Th3} (h : T[j]? = some x) : cq5 s s2 (T.take (j + 1)) = cq5 s s2 (T.take j) + (if x.1 = s ∨ x.1 = s2 then 1 else 0) := by
  unfold cq5
  rw [List.take_add_one, h, List.filter_append, List.length_append]
  congr 1
  by_cases c : x.1 = s ∨ x.1 = s2
  · rw [if_pos c]; simp [c]
  · rw [if_neg c]; simp [c]
theorem cq5_le (s s2 : Int32) (T : List Th3) : cq5 s s2 T ≤ T.length := List.length_filter_le _ _
theorem q_cts {μ : Mem} {a1 s s2 : Int32} {k b : Nat} {T : List Th3} (hk : a1.toInt = (k : Int)) (hb : (μ.1 5 k).toInt = (b : Int)) (hl : (μ.1 6 k).toInt = (T.length : Int)) (hT : ∀ j x, T[j]? = some x → μ.1 7 (b + j) = x.1) (h8 : b + T.length ≤ 100000) : pk (p_X12_countThings a1 s s2 μ) (fun r => r.1.toInt = (cq5 s s2 T : Int)) := by
  have e0 : (0 : Int32).toInt = 0 := by decide
  have e1 : (1 : Int32).toInt = 1 := by decide
  have loop : ∀ (fu j : Nat) (a4 a5 : Int32), a5.toInt = ((b + j : Nat) : Int) → j ≤ T.length → a4.toInt = (cq5 s s2 (T.take j) : Int) → pk (p_X12_countThings_b11 fu a1 s s2 a4 a5 μ) (fun r => r.1.toInt = (cq5 s s2 T : Int)) := by
    intro fu
    induction fu with
    | zero => intro j a4 a5 _ _ _ r e; rw [p_X12_countThings_b11_z] at e; cases e
    | succ fu ih =>
      intro j a4 a5 h5 hj h4
      have hc : cq5 s s2 (T.take j) ≤ j := Nat.le_trans (cq5_le _ _ _) (by rw [List.length_take]; omega)
      rw [p_X12_countThings_b11_s, tn_of hk, tn_of h5]
      refine pk_gd (fun _ => pk_gd (fun _ => pk_ite (fun c => ?_) (fun c => ?_)))
      · rw [ti_le, ti_add (by omega) (by omega), hb, hl, h5] at c
        have ej : j = T.length := by omega
        exact pk_some (by show a4.toInt = _; rw [h4, ej, List.take_length])
      · rw [ti_le, ti_add (by omega) (by omega), hb, hl, h5] at c
        have hjl : j < T.length := by omega
        obtain ⟨x, hx⟩ : ∃ x, T[j]? = some x := ⟨T[j], List.getElem?_eq_getElem hjl⟩
        have hx7 := hT j x hx
        have hs := cq5_s (s := s) (s2 := s2) hx
        have one : ∀ k0 : Int32, k0.toInt = ((if x.1 = s ∨ x.1 = s2 then 1 else 0 : Nat) : Int) → pk (p_X12_countThings_b58 (p_X12_countThings_b11 fu) a1 s s2 a5 k0 a4 μ) (fun r => r.1.toInt = (cq5 s s2 T : Int)) := by
          intro k0 h0
          rw [p_X12_countThings_b58_eq]
          have hk1 : (if x.1 = s ∨ x.1 = s2 then 1 else 0 : Nat) ≤ 1 := by split <;> omega
          exact pk_bvy (fun v4 e4 => pk_bvy (fun v5 e5 => ih (j + 1) v4 v5 (by rw [e5, ti_add (by omega) (by omega), h5, e1]; omega) (by omega) (by rw [e4, ti_add (by omega) (by omega), h4, h0, hs]; omega)))
        refine pk_gd (fun _ => pk_ite (fun c1 => ?_) (fun c1 => pk_gd (fun _ => pk_ite (fun c2 => ?_) (fun c2 => ?_))))
        · rw [p_X12_countThings_b53_eq]
          rw [hx7] at c1
          exact one 1 (by rw [if_pos (Or.inl c1), e1]; rfl)
        · rw [p_X12_countThings_b53_eq]
          rw [hx7] at c2
          exact one 1 (by rw [if_pos (Or.inr c2), e1]; rfl)
        · rw [hx7] at c1 c2
          exact one 0 (by rw [if_neg (fun e => e.elim c1 c2), e0]; rfl)
  rw [p_X12_countThings_eq, tn_of hk]
  exact pk_gd (fun _ => pk_bvy (fun v1 e1' => loop FUEL 0 0 v1 (by rw [e1', hb]; rfl) (by omega) (by rw [e0]; rfl)))
theorem fn5_at {P : Nat} {μx μs : Mem} : ∀ {G : List Fn5}, Fs5 P G μx → Kr6 μs G → ∀ k, k < G.length → ∃ (f : Fn5) (b : Nat), f ∈ G ∧ Fa5 P k f μx ∧ μs.1 11 k = f.1 - 97 + 1 ∧ (μs.1 12 k).toInt = (f.2.1.length : Int) ∧ (μs.1 14 k).toInt = (b : Int) ∧ (μs.1 15 k).toInt = (f.2.2.1.length : Int) ∧ Tc b f.2.2.1 μs ∧ b + f.2.2.1.length ≤ tot G := by
  intro G
  induction G with
  | nil => intro _ _ k hk; cases hk
  | cons g G ih =>
    rintro ⟨h1, h2⟩ ⟨⟨k1, k2, k3, k4, k5, k6⟩, _, k7⟩ k hk
    have hk : k < G.length + 1 := hk
    rw [tot_c]
    by_cases c : k = G.length
    · subst c
      exact ⟨g, tot G, List.mem_cons_self, h1, k1, k2, k4, k5, k6, by omega⟩
    · obtain ⟨f, b, m, a1, a2, a3, a4, a5, a6, a7⟩ := ih h2 k7 k (by omega)
      exact ⟨f, b, List.mem_cons_of_mem _ m, a1, a2, a3, a4, a5, a6, by omega⟩
theorem rd_function (a1 a2 : Int32) (μx μm : Mem) (h : Rq5 μx μm) : ok (p_X11_function a1 a2 μx) (fun q => ok (p_X12_function a1 a2 μm) (fun z => Rq5 q.2 z.2)) := rdk h (rc_function a1 a2 μx μm h.1) (u_X11_function a1 a2 μx h.2.1) (w_X12_function a1 a2 μm)
theorem rdq_function (a1 a2 : Int32) (μx μm : Mem) (h : Rq5 μx μm) : ok (p_X11_function a1 a2 μx) (fun q => ok (p_X12_function a1 a2 μm) (fun z => Rq5 q.2 z.2 ∧ q.1 = z.1)) := by
  have e0 : (0 : Int32).toInt = 0 := by decide
  have e1 : (1 : Int32).toInt = 1 := by decide
  have e6 : (6 : Int32).toInt = 6 := by decide
  have e97 : (97 : Int32).toInt = 97 := by decide
  obtain ⟨h1, h2, h3, h4, h5, h6, h7⟩ := h.2
  obtain ⟨G, C, ⟨gK, gT, gF, gC, gt, gt8, gc⟩, ⟨m17, m18, mK⟩, g3⟩ := h6
  have hK := gK.len
  rw [map_len] at hK
  have hG0 := gT.1
  rw [map_len] at hG0
  generalize hP : sel 2 (μx.2.2 0 4) = P at *
  have row := rd_function a1 a2 μx μm h
  have no : (a1.toInt < 0 ∨ (G.length : Int) ≤ a1.toInt ∨ a2.toInt < 0 ∨ 6 ≤ a2.toInt) → ok (p_X11_function a1 a2 μx) (fun q => ok (p_X12_function a1 a2 μm) (fun z => Rq5 q.2 z.2 ∧ q.1 = z.1)) := by
    intro hn
    refine eqv (v := -1) row ?_ ?_
    · rw [p_X11_function_eq, hP, p_X3_about_eq]
      refine pk_bd (P := fun r => r.1 = -1) ?_ (fun r μ hr => pk_some hr)
      refine pk_ite (fun _ => pk_some rfl) (fun c => pk_ite (fun _ => pk_some rfl) (fun d => pk_ite (fun _ => pk_some rfl) (fun e => pk_ite (fun w => ?_) (fun _ => pk_some rfl))))
      rw [ti_lt, e0] at c e
      rw [ti_le, hG0] at d
      rw [ti_lt, e6] at w
      omega
    · rw [p_X12_function_eq]
      refine pk_ite (fun _ => pk_some rfl) (fun c => ?_)
      rw [s_X12_isIn_eq] at c
      have c1 : ¬ a1 < 0 := fun x => c (if_pos x)
      rw [if_neg c1] at c
      have c2 : ¬ (μm.1 0 17 - 1) < a1 := fun x => c (if_pos x)
      rw [ti_lt, e0] at c1
      rw [ti_lt, ti_sub (by omega) (by omega), m17, e1] at c2
      have ne : ∀ k : Int32, 0 ≤ k.toInt → k.toInt < 6 → ¬ a2 = k := fun k x y e => by rw [e] at hn; omega
      rw [if_neg (ne 0 (by decide) (by decide)), if_neg (ne 1 (by decide) (by decide)), if_neg (ne 2 (by decide) (by decide)), if_neg (ne 3 (by decide) (by decide)), if_neg (ne 4 (by decide) (by decide)), if_neg (ne 5 (by decide) (by decide))]
      exact pk_some rfl
  by_cases n1 : a1.toInt < 0
  · exact no (Or.inl n1)
  by_cases n2 : (G.length : Int) ≤ a1.toInt
  · exact no (Or.inr (Or.inl n2))
  by_cases n3 : a2.toInt < 0
  · exact no (Or.inr (Or.inr (Or.inl n3)))
  by_cases n4 : 6 ≤ a2.toInt
  · exact no (Or.inr (Or.inr (Or.inr n4)))
  obtain ⟨k, hk⟩ : ∃ k : Nat, a1.toInt = (k : Int) := ⟨a1.toInt.toNat, by omega⟩
  obtain ⟨f, b, fm, ⟨f0, f1, f2, f3, f4, f5, _, _⟩, k11, k12, k14, k15, kT, kb⟩ := fn5_at gF mK k (by omega)
  have fl : isL f.1 = true := (gK.2 (fkey f) (List.mem_map_of_mem fm)).1
  have flr := isL_r fl
  have k11 : μm.1 2 k = f.1 - 97 + 1 := k11
  have k12 : (μm.1 3 k).toInt = (f.2.1.length : Int) := k12
  have k14 : (μm.1 5 k).toInt = (b : Int) := k14
  have k15 : (μm.1 6 k).toInt = (f.2.2.1.length : Int) := k15
  have kT7 : ∀ j x, f.2.2.1[j]? = some x → μm.1 7 (b + j) = x.1 := fun j x hx => (kT j x hx).1
  have kb8 : b + f.2.2.1.length ≤ 100000 := by omega
  have in1 : ¬ s_X12_isIn a1 0 (μm.1 0 17 - 1) = 0 := by
    rw [s_X12_isIn_eq, if_neg (by rw [ti_lt, e0]; omega), if_neg (by rw [ti_lt, ti_sub (by omega) (by omega), m17, e1]; omega)]; decide
  have cl : ∀ (j : Nat) (v : Int32), a2.toInt = (j : Int) → j < 6 → μx.1 (P + 1) (6 * k + j) = v → pk (p_X11_function a1 a2 μx) (fun q => q.1 = v) := by
    intro j v hj hj6 hv
    rw [p_X11_function_eq, hP, p_X3_about_eq, if_neg (by rw [ti_lt, e0]; omega), if_neg (by rw [ti_le, hG0]; omega), if_neg (by rw [ti_lt, e0]; omega), if_pos (by rw [ti_lt, e6]; omega)]
    refine pk_bd (P := fun r => r.1 = v) (pk_gd (fun _ => pk_some ?_)) (fun r μ hr => pk_some hr)
    have m6 : (a1 * 6).toInt = 6 * (k : Int) := by rw [ti_mulc e6 (by omega) (by omega), hk]; omega
    have : (a1 * 6 + a2).toNatClampNeg = 6 * k + j := tn_of (by rw [ti_add (by omega) (by omega), m6, hj]; omega)
    show μx.1 (P + 1) (a1 * 6 + a2).toNatClampNeg = v
    rw [this]; exact hv
  have a2c : a2 = 0 ∨ a2 = 1 ∨ a2 = 2 ∨ a2 = 3 ∨ a2 = 4 ∨ a2 = 5 := by
    have q : ∀ k : Int32, a2.toInt = k.toInt → a2 = k := fun k e => ti_eq.mpr e
    have e2 : (2 : Int32).toInt = 2 := by decide
    have e3 : (3 : Int32).toInt = 3 := by decide
    have e4 : (4 : Int32).toInt = 4 := by decide
    have e5 : (5 : Int32).toInt = 5 := by decide
    rcases (show a2.toInt = 0 ∨ a2.toInt = 1 ∨ a2.toInt = 2 ∨ a2.toInt = 3 ∨ a2.toInt = 4 ∨ a2.toInt = 5 by omega) with e | e | e | e | e | e
    · exact Or.inl (q 0 (by rw [e, e0]))
    · exact Or.inr (Or.inl (q 1 (by rw [e, e1])))
    · exact Or.inr (Or.inr (Or.inl (q 2 (by rw [e, e2]))))
    · exact Or.inr (Or.inr (Or.inr (Or.inl (q 3 (by rw [e, e3])))))
    · exact Or.inr (Or.inr (Or.inr (Or.inr (Or.inl (q 4 (by rw [e, e4]))))))
    · exact Or.inr (Or.inr (Or.inr (Or.inr (Or.inr (q 5 (by rw [e, e5]))))))
  have hk1 := tn_of hk
  rcases a2c with e | e | e | e | e | e
  · refine eqv row (cl 0 _ (by rw [e]; decide) (by omega) rfl) ?_
    rw [p_X12_function_eq, if_neg in1, if_pos e, hk1]
    refine pk_gd (fun _ => pk_some (ti_eq.mpr ?_))
    show (μm.1 2 k).toInt = (μx.1 (P + 1) (6 * k)).toInt
    have d : (f.1 - 97).toInt = f.1.toInt - 97 := by rw [ti_sub (by omega) (by omega), e97]
    rw [k11, f0, ti_add (by omega) (by omega), d, e1]; omega
  · refine eqv row (cl 1 _ (by rw [e]; decide) (by omega) rfl) ?_
    rw [p_X12_function_eq, if_neg in1, if_neg (by rw [e]; decide), if_pos e, hk1]
    refine pk_gd (fun _ => pk_some (ti_eq.mpr ?_))
    show (μm.1 3 k).toInt = _
    rw [k12, f1]
  · refine eqv row (cl 2 _ (by rw [e]; decide) (by omega) rfl) ?_
    rw [p_X12_function_eq, if_neg in1, if_neg (by rw [e]; decide), if_neg (by rw [e]; decide), if_pos e, hk1]
    refine pk_gd (fun _ => pk_some (ti_eq.mpr ?_))
    show (μm.1 6 k).toInt = _
    rw [k15, f2]; rfl
  · refine eqv row (cl 3 _ (by rw [e]; decide) (by omega) rfl) ?_
    rw [p_X12_function_eq, if_neg in1, if_neg (by rw [e]; decide), if_neg (by rw [e]; decide), if_neg (by rw [e]; decide), if_pos e]
    refine pk_bd (q_cts hk k14 k15 kT7 kb8) (fun r μ hr => pk_some (ti_eq.mpr ?_))
    have hr : r.toInt = (cq5 12 12 f.2.2.1 : Int) := hr
    show r.toInt = _
    rw [hr, f3, cq5_1]; rfl
  · refine eqv row (cl 4 _ (by rw [e]; decide) (by omega) rfl) ?_
    rw [p_X12_function_eq, if_neg in1, if_neg (by rw [e]; decide), if_neg (by rw [e]; decide), if_neg (by rw [e]; decide), if_neg (by rw [e]; decide), if_pos e]
    refine pk_bd (q_cts hk k14 k15 kT7 kb8) (fun r μ hr => pk_some (ti_eq.mpr ?_))
    have hr : r.toInt = (cq5 8 8 f.2.2.1 : Int) := hr
    show r.toInt = _
    rw [hr, f4, cq5_1]; rfl
  · refine eqv row (cl 5 _ (by rw [e]; decide) (by omega) rfl) ?_
    rw [p_X12_function_eq, if_neg in1, if_neg (by rw [e]; decide), if_neg (by rw [e]; decide), if_neg (by rw [e]; decide), if_neg (by rw [e]; decide), if_neg (by rw [e]; decide), if_pos e]
    refine pk_bd (q_cts hk k14 k15 kT7 kb8) (fun r μ hr => pk_some (ti_eq.mpr ?_))
    have hr : r.toInt = (cq5 9 10 f.2.2.1 : Int) := hr
    show r.toInt = _
    rw [hr, f5, cq5_2 (by decide)]; rfl
theorem rd_residue (a1 : Int32) (μx μm : Mem) (h : Rq5 μx μm) : ok (p_X11_residue a1 μx) (fun q => ok (p_X12_residue a1 μm) (fun z => Rq5 q.2 z.2)) := rdk h (rc_residue a1 μx μm h.1) (u_X11_residue a1 μx h.2.1) (w_X12_residue a1 μm)
theorem rd_variant (a1 a2 : Int32) (μx μm : Mem) (h : Rq5 μx μm) : ok (p_X11_variant a1 a2 μx) (fun q => ok (p_X12_variant a1 a2 μm) (fun z => Rq5 q.2 z.2)) := rdk h (rc_variant a1 a2 μx μm h.1) (u_X11_variant a1 a2 μx h.2.1) (w_X12_variant a1 a2 μm)
theorem rd_kinds (a1 a2 : Int32) (μx μm : Mem) (h : Rq5 μx μm) : ok (p_X11_kinds a1 a2 μx) (fun q => ok (p_X12_kinds a1 a2 μm) (fun z => Rq5 q.2 z.2)) := rdk h (rc_kinds a1 a2 μx μm h.1) (u_X11_kinds a1 a2 μx h.2.1) (w_X12_kinds a1 a2 μm)
theorem rd_output (a1 a2 : Int32) (μx μm : Mem) (h : Rq5 μx μm) : ok (p_X11_output a1 a2 μx) (fun q => ok (p_X12_output a1 a2 μm) (fun z => Rq5 q.2 z.2)) := rdk h (rc_output a1 a2 μx μm h.1) (u_X11_output a1 a2 μx h.2.1) (w_X12_output a1 a2 μm)
theorem rd_place (a1 : Int32) (μx μm : Mem) (h : Rq5 μx μm) : ok (p_X11_place a1 μx) (fun q => ok (p_X12_place a1 μm) (fun z => Rq5 q.2 z.2)) := rdk h (rc_place a1 μx μm h.1) (u_X11_place a1 μx h.2.1) (w_X12_place a1 μm)
theorem rd_octet (a1 : Int32) (μx μm : Mem) (h : Rq5 μx μm) : ok (p_X11_octet a1 μx) (fun q => ok (p_X12_octet a1 μm) (fun z => Rq5 q.2 z.2)) := rdk h (rc_octet a1 μx μm h.1) (u_X11_octet a1 μx h.2.1) (w_X12_octet a1 μm)
theorem rd_op (a1 a2 a3 : Int32) (μx μm : Mem) (h : Rq5 μx μm) : ok (p_X11_op a1 a2 a3 μx) (fun q => ok (p_X12_op a1 a2 a3 μm) (fun z => Rq5 q.2 z.2)) := rdk h (rc_op a1 a2 a3 μx μm h.1) (u_X11_op a1 a2 a3 μx h.2.1) (w_X12_op a1 a2 a3 μm)
theorem rd_specialise (μx μm : Mem) (h : Rq5 μx μm) : ok (p_X11_specialise μx) (fun q => ok (p_X12_specialise μm) (fun z => Rq5 q.2 z.2)) := rdk h (rc_specialise μx μm h.1) (u_X11_specialise μx h.2.1) (w_X12_specialise μm)
theorem rd_run (a1 a2 : Int32) (μx μm : Mem) (h : Rq5 μx μm) : ok (p_X11_run a1 a2 μx) (fun q => ok (p_X12_run a1 a2 μm) (fun z => Rq5 q.2 z.2)) := rdk h (rc_run a1 a2 μx μm h.1) (u_X11_run a1 a2 μx h.2.1) (w_X12_run a1 a2 μm)
theorem rd_value (μx μm : Mem) (h : Rq5 μx μm) : ok (p_X11_value μx) (fun q => ok (p_X12_value μm) (fun z => Rq5 q.2 z.2)) := rdk h (rc_value μx μm h.1) (u_X11_value μx h.2.1) (w_X12_value μm)
theorem rd_agree (μx μm : Mem) (h : Rq5 μx μm) : ok (p_X11_agree μx) (fun q => ok (p_X12_agree μm) (fun z => Rq5 q.2 z.2)) := rdk h (rc_agree μx μm h.1) (u_X11_agree μx h.2.1) (w_X12_agree μm)
theorem rd_saved (μx μm : Mem) (h : Rq5 μx μm) : ok (p_X11_saved μx) (fun q => ok (p_X12_saved μm) (fun z => Rq5 q.2 z.2)) := rdk h (rc_saved μx μm h.1) (u_X11_saved μx h.2.1) (w_X12_saved μm)
theorem rd_write (a1 : Int32) (μx μm : Mem) (h : Rq5 μx μm) : ok (p_X11_write a1 μx) (fun q => ok (p_X12_write a1 μm) (fun z => Rq5 q.2 z.2)) := rdk h (rc_write a1 μx μm h.1) (u_X11_write a1 μx h.2.1) (w_X12_write a1 μm)
