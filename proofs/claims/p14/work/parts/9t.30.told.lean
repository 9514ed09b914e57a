def Ask5 (μx μm : Mem) : Prop := ∃ L, PL μx (sel 1 (μx.2.2 0 6)) L ∧ μx.1 (sel 1 (μx.2.2 0 6)) 3 = (μm.1 0 42 - 1) * 6 + μm.1 0 43 ∧ (μm.1 0 44).toInt = (L.length : Int) ∧ Lr5 μm 25 L ∧ (μm.1 0 45).toInt = (stc L : Int) ∧ ((L = [] ∧ μm.1 0 42 = 1 ∧ μm.1 0 43 = 0) ∨ ∃ t n j, rtL t n = .inr (j, L) ∧ μm.1 0 42 = hr t n 0 - 97 + 1 ∧ (μm.1 0 43).toInt = (j : Int))
def Tol5 (μx μm : Mem) : Prop := (μx.1 0 10 = 0 ∧ μm.1 0 47 = 0) ∨ (μx.1 0 10 = 1 ∧ μm.1 0 47 = μm.1 0 45 ∧ ∃ V t n m, rvL t n m = .inr V ∧ (μm.1 0 45).toInt = (m : Int) ∧ PL μx (sel 1 (μx.2.2 0 8)) V ∧ (μm.1 0 46).toInt = (V.length : Int) ∧ Lr5 μm 27 V)
def Prg5 (μx μm : Mem) : Prop := ∃ G C, Pc5 μx G C ∧ Pn5 μm G ∧ ((G = [] ∧ C = []) ∨ ∃ t n, rpgP t n 801 (0, [], []) = .inr (G, C))
def Lim5 (μx μm : Mem) : Prop := ∀ k, k ≤ 2 → μx.1 137 k = μm.1 29 k
def Rdx (μx μm : Mem) : Prop := Ug μx ∧ Sw5 μx ∧ μx.1 0 2 = μm.1 0 5 ∧ Ask5 μx μm ∧ Tol5 μx μm ∧ Prg5 μx μm ∧ Lim5 μx μm
def Rq5 (μx μm : Mem) : Prop := Rc μx μm ∧ Rdx μx μm
theorem Lr5.of {μ q : Mem} {a : Nat} {L : List Tkn} (h : Lr5 μ a L) (c : ∀ k, q.1 a k = μ.1 a k ∧ q.1 (a + 1) k = μ.1 (a + 1) k) : Lr5 q a L := fun i x hx => by rw [(c i).1, (c i).2]; exact h i x hx
theorem Ask5.of {μx μm q z : Mem} (h : Ask5 μx μm) (hR : Rfi μx) (r : q.2.2 0 6 = μx.2.2 0 6) (c : ∀ i k, sel 1 (μx.2.2 0 6) ≤ i → i ≤ sel 1 (μx.2.2 0 6) + 2 → q.1 i k = μx.1 i k ∧ q.2.1 i k = μx.2.1 i k) (m : (∀ i k, i = 25 ∨ i = 26 → z.1 i k = μm.1 i k) ∧ ∀ k, 42 ≤ k → k ≤ 45 → z.1 0 k = μm.1 0 k) : Ask5 q z := by
  obtain ⟨L, h1, h2, h3, h4, h5, h6⟩ := h
  refine ⟨L, ?_⟩
  rw [r, m.2 42 (by omega) (by omega), m.2 43 (by omega) (by omega), m.2 44 (by omega) (by omega), m.2 45 (by omega) (by omega)]
  generalize sel 1 (μx.2.2 0 6) = a at *
  exact ⟨h1.of (c a 2 (by omega) (by omega)).1 (fun i => (c (a + 1) i (by omega) (by omega)).2), by rw [(c a 3 (by omega) (by omega)).1]; exact h2, h3, h4.of (fun k => ⟨m.1 25 k (Or.inl rfl), m.1 26 k (Or.inr rfl)⟩), h5, h6⟩
theorem Tol5.of {μx μm q z : Mem} (h : Tol5 μx μm) (r : q.2.2 0 8 = μx.2.2 0 8) (e : q.1 0 10 = μx.1 0 10) (c : ∀ i k, sel 1 (μx.2.2 0 8) ≤ i → i ≤ sel 1 (μx.2.2 0 8) + 2 → q.1 i k = μx.1 i k ∧ q.2.1 i k = μx.2.1 i k) (m : Kn6 μm z) : Tol5 q z := by
  unfold Tol5 at h ⊢
  rw [r, e, m.2 45 (by omega) (by omega), m.2 46 (by omega) (by omega), m.2 47 (by omega) (by omega)]
  generalize sel 1 (μx.2.2 0 8) = a at *
  rcases h with h | ⟨h1, h2, V, t, n, mm, h3, h4, h5, h6, h7⟩
  · exact Or.inl h
  · exact Or.inr ⟨h1, h2, V, t, n, mm, h3, h4, h5.of (c a 2 (by omega) (by omega)).1 (fun i => (c (a + 1) i (by omega) (by omega)).2), h6, h7.of (fun k => ⟨m.1 27 k (by omega) (by omega), m.1 28 k (by omega) (by omega)⟩)⟩
theorem Prg5.of {μx μm q z : Mem} (h : Prg5 μx μm) (k : Kp6 μx q) (m0 : z.1 0 17 = μm.1 0 17 ∧ z.1 0 18 = μm.1 0 18) (m : ∀ i k, 2 ≤ i → i ≤ 9 → z.1 i k = μm.1 i k) : Prg5 q z := by
  obtain ⟨G, C, h1, h2, h3⟩ := h
  exact ⟨G, C, h1.of k, h2.of (fun k hk => by rcases hk with e | e <;> rw [e]; exact m0.1; exact m0.2) m, h3⟩
theorem Lim5.of {μx μm q z : Mem} (h : Lim5 μx μm) (c : ∀ k, k ≤ 2 → q.1 137 k = μx.1 137 k) (m : ∀ k, z.1 29 k = μm.1 29 k) : Lim5 q z := fun k hk => by rw [c k hk, m k]; exact h k hk
theorem rfi_6 {μ : Mem} (h : Rfi μ) : sel 1 (μ.2.2 0 6) = μ.2.2 0 6 ∧ sel 1 (μ.2.2 0 7) = μ.2.2 0 7 ∧ sel 1 (μ.2.2 0 8) = μ.2.2 0 8 ∧ sel 1 (μ.2.2 0 9) = μ.2.2 0 9 := by
  refine ⟨?_, ?_, ?_, ?_⟩
  · rcases h.1 with ⟨a, b⟩ | ⟨a, b⟩ <;> rw [a]; exact sel_18; exact sel_21
  · rcases h.1 with ⟨a, b⟩ | ⟨a, b⟩ <;> rw [b]; exact sel_21; exact sel_18
  · rcases h.2 with ⟨a, b⟩ | ⟨a, b⟩ <;> rw [a]; exact sel_24; exact sel_27
  · rcases h.2 with ⟨a, b⟩ | ⟨a, b⟩ <;> rw [b]; exact sel_27; exact sel_24
theorem rfi_b {μ : Mem} (h : Rfi μ) : (18 ≤ μ.2.2 0 6 ∧ μ.2.2 0 6 ≤ 21) ∧ (24 ≤ μ.2.2 0 8 ∧ μ.2.2 0 8 ≤ 27) := by
  obtain ⟨h1, h2⟩ := h; omega
theorem Uz.kp {μ q : Mem} (h : Uz μ q) (hS : Sw5 μ) : Kp6 μ q := by
  refine ⟨h.2.2.2 4 (by omega) (by omega), h.2.2.2 5 (by omega) (by omega), fun i k a b => ?_⟩
  rcases hS with ⟨x, _⟩ | ⟨x, _⟩
  · rw [x, sel_22] at a b; exact h.2.1 i k (by unfold Pu; omega)
  · rw [x, sel_29] at a b; exact h.2.1 i k (by unfold Pu; omega)
theorem rdx_keep {μx μm q z : Mem} (h : Rdx μx μm) (hR : Rfi μx) (hq : Uz μx q) (m1 : Km6 μm z) (m2 : Kn6 μm z) (f : z.1 0 5 = μm.1 0 5) : Rdx q z := by
  obtain ⟨h1, h2, h3, h4, h5, h6, h7⟩ := h
  obtain ⟨b1, b2⟩ := rfi_b hR
  obtain ⟨s6, _, s8, _⟩ := rfi_6 hR
  refine ⟨hq.1, ?_, ?_, h4.of hR (hq.2.2.2 6 (by omega) (by omega)) (fun i k a b => ?_) ⟨fun i k e => m2.1 i k (by omega) (by omega), fun k a b => m2.2 k a (by omega)⟩, h5.of (hq.2.2.2 8 (by omega) (by omega)) (hq.2.1 0 10 (by unfold Pu; omega)) (fun i k a b => ?_) m2, h6.of (hq.kp h2) m1.2 (fun i k a b => m1.1 i k (by omega)), h7.of (fun k hk => hq.2.1 137 k (by unfold Pu; omega)) (fun k => m1.1 29 k (by omega))⟩
  · unfold Sw5; rw [hq.2.2.2 4 (by omega) (by omega), hq.2.2.2 5 (by omega) (by omega)]; exact h2
  · rw [hq.2.1 0 2 (by unfold Pu; omega), f]; exact h3
  · rw [s6] at a b; exact ⟨hq.2.1 i k (by unfold Pu; omega), hq.2.2.1 i k (by unfold Pul; omega)⟩
  · rw [s8] at a b; exact ⟨hq.2.1 i k (by unfold Pu; omega), hq.2.2.1 i k (by unfold Pul; omega)⟩
theorem Tz.km {μ z : Mem} (h : Tz μ z) : Km6 μ z ∧ Kn6 μ z ∧ z.1 0 5 = μ.1 0 5 := ⟨⟨fun i k hh => h i k (by unfold Pz; omega), h 0 17 (by unfold Pz; omega), h 0 18 (by unfold Pz; omega)⟩, ⟨fun i k a b => h i k (by unfold Pz; omega), fun k a b => h 0 k (by unfold Pz; omega)⟩, h 0 5 (by unfold Pz; omega)⟩
theorem Yz5.km {μ z : Mem} (h : Yz5 μ z) : Km6 μ z ∧ Kn6 μ z := ⟨⟨fun i k hh => h i k (by unfold Py5; omega), h 0 17 (by unfold Py5; omega), h 0 18 (by unfold Py5; omega)⟩, ⟨fun i k a b => h i k (by unfold Py5; omega), fun k a b => h 0 k (by unfold Py5; omega)⟩⟩
theorem rdk {f g : Option (Int32 × Mem)} {μx μm : Mem} (h : Rq5 μx μm) (hc : ok f (fun q => ok g (fun z => Rc q.2 z.2))) (hu : pk f (fun q => Uz μx q.2)) (hz : pk g (fun z => Tz μm z.2)) : ok f (fun q => ok g (fun z => Rq5 q.2 z.2)) := by
  refine ok_imp ?_ (ok_pk hc hu)
  rintro q ⟨q1, q2⟩
  refine ok_imp ?_ (ok_pk q1 hz)
  rintro z ⟨z1, z2⟩
  have hk := Tz.km z2
  exact ⟨z1, rdx_keep h.2 h.1.2.2 q2 hk.1 hk.2.1 hk.2.2⟩
theorem rdkq {f g : Option (Int32 × Mem)} {μx μm : Mem} (h : Rq5 μx μm) (hc : ok f (fun q => ok g (fun z => Rc q.2 z.2 ∧ q.1 = z.1))) (hu : pk f (fun q => Uz μx q.2)) (hz : pk g (fun z => Tz μm z.2)) : ok f (fun q => ok g (fun z => Rq5 q.2 z.2 ∧ q.1 = z.1)) := by
  refine ok_imp ?_ (ok_pk hc hu)
  rintro q ⟨q1, q2⟩
  refine ok_imp ?_ (ok_pk q1 hz)
  rintro z ⟨⟨z1, z3⟩, z2⟩
  have hk := Tz.km z2
  exact ⟨⟨z1, rdx_keep h.2 h.1.2.2 q2 hk.1 hk.2.1 hk.2.2⟩, z3⟩
theorem rdf {f g : Option (Int32 × Mem)} (h : ok f (fun q => ok g (fun z => Rq5 q.2 z.2 ∧ q.1 = z.1))) : ok f (fun q => ok g (fun z => Rq5 q.2 z.2)) := ok_imp (fun q h => ok_imp (fun z h => h.1) h) h
theorem rdq_feed (a1 a2 a3 a4 a5 : Int32) (μx μm : Mem) (h : Rq5 μx μm) : ok (p_X11_feed a1 a2 a3 a4 a5 μx) (fun q => ok (p_X12_feed a1 a2 a3 a4 a5 μm) (fun z => Rq5 q.2 z.2 ∧ q.1 = z.1)) := by
  refine ok_imp ?_ (ok_pk (rcq_feed a1 a2 a3 a4 a5 μx μm h.1) (u_X11_feed a1 a2 a3 a4 a5 μx h.2.1))
  rintro q ⟨q1, q2⟩
  refine ok_imp ?_ (ok_pk (ok_two q1 (k_X12_feed a1 a2 a3 a4 a5 μm h.1.1.2.1.1)) (y_X12_feed a1 a2 a3 a4 a5 μm))
  rintro z ⟨⟨⟨z1, z2⟩, z3⟩, z4⟩
  have hk := Yz5.km z4
  exact ⟨⟨z1, rdx_keep h.2 h.1.2.2 q2 hk.1 hk.2 (z3.2.1.1 0 5 (by decide +kernel))⟩, z2⟩
theorem rd_end (a1 : Int32) (μx μm : Mem) (h : Rq5 μx μm) : ok (p_X11_end a1 μx) (fun q => ok (p_X12_end a1 μm) (fun z => Rq5 q.2 z.2)) := by
  refine ok_imp ?_ (ok_pk (rc_end a1 μx μm h.1) (u_X11_end a1 μx h.2.1))
  rintro q ⟨q1, q2⟩
  refine ok_imp ?_ (ok_pk (ok_two q1 (k_X12_end a1 μm h.1.1.2.1.1)) (y_X12_end a1 μm))
  rintro z ⟨⟨z1, z3⟩, z4⟩
  have hk := Yz5.km z4
  exact ⟨z1, rdx_keep h.2 h.1.2.2 q2 hk.1 hk.2 (z3.2.1.1 0 5 (by decide +kernel))⟩
def lo5 (a1 a2 : Int32) : Prop := (a1 = 0 ∧ ¬ a2 < 0 ∧ ¬ 12 < a2) ∨ (a1 = 1 ∧ ¬ a2 < 1 ∧ ¬ 6 < a2) ∨ (a1 = 2 ∧ ¬ a2 < 10 ∧ ¬ 300 < a2)
theorem q_lim5 (a1 a2 : Int32) (μ : Mem) : pk (p_X10_setLimit a1 a2 μ) (fun r => (lo5 a1 a2 ∧ r.1 = 1 ∧ r.2 = sF μ 137 a1.toNatClampNeg a2) ∨ (¬ lo5 a1 a2 ∧ r.1 = 0 ∧ r.2 = μ)) := by
  have b46 : ¬ a1 = 0 ∨ a2 < 0 ∨ 12 < a2 → ¬ a1 = 1 ∨ a2 < 1 ∨ 6 < a2 → pk (p_X10_setLimit_b46 a1 a2 μ) (fun r => (lo5 a1 a2 ∧ r.1 = 1 ∧ r.2 = sF μ 137 a1.toNatClampNeg a2) ∨ (¬ lo5 a1 a2 ∧ r.1 = 0 ∧ r.2 = μ)) := by
    intro h0 h1
    have no : (¬ a1 = 2 ∨ a2 < 10 ∨ 300 < a2) → ¬ lo5 a1 a2 := by
      rintro h2 (⟨x, y, w⟩ | ⟨x, y, w⟩ | ⟨x, y, w⟩)
      · rcases h0 with e | e | e
        · exact e x
        · exact y e
        · exact w e
      · rcases h1 with e | e | e
        · exact e x
        · exact y e
        · exact w e
      · rcases h2 with e | e | e
        · exact e x
        · exact y e
        · exact w e
    rw [p_X10_setLimit_b46_eq]
    refine pk_ite (fun c => pk_ite (fun d => ?_) (fun d => pk_ite (fun e => ?_) (fun e => ?_))) (fun c => ?_)
    · exact pk_some (Or.inr ⟨no (Or.inr (Or.inl d)), rfl, rfl⟩)
    · exact pk_some (Or.inr ⟨no (Or.inr (Or.inr e)), rfl, rfl⟩)
    · refine pk_bvy (fun μ6 e6 => pk_some (Or.inl ⟨Or.inr (Or.inr ⟨c, d, e⟩), rfl, ?_⟩))
      show μ6 = _; rw [e6, c]; rfl
    · exact pk_some (Or.inr ⟨no (Or.inl c), rfl, rfl⟩)
  have b22 : ¬ a1 = 0 ∨ a2 < 0 ∨ 12 < a2 → pk (p_X10_setLimit_b22 a1 a2 μ) (fun r => (lo5 a1 a2 ∧ r.1 = 1 ∧ r.2 = sF μ 137 a1.toNatClampNeg a2) ∨ (¬ lo5 a1 a2 ∧ r.1 = 0 ∧ r.2 = μ)) := by
    intro h0
    rw [p_X10_setLimit_b22_eq]
    refine pk_ite (fun c => pk_ite (fun d => b46 h0 (Or.inr (Or.inl d))) (fun d => pk_ite (fun e => b46 h0 (Or.inr (Or.inr e))) (fun e => ?_))) (fun c => b46 h0 (Or.inl c))
    refine pk_bvy (fun μ6 e6 => pk_some (Or.inl ⟨Or.inr (Or.inl ⟨c, d, e⟩), rfl, ?_⟩))
    show μ6 = _; rw [e6, c]; rfl
  rw [p_X10_setLimit_eq]
  refine pk_ite (fun c => pk_ite (fun d => b22 (Or.inr (Or.inl d))) (fun d => pk_ite (fun e => b22 (Or.inr (Or.inr e))) (fun e => ?_))) (fun c => b22 (Or.inl c))
  refine pk_bvy (fun μ6 e6 => pk_some (Or.inl ⟨Or.inl ⟨c, d, e⟩, rfl, ?_⟩))
  show μ6 = _; rw [e6, c]; rfl
theorem q_set5 (a1 a2 : Int32) (μ : Mem) : pk (p_X11_set a1 a2 μ) (fun r => r.2.2 = μ.2 ∧ ((lo5 a1 a2 ∧ r.1 = 1 ∧ ∀ i k, i ≠ 39 → r.2.1 i k = (sF μ 137 a1.toNatClampNeg a2).1 i k) ∨ (¬ lo5 a1 a2 ∧ r.1 = 0 ∧ ∀ i k, r.2.1 i k = μ.1 i k))) := by
  rw [p_X11_set_eq]
  refine pk_bd (q_lim5 a1 a2 μ) ?_
  rintro r2 μ1 (⟨h1, h2, h3⟩ | ⟨h1, h2, h3⟩)
  · have h2 : r2 = 1 := h2
    have h3 : μ1 = sF μ 137 a1.toNatClampNeg a2 := h3
    rw [if_neg (by rw [h2]; decide)]
    refine pk_bw (q_clear5 μ1) ?_
    rintro μ4 ⟨k1, k2⟩
    exact pk_some ⟨by show μ4.2 = _; rw [k1, h3]; rfl, Or.inl ⟨h1, rfl, fun i k hi => by show μ4.1 i k = _; rw [k2 i k hi, h3]⟩⟩
  · have h2 : r2 = 0 := h2
    have h3 : μ1 = μ := h3
    rw [if_pos h2]
    exact pk_some ⟨by show μ1.2 = _; rw [h3], Or.inr ⟨h1, rfl, fun i k => by show μ1.1 i k = _; rw [h3]⟩⟩
theorem q_set12 (a1 a2 : Int32) (μ : Mem) : pk (p_X12_set a1 a2 μ) (fun r => (lo5 a1 a2 ∧ r.1 = 1 ∧ r.2 = sF (sF μ 29 a1.toNatClampNeg a2) 0 95 0) ∨ (¬ lo5 a1 a2 ∧ r.1 = 0 ∧ r.2 = μ)) := by
  have b51 : ∀ k0, (¬ k0 = 0 → lo5 a1 a2) → (k0 = 0 → ¬ lo5 a1 a2) → pk (p_X12_set_b51 a1 a2 k0 μ) (fun r => (lo5 a1 a2 ∧ r.1 = 1 ∧ r.2 = sF (sF μ 29 a1.toNatClampNeg a2) 0 95 0) ∨ (¬ lo5 a1 a2 ∧ r.1 = 0 ∧ r.2 = μ)) := by
    intro k0 h1 h2
    rw [p_X12_set_b51_eq]
    refine pk_ite (fun c => pk_some (Or.inr ⟨h2 c, rfl, rfl⟩)) (fun c => pk_gd (fun _ => pk_bvy (fun μ5 e5 => pk_bvy (fun μ6 e6 => pk_some (Or.inl ⟨h1 c, rfl, ?_⟩)))))
    show μ6 = _; rw [e6, e5]
  have iz : ∀ a lo hi : Int32, s_X12_isIn a lo hi = 0 ↔ (a < lo ∨ hi < a) := by
    intro a lo hi
    rw [s_X12_isIn_eq]
    by_cases c : a < lo
    · rw [if_pos c]; exact ⟨fun _ => Or.inl c, fun _ => rfl⟩
    · rw [if_neg c]
      by_cases d : hi < a
      · rw [if_pos d]; exact ⟨fun _ => Or.inr d, fun _ => rfl⟩
      · rw [if_neg d]; exact ⟨fun e => absurd e (by decide), fun e => e.elim (fun e => absurd e c) (fun e => absurd e d)⟩
  have n01 : ¬ (0 : Int32) = 1 := by decide
  have n02 : ¬ (0 : Int32) = 2 := by decide
  have n12 : ¬ (1 : Int32) = 2 := by decide
  rw [p_X12_set_eq]
  refine pk_ite (fun c => b51 _ (fun e => ?_) (fun e => ?_)) (fun c => pk_ite (fun d => b51 _ (fun e => ?_) (fun e => ?_)) (fun d => pk_ite (fun w => pk_ite (fun e => ?_) (fun e => b51 1 (fun _ => ?_) (fun e => absurd e (by decide)))) (fun w => ?_)))
  · rw [iz] at e; exact Or.inl ⟨c, fun x => e (Or.inl x), fun x => e (Or.inr x)⟩
  · rw [iz] at e
    rintro (⟨x, y, u⟩ | ⟨x, y, u⟩ | ⟨x, y, u⟩)
    · exact e.elim y u
    · rw [c] at x; exact n01 x
    · rw [c] at x; exact n02 x
  · rw [iz] at e; exact Or.inr (Or.inl ⟨d, fun x => e (Or.inl x), fun x => e (Or.inr x)⟩)
  · rw [iz] at e
    rintro (⟨x, y, u⟩ | ⟨x, y, u⟩ | ⟨x, y, u⟩)
    · exact c x
    · exact e.elim y u
    · rw [d] at x; exact n12 x
  · rw [iz] at e
    rw [p_X12_set_b50_eq]
    refine b51 0 (fun x => absurd rfl x) (fun _ => ?_)
    rintro (⟨x, y, u⟩ | ⟨x, y, u⟩ | ⟨x, y, u⟩)
    · exact c x
    · exact d x
    · exact e.elim y u
  · rw [iz] at e; exact Or.inr (Or.inr ⟨w, fun x => e (Or.inl x), fun x => e (Or.inr x)⟩)
  · rw [p_X12_set_b50_eq]
    refine b51 0 (fun x => absurd rfl x) (fun _ => ?_)
    rintro (⟨x, y, u⟩ | ⟨x, y, u⟩ | ⟨x, y, u⟩)
    · exact c x
    · exact d x
    · exact w x
theorem rdq_set (a1 a2 : Int32) (μx μm : Mem) (h : Rq5 μx μm) : ok (p_X11_set a1 a2 μx) (fun q => ok (p_X12_set a1 a2 μm) (fun z => Rq5 q.2 z.2 ∧ q.1 = z.1)) := by
  refine ok_imp ?_ (ok_pk (rc_set a1 a2 μx μm h.1) (q_set5 a1 a2 μx))
  rintro q ⟨q1, q2, q3⟩
  refine ok_imp ?_ (ok_pk q1 (q_set12 a1 a2 μm))
  rintro z ⟨z1, z2⟩
  obtain ⟨h1, h2, h3, h4, h5, h6, h7⟩ := h.2
  have hR := h.1.2.2
  obtain ⟨b1, b2⟩ := rfi_b hR
  obtain ⟨s6, _, s8, _⟩ := rfi_6 hR
  have ints : ∀ i k, i ≠ 39 → i ≠ 137 → q.2.1 i k = μx.1 i k := by
    intro i k x y
    rcases q3 with ⟨_, _, e⟩ | ⟨_, _, e⟩
    · rw [e i k x, sF_i y]
    · exact e i k
  have arr : ∀ i k, i ≠ 0 → i ≠ 29 → z.2.1 i k = μm.1 i k := by
    intro i k x y
    rcases z2 with ⟨_, _, e⟩ | ⟨_, _, e⟩
    · rw [e, sF_i x, sF_i y]
    · rw [e]
  have fld : ∀ k, k ≠ 95 → z.2.1 0 k = μm.1 0 k := by
    intro k x
    rcases z2 with ⟨_, _, e⟩ | ⟨_, _, e⟩
    · rw [e, sF_k x, sF_i (by decide)]
    · rw [e]
  have Kn : Kn6 μm z.2 := ⟨fun i k a b => arr i k (by omega) (by omega), fun k a b => fld k (by omega)⟩
  refine ⟨⟨z1, by unfold Ug; rw [q2]; exact h1, by unfold Sw5; rw [q2]; exact h2, by rw [ints 0 2 (by decide) (by decide), fld 5 (by decide)]; exact h3, h4.of hR (by rw [q2]) (fun i k a b => ?_) ⟨fun i k e => arr i k (by omega) (by omega), fun k a b => fld k (by omega)⟩, h5.of (by rw [q2]) (ints 0 10 (by decide) (by decide)) (fun i k a b => ?_) Kn, h6.of ⟨by rw [q2], by rw [q2], fun i k a b => ?_⟩ ⟨fld 17 (by decide), fld 18 (by decide)⟩ (fun i k a b => arr i k (by omega) (by omega)), ?_⟩, ?_⟩
  · rw [s6] at a b; exact ⟨ints i k (by omega) (by omega), by rw [q2]⟩
  · rw [s8] at a b; exact ⟨ints i k (by omega) (by omega), by rw [q2]⟩
  · rcases h2 with ⟨x, _⟩ | ⟨x, _⟩
    · rw [x, sel_22] at a b; exact ints i k (by omega) (by omega)
    · rw [x, sel_29] at a b; exact ints i k (by omega) (by omega)
  · intro k hk
    rcases q3 with ⟨l1, _, e⟩ | ⟨l1, _, e⟩
    · rcases z2 with ⟨_, _, e2⟩ | ⟨l2, _, _⟩
      · have a := (sF_i (μ := sF μm 29 a1.toNatClampNeg a2) (i := 0) (j := 29) (k := 95) (q := k) (v := 0) (by decide))
        rw [e 137 k (by decide), e2]
        refine Eq.trans ?_ a.symm
        rw [sF_1, if_pos rfl, sF_1, if_pos rfl, h7 k hk]
      · exact absurd l1 l2
    · rcases z2 with ⟨l2, _, _⟩ | ⟨_, _, e2⟩
      · exact absurd l2 l1
      · rw [e 137 k, e2]; exact h7 k hk
  · rcases q3 with ⟨l1, r1, _⟩ | ⟨l1, r1, _⟩
    · rcases z2 with ⟨_, r2, _⟩ | ⟨l2, _, _⟩
      · rw [r1, r2]
      · exact absurd l1 l2
    · rcases z2 with ⟨l2, _, _⟩ | ⟨_, r2, _⟩
      · exact absurd l2 l1
      · rw [r1, r2]
