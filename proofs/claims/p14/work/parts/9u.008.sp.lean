section
def Am9 (L : Nat) (t : Int64) (x : Nat) (μ z : Mem) : Prop := z.2 = μ.2 ∧ (z.1 0 118).toInt = ((L + 1 : Nat) : Int) ∧ (∀ i k, i ≠ 55 → ¬ (i = 0 ∧ k = 118) → ¬ ((i = 67 ∨ i = 68 ∨ i = 69) ∧ k = L) → z.1 i k = μ.1 i k) ∧ Tk7 t (z.1 67 L) (z.1 68 L) ∧ (z.1 69 L).toInt = (x : Int)
def Bm9 (Zs : List (Int64 × Nat)) (L : Nat) (μ z : Mem) : Prop := z.2 = μ.2 ∧ (z.1 0 118).toInt = ((L + Zs.length : Nat) : Int) ∧ (∀ i k, i ≠ 55 → ¬ (i = 0 ∧ k = 118) → ¬ ((i = 67 ∨ i = 68 ∨ i = 69) ∧ L ≤ k) → z.1 i k = μ.1 i k) ∧ ∀ k p, Zs[k]? = some p → Tk7 (tok p.1) (z.1 67 (L + k)) (z.1 68 (L + k)) ∧ (z.1 69 (L + k)).toInt = (p.2 : Int)
theorem Bm9.cons {L : Nat} {μ μ1 z : Mem} {p : Int64 × Nat} {Zs : List (Int64 × Nat)} (a : Am9 L (tok p.1) p.2 μ μ1) (h : Bm9 Zs (L + 1) μ1 z) : Bm9 (p :: Zs) L μ z := by
  obtain ⟨b1, b2, b3, b4, b5⟩ := a
  obtain ⟨a1, a2, a3, a4⟩ := h
  refine ⟨a1.trans b1, by rw [a2, List.length_cons]; omega, fun i k c1 c2 c3 => (a3 i k c1 c2 (fun e => c3 ⟨e.1, by omega⟩)).trans (b3 i k c1 c2 (fun e => c3 ⟨e.1, by omega⟩)), fun k p' hk => ?_⟩
  cases k with
  | zero =>
    have : p = p' := by simpa using hk
    subst this
    have e0 : L + 0 = L := rfl
    rw [e0, a3 67 L (by decide) (by omega) (by omega), a3 68 L (by decide) (by omega) (by omega), a3 69 L (by decide) (by omega) (by omega)]
    exact ⟨b4, b5⟩
  | succ k =>
    have := a4 k p' (by simpa using hk)
    rw [show L + (k + 1) = L + 1 + k by omega]; exact this
theorem Bm9.app {L : Nat} {μ μ1 z : Mem} {Z1 Z2 : List (Int64 × Nat)} (h1 : Bm9 Z1 L μ μ1) (h : Bm9 Z2 (L + Z1.length) μ1 z) : Bm9 (Z1 ++ Z2) L μ z := by
  obtain ⟨b1, b2, b3, b4⟩ := h1
  obtain ⟨a1, a2, a3, a4⟩ := h
  refine ⟨a1.trans b1, by rw [a2, List.length_append]; omega, fun i k c1 c2 c3 => (a3 i k c1 c2 (fun e => c3 ⟨e.1, by omega⟩)).trans (b3 i k c1 c2 c3), fun k p hk => ?_⟩
  rcases Nat.lt_or_ge k Z1.length with e | e
  · rw [List.getElem?_append_left e] at hk
    rw [a3 67 _ (by decide) (by omega) (by omega), a3 68 _ (by decide) (by omega) (by omega), a3 69 _ (by decide) (by omega) (by omega)]
    exact b4 k p hk
  · rw [List.getElem?_append_right e] at hk
    have := a4 _ p hk
    rw [show L + Z1.length + (k - Z1.length) = L + k by omega] at this
    exact this
theorem tok_tk {μx μm : Mem} {v : Int64} {x w d : Nat} (hv : Va7 μx μm v x w d) : (s_X12_isNumber (μm.1 30 x) = 0 → Tk7 (tok v) (μm.1 30 x) 0) ∧ (s_X12_isNumber (μm.1 30 x) ≠ 0 → Tk7 (tok v) (μm.1 30 x) (μm.1 31 x)) := by
  have n0 : nI 0 = 0 := rfl
  have n1 : nI 1 = 1 := rfl
  have n3 : nI 3 = 3 := rfl
  obtain ⟨_, ⟨m, hm, e1, e2, _⟩ | ⟨k, y, z, w1, w2, d1, d2, u1, u2, u3, _⟩⟩ := va_kind hv
  · have k3 := mk_kind m (by omega) (μm.1 31 x)
    rw [← e1] at k3
    rw [s_X12_isNumber_eq, e2]
    unfold tok
    rw [k3]
    rcases hm with q | q | q <;> subst q
    · refine ⟨fun h => absurd h (by decide), fun _ => ?_⟩
      rw [if_neg (by decide), if_neg (by decide)]
      exact Or.inr (Or.inr ⟨Or.inl rfl, e1⟩)
    · refine ⟨fun h => absurd h (by decide), fun _ => ?_⟩
      rw [if_neg (by decide), if_neg (by decide)]
      exact Or.inr (Or.inr ⟨Or.inr rfl, e1⟩)
    · refine ⟨fun _ => ?_, fun h => absurd (by decide) h⟩
      rw [if_neg (by decide), if_pos (by decide)]
      refine Or.inl ⟨rfl, rfl, ?_⟩
      rw [mk_n 4 (by decide)]; decide
  · rw [s_X12_isNumber_eq, u3]
    refine ⟨fun _ => ?_, fun h => absurd (by decide) h⟩
    rw [u1, tok_p]
    refine Or.inr (Or.inl ⟨rfl, rfl, ?_⟩)
    rw [mk_n 2 (by decide)]; decide
theorem fm_step {μx μ : Mem} {L W f : Nat} {a2 : Int32} {v : Int64} {x w d : Nat} {Q : Mem → Prop} (h4 : a2.toInt = ((W + 1 : Nat) : Int)) (hW : W ≤ 200) (hL : (μ.1 0 118).toInt = (L : Int)) (hl : L < 210) (h55 : (μ.1 55 W).toInt = (x : Int)) (hv : Va7 μx μ v x w d) (kl : μ.1 30 x ≠ 2 → ∀ z v4, v4.toInt = (W : Int) → Am9 L (tok v) x μ z → (∀ k, z.1 55 k = μ.1 55 k) → pk (p_X12_layMade_b36 f v4 z) Q) (kp : μ.1 30 x = 2 → ∀ z v4, v4.toInt = ((W + 2 : Nat) : Int) → Am9 L (tok v) x μ z → (∀ l, l < W → z.1 55 l = μ.1 55 l) → z.1 55 W = μ.1 32 x → z.1 55 (W + 1) = μ.1 31 x → pk (p_X12_layMade_b36 f v4 z) Q) : pk (p_X12_layMade_b36 (f + 1) a2 μ) Q := by
  rw [p_X12_layMade_b36_s, if_neg (nle0 h4)]
  refine pk_bvy (fun v4 q4 => ?_)
  have v4t : v4.toInt = (W : Int) := by rw [q4]; exact tm1 h4
  rw [tn_of v4t]
  refine pk_gd (fun _ => pk_bvy (fun v6 q6 => ?_))
  have v6t : v6.toInt = (x : Int) := by rw [q6]; exact h55
  rw [tn_of v6t, tn_of hL]
  refine pk_gd (fun _ => pk_gd (fun _ => pk_bvy (fun μ7 q7 => ?_)))
  obtain ⟨tk0, tk1⟩ := tok_tk hv
  have fin : ∀ bits, Tk7 (tok v) (μ.1 30 x) bits → pk (p_X12_layMade_b95 (p_X12_layMade_b36 f) v4 v6 bits (μ7.1 0 118) μ7) Q := by
    intro bits hb
    rw [p_X12_layMade_b95_eq, tn_of v6t]
    have e118 : μ7.1 0 118 = μ.1 0 118 := by rw [q7, sF_i (by decide)]
    rw [e118, tn_of hL]
    refine pk_gd (fun _ => pk_bvy (fun μ9 q9 => ?_))
    have e9 : μ9.1 0 118 = μ.1 0 118 := by rw [q9, sF_i (by decide)]; exact e118
    rw [e9, tn_of hL]
    refine pk_gd (fun _ => pk_bvy (fun μ10 q10 => ?_))
    have e10 : μ10.1 0 118 = μ.1 0 118 := by rw [q10, sF_i (by decide)]; exact e9
    rw [e10]
    refine pk_bvy (fun μ11 q11 => pk_gd (fun _ => ?_))
    have am : Am9 L (tok v) x μ μ11 := by
      refine ⟨by rw [q11, q10, q9, q7]; rfl, by rw [q11, sF_v]; exact tp1 hL (by omega), fun i k c1 c2 c3 => ?_, ?_, ?_⟩
      · rw [q11, sF_at, if_neg c2, q10, sF_at, if_neg (fun e => c3 ⟨Or.inr (Or.inr e.1), e.2⟩), q9, sF_at, if_neg (fun e => c3 ⟨Or.inr (Or.inl e.1), e.2⟩), q7, sF_at, if_neg (fun e => c3 ⟨Or.inl e.1, e.2⟩)]
      · rw [q11, sF_i (by decide), sF_i (by decide), q10, sF_i (by decide), sF_i (by decide), q9, sF_i (by decide), sF_v, q7, sF_v]
        exact hb
      · rw [q11, sF_i (by decide), q10, sF_v]; exact v6t
    have am' := am
    obtain ⟨b1, b2, b3, b4, b5⟩ := am'
    have e30 : μ11.1 30 x = μ.1 30 x := b3 30 x (by decide) (by omega) (by omega)
    have k55 : ∀ k, μ11.1 55 k = μ.1 55 k := fun k => by rw [q11, sF_i (by decide), q10, sF_i (by decide), q9, sF_i (by decide), q7, sF_i (by decide)]
    have v1 := tp1 v4t (by omega)
    rw [e30]
    refine pk_ite (fun c => ?_) (fun c => ?_)
    · rw [tn_of v1, tn_of v4t]
      refine pk_gd (fun _ => pk_gd (fun _ => pk_bvy (fun μ13 q13 => ?_)))
      refine pk_gd (fun _ => pk_gd (fun _ => pk_bvy (fun μ14 q14 => pk_bvs ?_)))
      have e32 : μ11.1 32 x = μ.1 32 x := b3 32 x (by decide) (by omega) (by omega)
      have e31 : μ13.1 31 x = μ.1 31 x := by rw [q13, sF_i (by decide)]; exact b3 31 x (by decide) (by omega) (by omega)
      rw [e32] at q13
      rw [e31] at q14
      have k14 : ∀ i k, i ≠ 55 → μ14.1 i k = μ11.1 i k := fun i k hi => by rw [q14, sF_at, if_neg (fun e => hi e.1), q13, sF_at, if_neg (fun e => hi e.1)]
      refine kp c μ14 (v4 + 2) (tp2 v4t (by omega)) ⟨by rw [q14, q13]; exact b1, by rw [k14 0 118 (by decide)]; exact b2, fun i k c1 c2 c3 => (k14 i k c1).trans (b3 i k c1 c2 c3), by rw [k14 67 L (by decide), k14 68 L (by decide)]; exact b4, by rw [k14 69 L (by decide)]; exact b5⟩ (fun l hl => ?_) ?_ ?_
      · rw [q14, sF_at, if_neg (by omega), q13, sF_at, if_neg (by omega)]; exact k55 l
      · rw [q14, sF_at, if_neg (by omega), q13, sF_v]
      · rw [q14, sF_v]
    · exact kl c μ11 v4 v4t am k55
  have e30' : μ7.1 30 x = μ.1 30 x := by rw [q7, sF_i (by decide)]
  have e31' : μ7.1 31 x = μ.1 31 x := by rw [q7, sF_i (by decide)]
  rw [e30', e31']
  refine pk_gd (fun _ => pk_ite (fun c => fin 0 (tk0 c)) (fun c => pk_gd (fun _ => fin _ (tk1 c))))
def Sm9 (μ : Mem) : List (Int64 × Nat × List (Int64 × Nat)) → Prop
  | [] => True
  | p :: W => (μ.1 55 W.length).toInt = (p.2.1 : Int) ∧ Sm9 μ W
theorem Sm9.cong {μ q : Mem} : ∀ {W : List (Int64 × Nat × List (Int64 × Nat))}, Sm9 μ W → (∀ k, k < W.length → q.1 55 k = μ.1 55 k) → Sm9 q W := by
  intro W
  induction W with
  | nil => intro _ _; trivial
  | cons p W ih => intro h c; exact ⟨by rw [c _ (Nat.lt_succ_self _)]; exact h.1, ih h.2 (fun k hk => c k (Nat.lt_succ_of_lt hk))⟩
theorem m_flat {μx μ0 : Mem} : ∀ (n : Nat) (f : Nat) (W : List (Int64 × Nat × List (Int64 × Nat))) (μ : Mem) (a2 : Int32) (L : Nat), (fl9 W).length = n → a2.toInt = (W.length : Int) → (μ.1 0 118).toInt = (L : Int) → L + n ≤ 200 → Sm9 μ W → (∀ p, p ∈ W → Wt9 μx μ0 p) → (∀ i k, 30 ≤ i → i ≤ 34 → μ.1 i k = μ0.1 i k) → μ.1 0 56 = μ0.1 0 56 → pk (p_X12_layMade_b36 f a2 μ) (fun z => Bm9 (fl9 W) L μ z) := by
  intro n
  induction n with
  | zero =>
    intro f W μ a2 L hn h4 hL hL2 hS hW c1 c2
    have hW0 : W = [] := by
      cases W with
      | nil => rfl
      | cons p W =>
        obtain ⟨⟨g, hg⟩, _⟩ := hW p List.mem_cons_self
        have := pre_len g hg
        have hn : (p.2.2 ++ fl9 W).length = 0 := hn
        rw [List.length_append] at hn; omega
    subst hW0
    have rf : Bm9 (fl9 []) L μ μ := ⟨rfl, hL, fun _ _ _ _ _ => rfl, fun k p hk => by cases hk⟩
    cases f with
    | zero => intro r e; rw [p_X12_layMade_b36_z] at e; exact absurd e (by simp)
    | succ f =>
      have h4 : a2.toInt = 0 := h4
      have e0 : (0 : Int32).toInt = 0 := by decide
      rw [p_X12_layMade_b36_s, if_pos (by rw [ti_le, h4, e0]; omega)]
      exact pk_some rf
  | succ n ih =>
    intro f W μ a2 L hn h4 hL hL2 hS hW c1 c2
    cases W with
    | nil => exact absurd hn (by simp [fl9])
    | cons p W =>
      obtain ⟨v, x, Z⟩ := p
      have hn : (Z ++ fl9 W).length = n + 1 := hn
      rw [List.length_append] at hn
      obtain ⟨⟨g, hp⟩, w, d, hv⟩ := hW (v, x, Z) List.mem_cons_self
      have hp : Pre9 μx μ0 g v x Z := hp
      have hv : Va7 μx μ0 v x w d := hv
      have hS1 : (μ.1 55 W.length).toInt = (x : Int) := hS.1
      have h4 : a2.toInt = ((W.length + 1 : Nat) : Int) := h4
      cases f with
      | zero => intro r e; rw [p_X12_layMade_b36_z] at e; exact absurd e (by simp)
      | succ f =>
        have hWl : W.length ≤ (fl9 W).length := fl9_le (fun p hp => by
          obtain ⟨⟨g, hg⟩, _⟩ := hW p (List.mem_cons_of_mem _ hp)
          exact pre_len g hg)
        have hv' := hv.gr Gs7.rf (gh_same (q := μ) c2 c1)
        have e30 : μ.1 30 x = μ0.1 30 x := c1 30 x (by decide) (by decide)
        refine fm_step (L := L) (W := W.length) h4 (by omega) hL (by omega) hS1 hv' (fun c z v4 t4 am r1 => ?_) (fun c z v4 t4 am r1 r2 r3 => ?_)
        · rw [e30] at c
          have hZ := pre_leaf hp c
          subst hZ
          have hn : 1 + (fl9 W).length = n + 1 := hn
          have am' := am
          obtain ⟨b1, b2, b3, b4, b5⟩ := am'
          refine pk_mono (ih f W z v4 (L + 1) (by omega) t4 b2 (by omega) (hS.2.cong (fun l _ => r1 l)) (fun p hp => hW p (List.mem_cons_of_mem _ hp)) (fun i k x1 x2 => (b3 i k (by omega) (by omega) (by omega)).trans (c1 i k x1 x2)) ((b3 0 56 (by decide) (by omega) (by omega)).trans c2)) (fun q2 hq2 => ?_)
          exact Bm9.cons (p := (v, x)) am hq2
        · rw [e30] at c
          obtain ⟨k, y, z', Z1, Z2, a1, a2', a3, a4', a5', a6, a7, a8, a9⟩ := pre_pair hp hv c
          rw [a5', List.length_cons, List.length_append] at hn
          have am' := am
          obtain ⟨b1, b2, b3, b4, b5⟩ := am'
          have fin := ih f ((μx.2.1 31 k, y, Z1) :: (μx.2.1 32 k, z', Z2) :: W) z v4 (L + 1) (by show (Z1 ++ (Z2 ++ fl9 W)).length = n; rw [List.length_append, List.length_append]; omega) t4 b2 (by omega) ⟨by show (z.1 55 (W.length + 1)).toInt = _; rw [r3, c1 31 x (by decide) (by decide)]; exact a3, by show (z.1 55 W.length).toInt = _; rw [r2, c1 32 x (by decide) (by decide)]; exact a4', hS.2.cong r1⟩ (fun p hp => by
            rcases List.mem_cons.mp hp with e | hp
            · rw [e]; exact ⟨a6, a8⟩
            · rcases List.mem_cons.mp hp with e | hp
              · rw [e]; exact ⟨a7, a9⟩
              · exact hW p (List.mem_cons_of_mem _ hp)) (fun i k x1 x2 => (b3 i k (by omega) (by omega) (by omega)).trans (c1 i k x1 x2)) ((b3 0 56 (by decide) (by omega) (by omega)).trans c2)
          refine pk_mono fin (fun q2 hq2 => ?_)
          have e3 : fl9 ((v, x, Z) :: W) = (v, x) :: fl9 ((μx.2.1 31 k, y, Z1) :: (μx.2.1 32 k, z', Z2) :: W) := by
            show Z ++ fl9 W = (v, x) :: (Z1 ++ (Z2 ++ fl9 W))
            rw [a5']; simp
          rw [e3]
          exact Bm9.cons (p := (v, x)) am hq2
theorem m_lay {μx μ0 : Mem} {Q : Mem → Prop} (As : List (Int64 × Nat × List (Int64 × Nat))) (hAs : As.length ≤ 5) (hW : ∀ p, p ∈ As → Wt9 μx μ0 p) (h200 : (fl9 As).length ≤ 200) : ∀ (k : Nat) (f : Nat) (a2 a3 : Int32) (μ : Mem), k ≤ As.length → a3.toInt = (k : Int) - 1 → a2.toInt = ((As.length - k : Nat) : Int) → (μ.1 0 118).toInt = 0 → (∀ j p, As[j]? = some p → (μ.1 45 j).toInt = (p.2.1 : Int)) → Sm9 μ (As.drop k) → (∀ i k, 30 ≤ i → i ≤ 34 → μ.1 i k = μ0.1 i k) → μ.1 0 56 = μ0.1 0 56 → (∀ μ' z, (∀ i k, i ≠ 55 → μ'.1 i k = μ.1 i k) → μ'.2 = μ.2 → Bm9 (fl9 As) 0 μ' z → Q z) → pk (p_X12_layMade_b11 f a2 a3 μ) Q := by
  intro k
  have e0 : (0 : Int32).toInt = 0 := by decide
  induction k with
  | zero =>
    intro f a2 a3 μ hk h3 h2 h118 h45 hS c1 c2 hQ
    cases f with
    | zero => intro r e; rw [p_X12_layMade_b11_z] at e; exact absurd e (by simp)
    | succ f =>
      rw [p_X12_layMade_b11_s, if_pos (by rw [ti_lt, h3, e0]; omega)]
      refine pk_mono (m_flat (μx := μx) (μ0 := μ0) _ _ As μ a2 0 rfl (by rw [h2]; rfl) h118 (by omega) (by simpa using hS) hW c1 c2) (fun z hz => hQ μ z (fun _ _ _ => rfl) rfl hz)
  | succ k ih =>
    intro f a2 a3 μ hk h3 h2 h118 h45 hS c1 c2 hQ
    cases f with
    | zero => intro r e; rw [p_X12_layMade_b11_z] at e; exact absurd e (by simp)
    | succ f =>
      have h3' : a3.toInt = (k : Int) := by omega
      rw [p_X12_layMade_b11_s, if_neg (by rw [ti_lt, h3', e0]; omega), tn_of h2, tn_of h3']
      obtain ⟨p, hp⟩ : ∃ p, As[k]? = some p := ⟨As[k], List.getElem?_eq_getElem (by omega)⟩
      refine pk_gd (fun _ => pk_gd (fun _ => pk_bvy (fun μ2 q2 => pk_bvs (pk_bvs ?_))))
      have em : (-1 : Int32).toInt = -1 := by decide
      have k55 : ∀ i l, i ≠ 55 → μ2.1 i l = μ.1 i l := fun i l hi => by rw [q2, sF_i hi]
      refine ih f (a2 + 1) (a3 + -1) μ2 (by omega) (by rw [ti_add (by rw [em]; omega) (by rw [em]; omega), h3', em]; omega) (by rw [tp1 h2 (by omega)]; congr 1; omega) (by rw [k55 0 118 (by decide)]; exact h118) (fun j p hj => by rw [k55 45 j (by decide)]; exact h45 j p hj) ?_ (fun i l x1 x2 => (k55 i l (by omega)).trans (c1 i l x1 x2)) ((k55 0 56 (by decide)).trans c2) (fun μ' z x1 x2 => hQ μ' z (fun i l hi => (x1 i l hi).trans (k55 i l hi)) (x2.trans (by rw [q2]; rfl)))
      have hd : As.drop k = p :: As.drop (k + 1) := by
        rw [List.drop_eq_getElem_cons (by omega)]
        have : As[k] = p := by
          have := List.getElem?_eq_getElem (l := As) (i := k) (by omega)
          rw [hp] at this; exact (Option.some.inj this).symm
        rw [this]
      rw [hd]
      refine ⟨?_, hS.cong (fun l hl => ?_)⟩
      · rw [List.length_drop, q2, sF_v]; exact h45 k p hp
      · rw [List.length_drop] at hl
        rw [q2, sF_at, if_neg (by omega)]
end

section
theorem Ap9.rf {pt L : Nat} {μ : Mem} (h : (μ.1 pt 2).toInt = (L : Int)) : Ap9 pt [] L μ μ := ⟨rfl, h, fun _ _ _ => rfl, fun _ _ _ _ _ => rfl, fun k p hk => by cases hk⟩
theorem Ap9.app {pt L : Nat} {μ μ1 q : Mem} {Z1 Z2 : List (Int64 × Nat)} (h1 : Ap9 pt Z1 L μ μ1) (h : Ap9 pt Z2 (L + Z1.length) μ1 q) (hpt : 100 ≤ pt) : Ap9 pt (Z1 ++ Z2) L μ q := by
  obtain ⟨b1, b2, b3, b4, b5⟩ := h1
  obtain ⟨a1, a2, a3, a4, a5⟩ := h
  refine ⟨a1.trans b1, by rw [a2, List.length_append]; omega, fun i k hk => (a3 i k hk).trans (b3 i k hk), fun i k c1 c2 c3 => (a4 i k c1 (fun e => c2 ⟨e.1, by omega⟩) (fun e => c3 ⟨e.1, by omega⟩)).trans (b4 i k c1 c2 c3), fun k p hk => ?_⟩
  rcases Nat.lt_or_ge k Z1.length with e | e
  · rw [List.getElem?_append_left e] at hk
    rw [a4 (pt + 1) _ (by omega) (by omega) (by omega), a4 (pt + 2) _ (by omega) (by omega) (by omega)]
    exact b5 k p hk
  · rw [List.getElem?_append_right e] at hk
    have := a5 _ p hk
    rw [show L + Z1.length + (k - Z1.length) = L + k by omega] at this
    exact this
theorem Ap9.pre {pt L : Nat} {μ μ1 q : Mem} {Zs : List (Int64 × Nat)} (h0 : μ1.2.2 = μ.2.2) (h1 : ∀ i k, μ1.1 i k = μ.1 i k) (h2 : ∀ i k, i ≠ 35 → μ1.2.1 i k = μ.2.1 i k) (h : Ap9 pt Zs L μ1 q) : Ap9 pt Zs L μ q := by
  obtain ⟨a1, a2, a3, a4, a5⟩ := h
  exact ⟨a1.trans h0, a2, fun i k hk => (a3 i k hk).trans (h1 i k), fun i k c1 c2 c3 => (a4 i k c1 c2 c3).trans (h2 i k c1), a5⟩
theorem c_fromTop {μ : Mem} {h b : Nat} {a : Int32} (ht : (μ.1 30 7).toInt = ((h + 1 + b : Nat) : Int)) (ha : a.toInt = (b : Int)) : pk (p_X8_fromTop a μ) (fun r => r.1 = μ.2.1 36 h ∧ r.2 = μ) := by
  have e1 : (1 : Int32).toInt = 1 := by decide
  have e0 : (0 : Int32).toInt = 0 := by decide
  have h1 := ti_hi (μ.1 30 7)
  have h2 := ti_hi a
  have s1 : ((μ.1 30 7) - 1).toInt = ((h + b : Nat) : Int) := by rw [ti_sub (by omega) (by omega), ht, e1]; omega
  have s2 : ((μ.1 30 7) - 1 - a).toInt = (h : Int) := by rw [ti_sub (by omega) (by omega), s1, ha]; omega
  rw [p_X8_fromTop_eq]
  refine pk_bvy (fun v e => ?_)
  rw [← e] at s2
  rw [if_neg (by rw [ti_lt, s2, e0]; omega), if_neg (by rw [ti_le, s2, ht]; omega), tn_of s2]
  exact pk_gd (fun _ => pk_some ⟨rfl, rfl⟩)
theorem c_flatten {μ μm : Mem} {pt L : Nat} (hpt : 100 ≤ pt) (hs : Ps9 pt) {p : Int64 × Nat × List (Int64 × Nat)} (hp : Wt9 μ μm p) (hL : (μ.1 pt 2).toInt = (L : Int)) (hl : L + p.2.2.length ≤ 200) : pk (p_X8_flatten p.1 pt μ) (fun q => Ap9 pt p.2.2 L μ q) := by
  have e0 : (0 : Int32).toInt = ((0 : Nat) : Int) := by decide
  have e1 : (1 : Int32).toInt = 1 := by decide
  rw [p_X8_flatten_eq, tn_of e0]
  refine pk_gd (fun _ => pk_bvy (fun μ1 q1 => ?_))
  have ef : fl9 [p] = p.2.2 := by show p.2.2 ++ [] = _; rw [List.append_nil]
  have k1 : ∀ i k, i ≠ 35 → μ1.2.1 i k = μ.2.1 i k := fun i k hi => by rw [q1, sL_at, if_neg (fun e => hi e.1)]
  have k0 : ∀ i k, μ1.1 i k = μ.1 i k := fun i k => by rw [q1]; rfl
  have := c_flat (μ0 := μ) (μm := μm) hpt hs p.2.2.length FUEL [p] μ1 1 0 L 0 (by rw [ef]) (by rw [e1]; rfl) e0 (by omega) (by rw [k0]; exact hL) hl ⟨by rw [q1]; show (sL μ 35 0 p.1).2.1 35 0 = _; rw [sL_at, if_pos ⟨rfl, rfl⟩], trivial⟩ (fun p' hp' => by
    have : p' = p := by simpa using hp'
    rw [this]; exact hp) (fun i k _ => k0 i k) (fun i k x1 _ _ => k1 i k x1)
  rw [ef] at this
  exact pk_mono this (fun q hq => hq.pre (by rw [q1]; rfl) k0 k1)
theorem Wt9.of {μ μm q : Mem} {p : Int64 × Nat × List (Int64 × Nat)} (h : Wt9 μ μm p) (c30 : q.1 30 5 = μ.1 30 5) (c31 : ∀ k, q.2.1 31 k = μ.2.1 31 k) (c32 : ∀ k, q.2.1 32 k = μ.2.1 32 k) (c33 : ∀ k, q.1 33 k = μ.1 33 k) (c34 : ∀ k, q.1 34 k = μ.1 34 k) : Wt9 q μm p := by
  obtain ⟨⟨g, hg⟩, w, d, hv⟩ := h
  refine ⟨⟨g, ?_⟩, w, d, hv.gr (gs_same c30 c31 c32 c33 c34) Gh7.rf⟩
  have pc : ∀ (g : Nat) {v : Int64} {x : Nat} {Z : List (Int64 × Nat)}, Pre9 μ μm g v x Z → Pre9 q μm g v x Z := by
    intro g
    induction g with
    | zero => intro v x Z h; exact h
    | succ g ih =>
      intro v x Z h
      rcases h with h | ⟨k, y, z, Z1, Z2, a1, a2, a3, a4, a5, a6, a7, a8⟩
      · exact Or.inl h
      · exact Or.inr ⟨k, y, z, Z1, Z2, a1, by rw [c30]; exact a2, a3, a4, a5, a6, by rw [c31]; exact ih a7, by rw [c32]; exact ih a8⟩
  exact pc g hg
theorem c_args {μm : Mem} {pt h n : Nat} {key a2 : Int32} {Q : Mem → Prop} (hpt : 100 ≤ pt) (hs : Ps9 pt) (hn : n ≤ 5) : ∀ (As : List (Int64 × Nat × List (Int64 × Nat))) (f : Nat) (a3 : Int32) (μ : Mem) (L : Nat), As.length ≤ n → a3.toInt = (As.length : Int) - 1 → (μ.1 pt 2).toInt = (L : Int) → L + (fl9 As).length ≤ 200 → sel 1 (μ.2.2 137 14) = pt → (μ.1 30 7).toInt = ((h + n : Nat) : Int) → (∀ k p, As[k]? = some p → μ.2.1 36 (h + (n - As.length) + k) = p.1) → (∀ p, p ∈ As → Wt9 μ μm p) → (∀ q, Ap9 pt (fl9 As) L μ q → pk (bw (p_X8_drop a2 q) (fun μ5 => bv (μ5.1 137 7) (fun v7 => p_X10_shapeCall_b57 FUEL key v7 0 μ5))) Q) → pk (p_X10_shapeCall_b12 f key a2 a3 μ) Q := by
  have e0 : (0 : Int32).toInt = 0 := by decide
  have em : (-1 : Int32).toInt = -1 := by decide
  intro As
  induction As with
  | nil =>
    intro f a3 μ L hl h3 hL h200 hsel h30 hst hW hQ
    cases f with
    | zero => intro r e; rw [p_X10_shapeCall_b12_z] at e; exact absurd e (by simp)
    | succ f =>
      have h3 : a3.toInt = 0 - 1 := h3
      rw [p_X10_shapeCall_b12_s, if_pos (by rw [ti_lt, h3, e0]; omega)]
      exact hQ μ (Ap9.rf hL)
  | cons p As ih =>
    intro f a3 μ L hl h3 hL h200 hsel h30 hst hW hQ
    have hl : As.length + 1 ≤ n := hl
    have h3 : a3.toInt = (As.length : Int) := by rw [h3, List.length_cons]; omega
    have ef : fl9 (p :: As) = p.2.2 ++ fl9 As := rfl
    rw [ef, List.length_append] at h200
    cases f with
    | zero => intro r e; rw [p_X10_shapeCall_b12_z] at e; exact absurd e (by simp)
    | succ f =>
      rw [p_X10_shapeCall_b12_s, if_neg (by rw [ti_lt, h3, e0]; omega)]
      refine pk_bd (c_fromTop (h := h + (n - (As.length + 1))) (b := As.length) (by rw [h30]; congr 1; omega) h3) ?_
      rintro r22 μ21 ⟨g1, g2⟩
      have g1 : r22 = μ.2.1 36 (h + (n - (As.length + 1))) := g1
      have g2 : μ21 = μ := g2
      have g3 : r22 = p.1 := by rw [g1]; exact hst 0 p rfl
      rw [g2, hsel, g3]
      refine pk_bw (c_flatten hpt hs (hW p List.mem_cons_self) hL (by omega)) (fun q hq => pk_bvs ?_)
      have hq' := hq
      obtain ⟨b1, b2, b3, b4, b5⟩ := hq'
      refine ih f (a3 + -1) q (L + p.2.2.length) (by omega) (by rw [ti_add (by rw [em]; omega) (by rw [em]; omega), h3, em]; omega) b2 (by omega) (by rw [b1]; exact hsel) (by rw [b3 30 7 (by omega)]; exact h30) (fun k p' hk => ?_) (fun p' hp' => (hW p' (List.mem_cons_of_mem _ hp')).of (b3 30 5 (by omega)) (fun k => b4 31 k (by omega) (by omega) (by omega)) (fun k => b4 32 k (by omega) (by omega) (by omega)) (fun k => b3 33 k (by omega)) (fun k => b3 34 k (by omega))) (fun q2 hq2 => hQ q2 (hq.app hq2 hpt))
      rw [b4 36 _ (by omega) (by omega) (by omega), show h + (n - As.length) + k = h + (n - (p :: As).length) + (k + 1) by rw [List.length_cons]; omega]
      exact hst (k + 1) p' hk
theorem c_shape {μ μm : Mem} {pt h n : Nat} {key a2 : Int32} {Q : Mem → Prop} (hpt : 100 ≤ pt) (hs : Ps9 pt) (hn : n ≤ 5) (h2 : a2.toInt = (n : Int)) {As : List (Int64 × Nat × List (Int64 × Nat))} (hl : As.length = n) (h200 : (fl9 As).length ≤ 200) (hsel : sel 1 (μ.2.2 137 14) = pt) (h30 : (μ.1 30 7).toInt = ((h + n : Nat) : Int)) (hst : ∀ k p, As[k]? = some p → μ.2.1 36 (h + k) = p.1) (hW : ∀ p, p ∈ As → Wt9 μ μm p) (hQ : ∀ μ0 q, μ0.2 = μ.2 → (∀ i k, i ≠ pt → μ0.1 i k = μ.1 i k) → μ0.1 pt 3 = key → Ap9 pt (fl9 As) 0 μ0 q → pk (bw (p_X8_drop a2 q) (fun μ5 => bv (μ5.1 137 7) (fun v7 => p_X10_shapeCall_b57 FUEL key v7 0 μ5))) Q) : pk (p_X10_shapeCall key a2 μ) Q := by
  have e1 : (1 : Int32).toInt = 1 := by decide
  rw [p_X10_shapeCall_eq, hsel, p_X2_begin_eq]
  have hb : pk (bv (sF μ pt 2 0) (fun μ1 => bv (sF μ1 pt 3 key) (fun μ2 => some μ2))) (fun q => q = sF (sF μ pt 2 0) pt 3 key) := pk_bvs (pk_bvs (pk_some rfl))
  refine pk_bw hb (fun μ0 q0 => pk_bvs ?_)
  have k2 : μ0.2 = μ.2 := by rw [q0]; rfl
  have k1 : ∀ i k, i ≠ pt → μ0.1 i k = μ.1 i k := fun i k hi => by rw [q0, sF_at, if_neg (fun e => hi e.1), sF_at, if_neg (fun e => hi e.1)]
  have k3 : μ0.1 pt 3 = key := by rw [q0, sF_v]
  have kz : (μ0.1 pt 2).toInt = ((0 : Nat) : Int) := by rw [q0, sF_k (by decide), sF_v]; decide
  have n2 : μ0.2.2 = μ.2.2 := by rw [k2]
  have n1 : ∀ i k, μ0.2.1 i k = μ.2.1 i k := fun i k => by rw [k2]
  exact c_args (μm := μm) (h := h) hpt hs hn As FUEL _ μ0 0 (by omega) (by rw [ti_sub (by omega) (by omega), h2, e1, hl]) kz (by omega) (by rw [n2]; exact hsel) (by rw [k1 30 7 (by omega)]; exact h30) (fun k p hk => by rw [n1, show h + (n - As.length) + k = h + k by omega]; exact hst k p hk) (fun p hp => (hW p hp).of (k1 30 5 (by omega)) (fun k => n1 31 k) (fun k => n1 32 k) (fun k => k1 33 k (by omega)) (fun k => k1 34 k (by omega))) (fun q hq => hQ μ0 q k2 k1 k3 hq)
end

section
theorem pt_mk : s_X0_make (nI 2) 0 = 8589934592 := by rw [mk_n 2 (by decide)]; decide
theorem st_mk : s_X0_make (nI 4) 0 = 17179869184 := by rw [mk_n 4 (by decide)]; decide
theorem n0_ : nI 0 = 0 := rfl
theorem n1_ : nI 1 = 1 := rfl
theorem tk_cases {t : Int64} {s b : Int32} (h : Tk7 t s b) : (s = 3 ∧ b = 0 ∧ t = 17179869184) ∨ (s = 2 ∧ b = 0 ∧ t = 8589934592) ∨ ∃ m : Nat, (m = 0 ∨ m = 1) ∧ s = nI m ∧ t = s_X0_make (nI m) b := by
  rcases h with ⟨a1, a2, a3⟩ | ⟨a1, a2, a3⟩ | ⟨a1, a2⟩
  · exact Or.inl ⟨a1, a2, by rw [a3, st_mk]⟩
  · exact Or.inr (Or.inl ⟨a1, a2, by rw [a3, pt_mk]⟩)
  · rcases a1 with e | e
    · exact Or.inr (Or.inr ⟨0, Or.inl rfl, e, by rw [a2, e]; rfl⟩)
    · exact Or.inr (Or.inr ⟨1, Or.inr rfl, e, by rw [a2, e]; rfl⟩)
theorem tk_kind {t : Int64} {s b : Int32} (h : Tk7 t s b) : s_X0_kind t = if s = 3 then 4 else s := by
  rcases tk_cases h with ⟨a1, a2, a3⟩ | ⟨a1, a2, a3⟩ | ⟨m, hm, a1, a2⟩
  · rw [a1, a3, ← st_mk, mk_kind 4 (by decide), if_pos rfl]; rfl
  · rw [a1, a3, ← pt_mk, mk_kind 2 (by decide), if_neg (by decide)]; rfl
  · rw [a2, a1, mk_kind m (by omega)]
    rcases hm with e | e <;> subst e <;> rfl
theorem tk_pt {t : Int64} {s b : Int32} (h : Tk7 t s b) : t = 8589934592 ↔ s = 2 := by
  constructor
  · intro e
    have k := tk_kind h
    rw [e, ← pt_mk, mk_kind 2 (by decide)] at k
    by_cases c : s = 3
    · rw [if_pos c] at k; exact absurd k (by decide)
    · rw [if_neg c] at k; exact k.symm
  · intro e
    rcases tk_cases h with ⟨a1, a2, a3⟩ | ⟨a1, a2, a3⟩ | ⟨m, hm, a1, a2⟩
    · rw [e] at a1; exact absurd a1 (by decide)
    · exact a3
    · rw [e] at a1; rcases hm with e | e <;> subst e <;> exact absurd a1 (by decide)
theorem tk_st {t : Int64} {s b : Int32} (h : Tk7 t s b) : t = 17179869184 ↔ s = 3 := by
  constructor
  · intro e
    have k := tk_kind h
    rw [e, ← st_mk, mk_kind 4 (by decide)] at k
    by_cases c : s = 3
    · exact c
    · rw [if_neg c] at k; rw [← k] at h
      rcases tk_cases h with ⟨a1, _⟩ | ⟨a1, _⟩ | ⟨m, hm, a1, _⟩
      · exact absurd a1 (by decide)
      · exact absurd a1 (by decide)
      · rcases hm with e | e <;> subst e <;> exact absurd a1 (by decide)
  · intro e
    rcases tk_cases h with ⟨a1, a2, a3⟩ | ⟨a1, a2, a3⟩ | ⟨m, hm, a1, a2⟩
    · exact a3
    · rw [e] at a1; exact absurd a1 (by decide)
    · rw [e] at a1; rcases hm with e | e <;> subst e <;> exact absurd a1 (by decide)
def Tk8 (t : Int64) : Prop := ∃ s b, Tk7 t s b
theorem tk8_st : Tk8 17179869184 := ⟨3, 0, Or.inl ⟨rfl, rfl, st_mk.symm⟩⟩
theorem tk8_kind {t : Int64} (h : Tk8 t) : s_X0_kind t = 2 ↔ t = 8589934592 := by
  obtain ⟨s, b, h⟩ := h
  rw [tk_kind h, tk_pt h]
  by_cases c : s = 3
  · rw [if_pos c, c]; decide
  · rw [if_neg c]
def Px9 (pt : Nat) (R : Rw9) (q : Mem) : Prop := (q.1 pt 2).toInt = (R.length : Int) ∧ ∀ k p, R[k]? = some p → q.2.1 (pt + 1) k = p.1 ∧ q.2.1 (pt + 2) k = p.2.1
def Py9 (pt : Nat) (Y : List Int64) (q : Mem) : Prop := (q.1 pt 2).toInt = (Y.length : Int) ∧ ∀ k t, Y[k]? = some t → q.2.1 (pt + 1) k = t
theorem Px9.py {pt : Nat} {R : Rw9} {q : Mem} (h : Px9 pt R q) : Py9 pt (tks R) q := by
  refine ⟨by rw [tks_len]; exact h.1, fun k t hk => ?_⟩
  unfold tks at hk
  rw [List.getElem?_map] at hk
  cases hr : R[k]? with
  | none => rw [hr] at hk; cases hk
  | some p =>
    rw [hr] at hk
    have : p.1 = t := Option.some.inj hk
    rw [← this]; exact (h.2 k p hr).1
theorem Px9.cong {pt : Nat} {R : Rw9} {μ q : Mem} (h : Px9 pt R μ) (c1 : q.1 pt 2 = μ.1 pt 2) (c2 : ∀ i k, i = pt + 1 ∨ i = pt + 2 → q.2.1 i k = μ.2.1 i k) : Px9 pt R q := ⟨by rw [c1]; exact h.1, fun k p hk => by rw [c2 _ k (Or.inl rfl), c2 _ k (Or.inr rfl)]; exact h.2 k p hk⟩
theorem Py9.cong {pt : Nat} {Y : List Int64} {μ q : Mem} (h : Py9 pt Y μ) (c1 : q.1 pt 2 = μ.1 pt 2) (c2 : ∀ k, q.2.1 (pt + 1) k = μ.2.1 (pt + 1) k) : Py9 pt Y q := ⟨by rw [c1]; exact h.1, fun k p hk => by rw [c2 k]; exact h.2 k p hk⟩
def Ar9 (pt : Nat) (S : Rw9) (L : Nat) (μ q : Mem) : Prop := q.2.2 = μ.2.2 ∧ (q.1 pt 2).toInt = ((L + S.length : Nat) : Int) ∧ (∀ i k, ¬ (i = pt ∧ k = 2) → q.1 i k = μ.1 i k) ∧ (∀ i k, ¬ (i = pt + 1 ∧ L ≤ k) → ¬ (i = pt + 2 ∧ L ≤ k) → q.2.1 i k = μ.2.1 i k) ∧ ∀ k p, S[k]? = some p → q.2.1 (pt + 1) (L + k) = p.1 ∧ q.2.1 (pt + 2) (L + k) = p.2.1
theorem Ar9.rf {pt L : Nat} {μ : Mem} (h : (μ.1 pt 2).toInt = (L : Int)) : Ar9 pt [] L μ μ := ⟨rfl, h, fun _ _ _ => rfl, fun _ _ _ _ => rfl, fun k p hk => by cases hk⟩
theorem Ar9.app {pt L : Nat} {μ μ1 q : Mem} {Z1 Z2 : Rw9} (h1 : Ar9 pt Z1 L μ μ1) (h : Ar9 pt Z2 (L + Z1.length) μ1 q) : Ar9 pt (Z1 ++ Z2) L μ q := by
  obtain ⟨b1, b2, b3, b4, b5⟩ := h1
  obtain ⟨a1, a2, a3, a4, a5⟩ := h
  refine ⟨a1.trans b1, by rw [a2, List.length_append]; omega, fun i k hk => (a3 i k hk).trans (b3 i k hk), fun i k c2 c3 => (a4 i k (fun e => c2 ⟨e.1, by omega⟩) (fun e => c3 ⟨e.1, by omega⟩)).trans (b4 i k c2 c3), fun k p hk => ?_⟩
  rcases Nat.lt_or_ge k Z1.length with e | e
  · rw [List.getElem?_append_left e] at hk
    rw [a4 (pt + 1) _ (by omega) (by omega), a4 (pt + 2) _ (by omega) (by omega)]
    exact b5 k p hk
  · rw [List.getElem?_append_right e] at hk
    have := a5 _ p hk
    rw [show L + Z1.length + (k - Z1.length) = L + k by omega] at this
    exact this
theorem Ar9.px {pt : Nat} {S : Rw9} {μ q : Mem} (h : Ar9 pt S 0 μ q) : Px9 pt S q := ⟨by rw [h.2.1]; congr 1; omega, fun k p hk => by have := h.2.2.2.2 k p hk; rw [Nat.zero_add] at this; exact this⟩
theorem c_add1 {μ : Mem} {pt L : Nat} (t s : Int64) (x : Nat) (hs : Ps9 pt) (hL : (μ.1 pt 2).toInt = (L : Int)) (hl : L < 200) : pk (p_X2_add pt t s μ) (fun q => Ar9 pt [(t, s, x)] L μ q) := by
  refine pk_mono (c_add9 (L := L) t s hs.1 hs.2 hL hl) (fun q hq => ?_)
  subst hq
  have hp := tp1 hL (by omega)
  refine ⟨rfl, ?_, ?_, ?_, ?_⟩
  · rw [sF_v]; exact hp
  · intro i k hk; rw [sF_at, if_neg hk]; rfl
  · intro i k b1 b2
    show (sL (sL μ (pt + 1) L t) (pt + 2) L s).2.1 i k = _
    rw [sL_at, if_neg (fun e => b2 ⟨e.1, by have := e.2; omega⟩), sL_at, if_neg (fun e => b1 ⟨e.1, by have := e.2; omega⟩)]
  · intro k p hk
    cases k with
    | succ k => cases hk
    | zero =>
      have : (t, s, x) = p := by simpa using hk
      subst this
      refine ⟨?_, ?_⟩
      · show (sL (sL μ (pt + 1) L t) (pt + 2) L s).2.1 (pt + 1) (L + 0) = _
        rw [sL_at, if_neg (fun e => by have := e.1; omega), sL_at, if_pos ⟨rfl, rfl⟩]
      · show (sL (sL μ (pt + 1) L t) (pt + 2) L s).2.1 (pt + 2) (L + 0) = _
        rw [sL_at, if_pos ⟨rfl, rfl⟩]
theorem c_behindL {μ : Mem} {pt : Nat} {T : List Int64} (h : Py9 pt T μ) (hk : ∀ t, t ∈ T → Tk8 t) (h200 : T.length ≤ 200) : ∀ (S : List Int64) (f i n : Nat) (a2 a3 : Int32), T.drop i = S → i ≤ T.length → n ≤ i + 1 → a2.toInt = (n : Int) → a3.toInt = (i : Int) → pk (p_X2_behind_b8 f pt a2 a3 μ) (fun r => r.1.toInt = ((i + bh9 S n : Nat) : Int) ∧ r.2 = μ) := by
  have e0 : (0 : Int32).toInt = 0 := by decide
  have em : (-1 : Int32).toInt = -1 := by decide
  have e1 : (1 : Int32).toInt = 1 := by decide
  intro S
  induction S with
  | nil =>
    intro f i n a2 a3 hS hi hn h2 h3
    cases f with
    | zero => intro r e; rw [p_X2_behind_b8_z] at e; exact absurd e (by simp)
    | succ f =>
      have hl : T.length ≤ i := List.drop_eq_nil_iff.mp hS
      rw [p_X2_behind_b8_s, if_pos (by rw [ti_le, h.1, h3]; omega)]
      exact pk_some ⟨h3, rfl⟩
  | cons t S ih =>
    intro f i n a2 a3 hS hi hn h2 h3
    have hil : i < T.length := by
      rcases Nat.lt_or_ge i T.length with e | e
      · exact e
      · rw [List.drop_eq_nil_iff.mpr e] at hS; cases hS
    have hti : T[i]? = some t := by
      have := List.drop_eq_getElem_cons hil
      rw [hS] at this
      rw [List.getElem?_eq_getElem hil, (List.cons.inj this).1]
    have hS' : T.drop (i + 1) = S := by
      have := List.drop_eq_getElem_cons hil
      rw [hS] at this
      exact (List.cons.inj this).2.symm
    cases f with
    | zero => intro r e; rw [p_X2_behind_b8_z] at e; exact absurd e (by simp)
    | succ f =>
      rw [p_X2_behind_b8_s, if_neg (by rw [ti_le, h.1, h3]; omega)]
      by_cases hn0 : n = 0
      · subst hn0
        rw [if_pos (by rw [ti_le, h2, e0]; omega), bh9_0]
        exact pk_some ⟨h3, rfl⟩
      · have eb : bh9 (t :: S) n = 1 + bh9 S (if t = 8589934592 then n + 1 else n - 1) := by
          show (if n = 0 then 0 else _) = _
          rw [if_neg hn0]
        rw [if_neg (by rw [ti_le, h2, e0]; omega), tn_of h3, h.2 i t hti]
        have ht8 : Tk8 t := hk t (List.mem_iff_getElem?.mpr ⟨i, hti⟩)
        refine pk_gd (fun _ => pk_ite (fun c => ?_) (fun c => ?_))
        · have c' := (tk8_kind ht8).mp c
          rw [p_X2_behind_b39_eq]
          refine pk_bvs (pk_bvs (pk_mono (ih f (i + 1) (n + 1) (a2 + 1) (a3 + 1) hS' (by omega) (by omega) (tp1 h2 (by omega)) (tp1 h3 (by omega))) (fun r hr => ⟨?_, hr.2⟩)))
          rw [hr.1, eb, if_pos c']; congr 1; omega
        · have c' := fun e => c ((tk8_kind ht8).mpr e)
          rw [p_X2_behind_b39_eq]
          refine pk_bvs (pk_bvs (pk_mono (ih f (i + 1) (n - 1) (a2 + -1) (a3 + 1) hS' (by omega) (by omega) (by rw [ti_add (by rw [em]; omega) (by rw [em]; omega), h2, em]; omega) (tp1 h3 (by omega))) (fun r hr => ⟨?_, hr.2⟩)))
          rw [hr.1, eb, if_neg c']; congr 1; omega
theorem imax0 {a : Int32} {i : Nat} (ha : a.toInt = (i : Int)) : (imax 0 a).toInt = (i : Int) := by
  have e0 : (0 : Int32).toInt = 0 := by decide
  unfold imax
  split
  · exact ha
  · next c => rw [ti_lt, e0, ha] at c; rw [e0]; omega
theorem c_behind {μ : Mem} {pt : Nat} {T : List Int64} (h : Py9 pt T μ) (hk : ∀ t, t ∈ T → Tk8 t) (h200 : T.length ≤ 200) {i : Nat} (hi : i ≤ T.length) {a : Int32} (ha : a.toInt = (i : Int)) : pk (p_X2_behind pt a μ) (fun r => r.1.toInt = ((i + bh9 (T.drop i) 1 : Nat) : Int) ∧ r.2 = μ) := by
  have e1 : (1 : Int32).toInt = ((1 : Nat) : Int) := by decide
  have e0 : (0 : Int32).toInt = 0 := by decide
  rw [p_X2_behind_eq]
  refine pk_bvy (fun v hv => ?_)
  have hv' : v.toInt = (i : Int) := by
    rw [hv]; exact imax0 ha
  exact c_behindL h hk h200 _ _ i 1 1 v rfl hi (by omega) e1 hv'
theorem c_addParts {ut pt : Nat} (hd : ut + 3 ≤ pt ∨ pt + 3 ≤ ut) (hs : Ps9 ut) {R : Rw9} (h200 : R.length ≤ 200) : ∀ (n f i L : Nat) (a3 a4 : Int32) (μ : Mem), Px9 pt R μ → a4.toInt = (i : Int) → a3.toInt = ((i + n : Nat) : Int) → i + n ≤ R.length → (μ.1 ut 2).toInt = (L : Int) → L + n ≤ 200 → pk (p_X2_addParts_b3 f ut pt a3 a4 μ) (fun q => Ar9 ut ((R.drop i).take n) L μ q) := by
  intro n
  induction n with
  | zero =>
    intro f i L a3 a4 μ hp h4 h3 hi hL hl
    cases f with
    | zero => intro r e; rw [p_X2_addParts_b3_z] at e; exact absurd e (by simp)
    | succ f =>
      rw [p_X2_addParts_b3_s, if_pos (by rw [ti_le, h3, h4]; omega), List.take_zero]
      exact pk_some (Ar9.rf hL)
  | succ n ih =>
    intro f i L a3 a4 μ hp h4 h3 hi hL hl
    cases f with
    | zero => intro r e; rw [p_X2_addParts_b3_z] at e; exact absurd e (by simp)
    | succ f =>
      obtain ⟨p, hpi⟩ : ∃ p, R[i]? = some p := ⟨R[i], List.getElem?_eq_getElem (by omega)⟩
      obtain ⟨w1, w2⟩ := hp.2 i p hpi
      rw [p_X2_addParts_b3_s, if_neg (by rw [ti_le, h3, h4]; omega), if_neg (by rw [ti_le, hp.1, h4]; omega), tn_of h4, w1, w2]
      refine pk_gd (fun _ => pk_gd (fun _ => pk_bw (c_add1 (L := L) p.1 p.2.1 p.2.2 hs hL (by omega)) (fun q hq => pk_bvs ?_)))
      have hq' := hq
      obtain ⟨b1, b2, b3, b4, b5⟩ := hq'
      refine pk_mono (ih f (i + 1) (L + 1) a3 (a4 + 1) q (hp.cong (b3 _ _ (by omega)) (fun j k hj => b4 j k (by omega) (by omega))) (tp1 h4 (by omega)) (by rw [h3]; congr 1; omega) (by omega) b2 (by omega)) (fun q2 hq2 => ?_)
      have ed : (R.drop i).take (n + 1) = [p] ++ (R.drop (i + 1)).take n := by
        have hil : i < R.length := by omega
        rw [List.drop_eq_getElem_cons hil, List.take_succ_cons]
        have : R[i] = p := by
          rw [List.getElem?_eq_getElem hil] at hpi; exact Option.some.inj hpi
        rw [this]; rfl
      rw [ed]
      exact hq.app hq2
end

section
theorem drop_c {α : Type} {T S : List α} {t : α} {i : Nat} (h : T.drop i = t :: S) : i < T.length ∧ T[i]? = some t ∧ T.drop (i + 1) = S := by
  have hil : i < T.length := by
    rcases Nat.lt_or_ge i T.length with e | e
    · exact e
    · rw [List.drop_eq_nil_iff.mpr e] at h; cases h
  have := List.drop_eq_getElem_cons hil
  rw [h] at this
  exact ⟨hil, by rw [List.getElem?_eq_getElem hil, (List.cons.inj this).1], (List.cons.inj this).2.symm⟩
theorem c_growL {pt qt ut : Nat} (hpq : pt + 3 ≤ qt ∨ qt + 3 ≤ pt) (hpu : pt + 3 ≤ ut ∨ ut + 3 ≤ pt) (hqu : qt + 3 ≤ ut ∨ ut + 3 ≤ qt) (hsp : Ps9 pt) (hsu : Ps9 ut) {R0 : Rw9} {Y0 : List Int64} (hR : ∀ t, t ∈ tks R0 → Tk8 t) (hY : ∀ t, t ∈ Y0 → Tk8 t) (h200 : R0.length ≤ 200) (hY200 : Y0.length ≤ 200) : ∀ (g f i j L nn lg : Nat) (a3 a4 a5 a6 : Int32) (μ : Mem), R0.length - i ≤ g → i ≤ R0.length → j ≤ Y0.length → L ≤ i → nn ≤ i → lg ≤ i → Px9 pt R0 μ → Py9 qt Y0 μ → (μ.1 ut 2).toInt = (L : Int) → a3.toInt = (lg : Int) → a4.toInt = (i : Int) → a5.toInt = (j : Int) → a6.toInt = (nn : Int) → pk (p_X2_growBeside_b19 f pt qt ut a3 a4 a5 a6 μ) (fun r => r.1.toInt = ((lg + (grw g (R0.drop i) (Y0.drop j)).2 : Nat) : Int) ∧ Ar9 ut (grw g (R0.drop i) (Y0.drop j)).1 L μ r.2) := by
  have e200 : (Int32.ofNat 200).toInt = 200 := by decide
  intro g
  induction g with
  | zero =>
    intro f i j L nn lg a3 a4 a5 a6 μ hg hi hj hLi hn hlg hp hq hL h3 h4 h5 h6
    cases f with
    | zero => intro r e; rw [p_X2_growBeside_b19_z] at e; exact absurd e (by simp)
    | succ f =>
      have hil : R0.length ≤ i := by omega
      rw [p_X2_growBeside_b19_s, hsp.1]
      refine pk_ite (fun _ => pk_some ⟨h3, Ar9.rf hL⟩) (fun _ => ?_)
      rw [if_pos (by rw [ti_le, hp.1, h4]; omega)]
      exact pk_some ⟨h3, Ar9.rf hL⟩
  | succ g ih =>
    intro f i j L nn lg a3 a4 a5 a6 μ hg hi hj hLi hn hlg hp hq hL h3 h4 h5 h6
    cases f with
    | zero => intro r e; rw [p_X2_growBeside_b19_z] at e; exact absurd e (by simp)
    | succ f =>
      rw [p_X2_growBeside_b19_s, hsp.1]
      cases hRi : R0.drop i with
      | nil =>
        have hil : R0.length ≤ i := List.drop_eq_nil_iff.mp hRi
        refine pk_ite (fun _ => pk_some ⟨h3, Ar9.rf hL⟩) (fun _ => ?_)
        rw [if_pos (by rw [ti_le, hp.1, h4]; omega)]
        exact pk_some ⟨h3, Ar9.rf hL⟩
      | cons p R =>
        obtain ⟨hil, hpi, hR1⟩ := drop_c hRi
        rw [if_neg (by rw [ti_le, e200, h6]; omega), if_neg (by rw [ti_le, hp.1, h4]; omega)]
        cases hYj : Y0.drop j with
        | nil =>
          have hjl : Y0.length ≤ j := List.drop_eq_nil_iff.mp hYj
          rw [if_pos (by rw [ti_le, hq.1, h5]; omega)]
          exact pk_some ⟨h3, Ar9.rf hL⟩
        | cons t Y =>
          obtain ⟨hjl, htj, hY1⟩ := drop_c hYj
          obtain ⟨w1, w2⟩ := hp.2 i p hpi
          have w3 := hq.2 j t htj
          rw [if_neg (by rw [ti_le, hq.1, h5]; omega)]
          have dR : (tks R0).drop i = tks (p :: R) := by rw [← tks_drop, hRi]
          have cb : bh9 (tks (p :: R)) 1 ≤ R0.length - i := by
            have := bh9_le (T := (tks R0).drop i) (n := 1)
            rw [List.length_drop, tks_len, dR] at this; exact this
          have db : bh9 (t :: Y) 1 ≤ Y0.length - j := by
            have := bh9_le (T := Y0.drop j) (n := 1)
            rw [List.length_drop, hYj] at this; exact this
          have c1 : 1 ≤ bh9 (tks (p :: R)) 1 := bh9_pos (by omega)
          refine pk_bd (c_behind hp.py hR (by rw [tks_len]; exact h200) (i := i) (by rw [tks_len]; exact hi) h4) ?_
          rintro r7 μ6 ⟨g1, g2⟩
          have g1 : r7.toInt = ((i + bh9 ((tks R0).drop i) 1 : Nat) : Int) := g1
          have g2 : μ6 = μ := g2
          rw [dR] at g1
          rw [g2, tn_of h4, tn_of h5, w1, w2, w3]
          have nx : ∀ (S : Rw9) (lg2 : Nat) (a3' : Int32) (q : Mem), S.length ≤ bh9 (tks (p :: R)) 1 → lg2 ≤ i + 1 → a3'.toInt = (lg2 : Int) → Ar9 ut S L μ q → pk (p_X2_growBeside_b159 (p_X2_growBeside_b19 f) pt qt ut a3' a5 a6 r7 q) (fun r => r.1.toInt = ((lg2 + (grw g ((p :: R).drop (bh9 (tks (p :: R)) 1)) ((t :: Y).drop (bh9 (t :: Y) 1))).2 : Nat) : Int) ∧ Ar9 ut (S ++ (grw g ((p :: R).drop (bh9 (tks (p :: R)) 1)) ((t :: Y).drop (bh9 (t :: Y) 1))).1) L μ r.2) := by
            intro S lg2 a3' q hS hlg2 h3' ha
            have ha' := ha
            obtain ⟨b1, b2, b3, b4, b5⟩ := ha'
            have hp' : Px9 pt R0 q := hp.cong (b3 _ _ (by omega)) (fun x k hx => b4 x k (by omega) (by omega))
            have hq' : Py9 qt Y0 q := hq.cong (b3 _ _ (by omega)) (fun k => b4 _ k (by omega) (by omega))
            rw [p_X2_growBeside_b159_eq]
            refine pk_bd (c_behind hq' hY hY200 hj h5) ?_
            rintro r13 μ12 ⟨g3, g4⟩
            have g3 : r13.toInt = ((j + bh9 (Y0.drop j) 1 : Nat) : Int) := g3
            have g4 : μ12 = q := g4
            rw [hYj] at g3
            rw [g4, p_X2_growBeside_b171_eq]
            refine pk_bvs (pk_mono (ih f (i + bh9 (tks (p :: R)) 1) (j + bh9 (t :: Y) 1) (L + S.length) (nn + 1) lg2 a3' r7 r13 (a6 + 1) q (by omega) (by omega) (by omega) (by omega) (by omega) (by omega) hp' hq' b2 h3' g1 g3 (tp1 h6 (by omega))) (fun r hr => ?_))
            rw [← List.drop_drop, ← List.drop_drop, hRi, hYj] at hr
            exact ⟨hr.1, ha.app hr.2⟩
          have no : ¬ (p.1 = 8589934592 ∧ t = 8589934592) → pk (p_X2_growBeside_b110 (p_X2_growBeside_b19 f) pt qt ut a3 a4 a5 a6 r7 μ) (fun r => r.1.toInt = ((lg + (grw (g + 1) (p :: R) (t :: Y)).2 : Nat) : Int) ∧ Ar9 ut (grw (g + 1) (p :: R) (t :: Y)).1 L μ r.2) := by
            intro hn2
            rw [p_X2_growBeside_b110_eq, tn_of h4, tn_of h5, w1, w2, w3]
            refine pk_gd (fun _ => pk_gd (fun _ => pk_ite (fun c => ?_) (fun c => ?_)))
            · have hg2 : ¬ gn9 p.1 t = true := by unfold gn9; rw [c]; decide
              rw [grw_no hn2 hg2, p_X2_addParts_eq]
              refine pk_bw (c_addParts (ut := ut) (pt := pt) (by omega) hsu h200 (bh9 (tks (p :: R)) 1) FUEL i L r7 a4 μ hp h4 g1 (by omega) hL (by omega)) (fun q hq2 => ?_)
              rw [hRi] at hq2
              exact nx _ lg a3 q (by rw [List.length_take]; omega) (by omega) h3 hq2
            · have hg2 : gn9 p.1 t = true := by unfold gn9; exact decide_eq_true c
              rw [grw_gn hn2 hg2]
              refine pk_gd (fun _ => pk_bw (c_add1 (L := L) 17179869184 p.2.1 p.2.2 hsu hL (by omega)) (fun q hq2 => pk_bvs ?_))
              refine pk_mono (nx [(17179869184, p.2)] (lg + 1) (a3 + 1) q (by show 1 ≤ _; exact c1) (by omega) (tp1 h3 (by omega)) hq2) (fun r hr => ⟨?_, hr.2⟩)
              rw [hr.1]; congr 1; omega
          refine pk_gd (fun _ => pk_ite (fun c => pk_gd (fun _ => pk_ite (fun c' => ?_) (fun c' => no (fun e => c' (lg_eq.mpr e.2))))) (fun c => no (fun e => c (lg_eq.mpr e.1))))
          have hpp : p.1 = 8589934592 ∧ t = 8589934592 := ⟨lg_eq.mp c, lg_eq.mp c'⟩
          rw [grw_pp hpp]
          refine pk_gd (fun _ => pk_gd (fun _ => pk_bw (c_add1 (L := L) p.1 p.2.1 p.2.2 hsu hL (by omega)) (fun q hq2 => pk_bvs (pk_bvs ?_))))
          have hq2' := hq2
          obtain ⟨b1, b2, b3, b4, b5⟩ := hq2'
          have hp' : Px9 pt R0 q := hp.cong (b3 _ _ (by omega)) (fun x k hx => b4 x k (by omega) (by omega))
          have hq' : Py9 qt Y0 q := hq.cong (b3 _ _ (by omega)) (fun k => b4 _ k (by omega) (by omega))
          rw [p_X2_growBeside_b171_eq]
          refine pk_bvs (pk_mono (ih f (i + 1) (j + 1) (L + 1) (nn + 1) lg a3 (a4 + 1) (a5 + 1) (a6 + 1) q (by omega) (by omega) (by omega) (by omega) (by omega) (by omega) hp' hq' b2 h3 (tp1 h4 (by omega)) (tp1 h5 (by omega)) (tp1 h6 (by omega))) (fun r hr => ?_))
          rw [hR1, hY1] at hr
          exact ⟨hr.1, hq2.app hr.2⟩
theorem c_grow {pt qt ut : Nat} (hpq : pt + 3 ≤ qt ∨ qt + 3 ≤ pt) (hpu : pt + 3 ≤ ut ∨ ut + 3 ≤ pt) (hqu : qt + 3 ≤ ut ∨ ut + 3 ≤ qt) (hsp : Ps9 pt) (hsu : Ps9 ut) {R0 : Rw9} {Y0 : List Int64} (hR : ∀ t, t ∈ tks R0 → Tk8 t) (hY : ∀ t, t ∈ Y0 → Tk8 t) (h200 : R0.length ≤ 200) (hY200 : Y0.length ≤ 200) {μ : Mem} (hp : Px9 pt R0 μ) (hq : Py9 qt Y0 μ) : pk (p_X2_growBeside pt qt ut μ) (fun r => r.1.toInt = ((grw 200 R0 Y0).2 : Int) ∧ (r.2.1 ut 3 = μ.1 pt 3 ∧ ∀ i k, i ≠ ut → r.2.1 i k = μ.1 i k) ∧ Px9 ut (grw 200 R0 Y0).1 r.2 ∧ r.2.2.2 = μ.2.2 ∧ ∀ i k, i ≠ ut + 1 → i ≠ ut + 2 → r.2.2.1 i k = μ.2.1 i k) := by
  have e0 : (0 : Int32).toInt = ((0 : Nat) : Int) := by decide
  rw [p_X2_growBeside_eq, p_X2_begin_eq]
  have hb : pk (bv (sF μ ut 2 0) (fun μ1 => bv (sF μ1 ut 3 (μ.1 pt 3)) (fun μ2 => some μ2))) (fun q => q = sF (sF μ ut 2 0) ut 3 (μ.1 pt 3)) := pk_bvs (pk_bvs (pk_some rfl))
  refine pk_bw hb (fun μ0 q0 => ?_)
  have k2 : μ0.2 = μ.2 := by rw [q0]; rfl
  have k1 : ∀ i k, i ≠ ut → μ0.1 i k = μ.1 i k := fun i k hi => by rw [q0, sF_at, if_neg (fun e => hi e.1), sF_at, if_neg (fun e => hi e.1)]
  have k3 : μ0.1 ut 3 = μ.1 pt 3 := by rw [q0, sF_v]
  have kz : (μ0.1 ut 2).toInt = ((0 : Nat) : Int) := by rw [q0, sF_k (by decide), sF_v]; decide
  have hp0 : Px9 pt R0 μ0 := hp.cong (k1 _ _ (by omega)) (fun i k _ => by rw [k2])
  have hq0 : Py9 qt Y0 μ0 := hq.cong (k1 _ _ (by omega)) (fun k => by rw [k2])
  refine pk_mono (c_growL hpq hpu hqu hsp hsu hR hY h200 hY200 200 FUEL 0 0 0 0 0 0 0 0 0 μ0 (by omega) (by omega) (by omega) (by omega) (by omega) (by omega) hp0 hq0 kz e0 e0 e0 e0) (fun r hr => ?_)
  rw [List.drop_zero, List.drop_zero] at hr
  obtain ⟨h1, h2⟩ := hr
  have h2' := h2
  obtain ⟨b1, b2, b3, b4, b5⟩ := h2'
  exact ⟨by rw [h1]; congr 1; omega, ⟨by rw [b3 ut 3 (by omega)]; exact k3, fun i k hi => (b3 i k (by omega)).trans (k1 i k hi)⟩, h2.px, by rw [b1, k2], fun i k x1 x2 => (b4 i k (by omega) (by omega)).trans (by rw [k2])⟩
end

section
theorem nI_inj {m m' : Nat} (h1 : m ≤ 1) (h2 : m' ≤ 1) (h : nI m = nI m') : m = m' := by
  rcases (show m = 0 ∨ m = 1 by omega) with e | e <;> rcases (show m' = 0 ∨ m' = 1 by omega) with e2 | e2 <;> subst e <;> subst e2 <;> first | rfl | exact absurd h (by decide)
theorem grown_eq {m m' : Nat} {x y : Int32} (hm : m ≤ 1) (hm' : m' ≤ 1) : pk (p_X12_isGrown (nI m) x (nI m') y) (fun r => r = 0 ↔ s_X2_isGrown (s_X0_make (nI m) x) (s_X0_make (nI m') y) = 0) := by
  obtain ⟨X, f1, f2, _⟩ := fb_norm hm x
  obtain ⟨Y, f3, f4, _⟩ := fb_norm hm' y
  have hne : ¬ lg_cmp (s_X0_make (nI m) x) 8589934592 = 0 := by
    rw [lg_eq, ← pt_mk]
    intro e
    have := (mk_inj (by omega) (by decide) e).1
    omega
  have key : pk (p_X12_isGrown_b12 (nI m) x (nI m') y) (fun r => r = 0 ↔ (if (s_X0_isBelow (X &&& 2147483647) (Y &&& 2147483647)) = 0 then (1 : Int32) else 0) = 0) := by
    rw [p_X12_isGrown_b12_eq, f2, f4]
    refine pk_bvs (pk_bvs (pk_bsq (q_isLess _ _) (fun r hr => ?_)))
    rw [hr, less_below, lx_isBelow]
    refine pk_ite (fun c => ?_) (fun c => ?_)
    · rw [if_pos c]; exact pk_some Iff.rfl
    · rw [if_neg c]; exact pk_some Iff.rfl
  rw [s_X2_isGrown_eq, if_neg (by rw [mk_known m' (by omega)]; omega), if_neg hne, if_neg (by rw [mk_known m (by omega)]; omega), f1, f3, p_X12_isGrown_eq]
  show pk _ (fun r => r = 0 ↔ (if lg_cmp (s_X0_make (nI m) x) (s_X0_make (nI m') y) = 0 then (0 : Int32) else (if (s_X0_isBelow (X &&& 2147483647) (Y &&& 2147483647)) = 0 then (1 : Int32) else 0)) = 0)
  by_cases c : nI m = nI m'
  · rw [if_pos c]
    have e := nI_inj hm hm' c
    subst e
    by_cases c2 : x = y
    · subst c2
      rw [if_pos rfl, if_pos (lg_eq.mpr rfl)]
      exact pk_some Iff.rfl
    · rw [if_neg c2, if_neg (fun h => c2 (mk_inj (by omega) (by omega) (lg_eq.mp h)).2)]
      exact key
  · rw [if_neg c, if_neg (fun h => c (by rw [(mk_inj (by omega) (by omega) (lg_eq.mp h)).1]))]
    exact key
def Sr9 (z : Mem) (a o : Nat) (T : List Int64) : Prop := ∀ k t, T[k]? = some t → (z.1 a (o + k) = 2 ↔ t = 8589934592)
theorem m_behindL {z : Mem} {a o : Nat} {T : List Int64} (ho : o + T.length ≤ 100000) (h : Sr9 z a o T) : ∀ (S : List Int64) (f i n m : Nat) (a2 a3 : Int32), T.drop i = S → i ≤ T.length → n ≤ i + 1 → Wf9 S (n + m) → a2.toInt = (n : Int) → a3.toInt = ((o + i : Nat) : Int) → pk (p_X12_behindPart_b4 f a a2 a3 z) (fun r => r.1.toInt = ((o + (i + bh9 S n) : Nat) : Int) ∧ r.2 = z) := by
  have e0 : (0 : Int32).toInt = 0 := by decide
  have em : (-1 : Int32).toInt = -1 := by decide
  intro S
  induction S with
  | nil =>
    intro f i n m a2 a3 hS hi hn hw h2 h3
    have hw : n + m = 0 := hw
    cases f with
    | zero => intro r e; rw [p_X12_behindPart_b4_z] at e; exact absurd e (by simp)
    | succ f =>
      rw [p_X12_behindPart_b4_s, if_pos (by rw [ti_le, h2, e0]; omega)]
      exact pk_some ⟨h3, rfl⟩
  | cons t S ih =>
    intro f i n m a2 a3 hS hi hn hw h2 h3
    obtain ⟨hil, hti, hS'⟩ := drop_c hS
    cases f with
    | zero => intro r e; rw [p_X12_behindPart_b4_z] at e; exact absurd e (by simp)
    | succ f =>
      rw [p_X12_behindPart_b4_s]
      by_cases hn0 : n = 0
      · subst hn0
        rw [if_pos (by rw [ti_le, h2, e0]; omega), bh9_0]
        exact pk_some ⟨h3, rfl⟩
      · have eb : bh9 (t :: S) n = 1 + bh9 S (if t = 8589934592 then n + 1 else n - 1) := by
          show (if n = 0 then 0 else _) = _
          rw [if_neg hn0]
        have hw2 := hw.2
        have hs := h i t hti
        rw [if_neg (by rw [ti_le, h2, e0]; omega), tn_of h3]
        refine pk_gd (fun _ => pk_ite (fun c => ?_) (fun c => ?_))
        · have c' := hs.mp c
          rw [if_pos c'] at hw2
          rw [p_X12_behindPart_b21_eq]
          refine pk_bvs (pk_bvs (pk_mono (ih f (i + 1) (n + 1) m (a2 + 1) (a3 + 1) hS' (by omega) (by omega) (by rw [show n + 1 + m = n + m + 1 by omega]; exact hw2) (tp1 h2 (by omega)) (by rw [tp1 h3 (by omega)]; rfl)) (fun r hr => ⟨?_, hr.2⟩)))
          rw [hr.1, eb, if_pos c']; congr 1; omega
        · have c' := fun e => c (hs.mpr e)
          rw [if_neg c'] at hw2
          rw [p_X12_behindPart_b21_eq]
          refine pk_bvs (pk_bvs (pk_mono (ih f (i + 1) (n - 1) m (a2 + -1) (a3 + 1) hS' (by omega) (by omega) (by rw [show n - 1 + m = n + m - 1 by omega]; exact hw2) (by rw [ti_add (by rw [em]; omega) (by rw [em]; omega), h2, em]; omega) (by rw [tp1 h3 (by omega)]; rfl)) (fun r hr => ⟨?_, hr.2⟩)))
          rw [hr.1, eb, if_neg c']; congr 1; omega
theorem m_behind {z : Mem} {a o : Nat} {T : List Int64} (ho : o + T.length ≤ 100000) (h : Sr9 z a o T) {i n : Nat} (hi : i ≤ T.length) (hw : Wf9 (T.drop i) (1 + n)) {a1 : Int32} (h1 : a1.toInt = ((o + i : Nat) : Int)) : pk (p_X12_behindPart a a1 z) (fun r => r.1.toInt = ((o + (i + bh9 (T.drop i) 1) : Nat) : Int) ∧ r.2 = z) := by
  have e1 : (1 : Int32).toInt = ((1 : Nat) : Int) := by decide
  rw [p_X12_behindPart_eq]
  exact m_behindL ho h _ _ i 1 n 1 a1 rfl hi (by omega) hw e1 h1
def Pm9 (R : Rw9) (z : Mem) : Prop := (z.1 0 118).toInt = (R.length : Int) ∧ ∀ k p, R[k]? = some p → Tk7 p.1 (z.1 67 k) (z.1 68 k) ∧ (z.1 69 k).toInt = (p.2.2 : Int)
def Qm9 (o : Nat) (Y : List Int64) (z : Mem) : Prop := ∀ k t, Y[k]? = some t → Tk7 t (z.1 60 (o + k)) (z.1 61 (o + k))
def Om9 (S : Rw9) (z : Mem) : Prop := ∀ k p, S[k]? = some p → Tk7 p.1 (z.1 70 k) (z.1 71 k) ∧ (z.1 72 k).toInt = (p.2.2 : Int)
def Go9 (c : Nat) (μ z : Mem) : Prop := z.2 = μ.2 ∧ z.1 0 96 = μ.1 0 96 + Int32.ofNat c ∧ ∀ i k, ¬ (67 ≤ i ∧ i ≤ 72) → ¬ (i = 0 ∧ (k = 96 ∨ k = 118)) → z.1 i k = μ.1 i k
theorem Go9.tr {c d : Nat} {μ q z : Mem} (h : Go9 c μ q) (h2 : Go9 d q z) : Go9 (c + d) μ z := by
  refine ⟨h2.1.trans h.1, ?_, fun i k a b => (h2.2.2 i k a b).trans (h.2.2 i k a b)⟩
  rw [h2.2.1, h.2.1, Int32.add_assoc, ← Int32.ofNat_add]
theorem m_copy {a0 a3 n : Nat} (hd : a0 ≠ a3) {a2 : Int32} (h2 : a2.toInt = (n : Int)) (hn : n ≤ 300) {o p : Nat} (ho : o ≤ 10000) (hp : p ≤ 10000) {a1 a4 : Int32} (h1 : a1.toInt = (o : Int)) (h4 : a4.toInt = (p : Int)) : ∀ (m f k : Nat) (a5 : Int32) (μ : Mem), n - k = m → k ≤ n → a5.toInt = (k : Int) → pk (p_X12_copy_b3 f a0 a1 a2 a3 a4 a5 μ) (fun z => z.2 = μ.2 ∧ (∀ i l, ¬ (i = a3 ∧ p + k ≤ l ∧ l < p + n) → z.1 i l = μ.1 i l) ∧ ∀ l, k ≤ l → l < n → z.1 a3 (p + l) = μ.1 a0 (o + l)) := by
  intro m
  induction m with
  | zero =>
    intro f k a5 μ hm hk h5
    cases f with
    | zero => intro r e; rw [p_X12_copy_b3_z] at e; exact absurd e (by simp)
    | succ f =>
      rw [p_X12_copy_b3_s, if_pos (by rw [ti_le, h2, h5]; omega)]
      exact pk_some ⟨rfl, fun _ _ _ => rfl, fun l a b => by omega⟩
  | succ m ih =>
    intro f k a5 μ hm hk h5
    cases f with
    | zero => intro r e; rw [p_X12_copy_b3_z] at e; exact absurd e (by simp)
    | succ f =>
      have s1 : (a1 + a5).toInt = ((o + k : Nat) : Int) := by rw [ti_add (by omega) (by omega), h1, h5]; omega
      have s2 : (a4 + a5).toInt = ((p + k : Nat) : Int) := by rw [ti_add (by omega) (by omega), h4, h5]; omega
      rw [p_X12_copy_b3_s, if_neg (by rw [ti_le, h2, h5]; omega), tn_of s1, tn_of s2]
      refine pk_gd (fun _ => pk_gd (fun _ => pk_bvy (fun μ2 q2 => pk_bvs (pk_mono (ih f (k + 1) (a5 + 1) μ2 (by omega) (by omega) (tp1 h5 (by omega))) (fun z hz => ?_)))))
      obtain ⟨b1, b2, b3⟩ := hz
      have k2 : ∀ i l, ¬ (i = a3 ∧ l = p + k) → μ2.1 i l = μ.1 i l := fun i l h => by rw [q2, sF_at, if_neg h]
      refine ⟨b1.trans (by rw [q2]; rfl), fun i l h => (b2 i l (fun e => h ⟨e.1, by omega, e.2.2⟩)).trans (k2 i l (fun e => h ⟨e.1, by omega, by omega⟩)), fun l c1 c2 => ?_⟩
      rcases Nat.lt_or_ge k l with e | e
      · rw [b3 l (by omega) c2, k2 a0 _ (fun e => hd e.1)]
      · have : l = k := by omega
        subst this
        rw [b2 a3 _ (by omega), q2, sF_v]
theorem m_copy0 {a0 a3 n : Nat} (hd : a0 ≠ a3) {a1 a2 a4 : Int32} (h2 : a2.toInt = (n : Int)) (hn : n ≤ 300) {o p : Nat} (ho : o ≤ 10000) (hp : p ≤ 10000) (h1 : a1.toInt = (o : Int)) (h4 : a4.toInt = (p : Int)) (μ : Mem) : pk (p_X12_copy a0 a1 a2 a3 a4 μ) (fun z => z.2 = μ.2 ∧ (∀ i l, ¬ (i = a3 ∧ p ≤ l ∧ l < p + n) → z.1 i l = μ.1 i l) ∧ ∀ l, l < n → z.1 a3 (p + l) = μ.1 a0 (o + l)) := by
  have e0 : (0 : Int32).toInt = ((0 : Nat) : Int) := by decide
  rw [p_X12_copy_eq]
  refine pk_mono (m_copy hd h2 hn ho hp h1 h4 n FUEL 0 0 μ (by omega) (by omega) e0) (fun z hz => ⟨hz.1, fun i l h => hz.2.1 i l (fun e => h ⟨e.1, by omega, e.2.2⟩), fun l hl => hz.2.2 l (by omega) hl⟩)
theorem m_growEnd {f : Nat} {S : Rw9} (hS : S.length ≤ 200) {a2 a3 a4 : Int32} {μ : Mem} (hle : (μ.1 0 118) ≤ a2) (h4 : a4.toInt = (S.length : Int)) (hO : Om9 S μ) : pk (p_X12_growBy_b11 (f + 1) a2 a3 a4 μ) (fun z => Pm9 S z ∧ Go9 0 μ z) := by
  have e0 : (0 : Int32).toInt = ((0 : Nat) : Int) := by decide
  rw [p_X12_growBy_b11_s, if_pos hle]
  refine pk_bvy (fun μ3 q3 => pk_bw (m_copy0 (o := 0) (p := 0) (by decide) h4 (by omega) (by omega) (by omega) e0 e0 μ3) (fun μ4 c1 => pk_bw (m_copy0 (o := 0) (p := 0) (by decide) h4 (by omega) (by omega) (by omega) e0 e0 μ4) (fun μ6 c2 => pk_bw (m_copy0 (o := 0) (p := 0) (by decide) h4 (by omega) (by omega) (by omega) e0 e0 μ6) (fun μ8 c3 => pk_some ?_))))
  obtain ⟨x1, x2, x3⟩ := c1
  obtain ⟨y1, y2, y3⟩ := c2
  obtain ⟨z1, z2, z3⟩ := c3
  have k3 : ∀ i l, ¬ (i = 0 ∧ l = 118) → μ3.1 i l = μ.1 i l := fun i l h => by rw [q3, sF_at, if_neg h]
  refine ⟨⟨?_, fun k p hk => ?_⟩, by rw [z1, y1, x1, q3]; rfl, ?_, fun i k h1 h2 => ?_⟩
  · rw [z2 0 118 (by omega), y2 0 118 (by omega), x2 0 118 (by omega), q3, sF_v]; exact h4
  · have hkl := lt_some hk
    obtain ⟨o1, o2⟩ := hO k p hk
    have r3 := z3 k hkl
    have r2 := y3 k hkl
    have r1 := x3 k hkl
    rw [Nat.zero_add] at r1 r2 r3
    refine ⟨?_, ?_⟩
    · rw [z2 67 k (by omega), z2 68 k (by omega), y2 67 k (by omega), r2, r1, x2 71 k (by omega), k3 70 k (by omega), k3 71 k (by omega)]; exact o1
    · rw [r3, y2 72 k (by omega), x2 72 k (by omega), k3 72 k (by omega)]; exact o2
  · rw [z2 0 96 (by omega), y2 0 96 (by omega), x2 0 96 (by omega), k3 0 96 (by omega)]
    show _ = _ + (0 : Int32)
    rw [Int32.add_zero]
  · rw [z2 i k (by omega), y2 i k (by omega), x2 i k (by omega), k3 i k (by omega)]
end

section
theorem num_eq {t : Int64} {s b : Int32} (h : Tk7 t s b) : (s_X12_isNumber s = 0 ↔ s_X0_isKnown t = 0) ∧ (s_X12_isNumber s ≠ 0 → ∃ m : Nat, m ≤ 1 ∧ s = nI m ∧ t = s_X0_make (nI m) b) := by
  rw [s_X12_isNumber_eq]
  rcases tk_cases h with ⟨a1, a2, a3⟩ | ⟨a1, a2, a3⟩ | ⟨m, hm, a1, a2⟩
  · rw [a1, a3, ← st_mk, mk_known 4 (by decide)]
    exact ⟨⟨fun _ => by decide, fun _ => by decide⟩, fun h => absurd (by decide) h⟩
  · rw [a1, a3, ← pt_mk, mk_known 2 (by decide)]
    exact ⟨⟨fun _ => by decide, fun _ => by decide⟩, fun h => absurd (by decide) h⟩
  · refine ⟨?_, fun _ => ⟨m, by omega, a1, a2⟩⟩
    rw [a2, mk_known m (by omega), a1]
    rcases hm with e | e <;> subst e
    · exact ⟨fun h => absurd h (by decide), fun h => absurd h (by decide)⟩
    · exact ⟨fun h => absurd h (by decide), fun h => absurd h (by decide)⟩
noncomputable def hd9 (p : Int64 × Int64 × Nat) (t : Int64) : Int64 := if gn9 p.1 t = true then 17179869184 else p.1
def Hd9 (L : Nat) (c : Nat) (u : Int64) (x : Nat) (μ z : Mem) : Prop := z.2 = μ.2 ∧ z.1 0 96 = μ.1 0 96 + Int32.ofNat c ∧ (∀ i k, ¬ ((i = 70 ∨ i = 71 ∨ i = 72) ∧ k = L) → ¬ (i = 0 ∧ k = 96) → z.1 i k = μ.1 i k) ∧ Tk7 u (z.1 70 L) (z.1 71 L) ∧ (z.1 72 L).toInt = (x : Int)
theorem m_head {K : Int32 → Int32 → Int32 → Mem → Option Mem} {Q : Mem → Prop} {p : Int64 × Int64 × Nat} {t : Int64} {i L : Nat} {a2 a3 a4 a5 a6 gone : Int32} {μ : Mem} (h2 : a2.toInt = (i : Int)) (h4 : a4.toInt = (L : Int)) (hL : L ≤ 200) (h5 : a5 = μ.1 67 i) (hp : Tk7 p.1 (μ.1 67 i) (μ.1 68 i)) (hx : (μ.1 69 i).toInt = (p.2.2 : Int)) (hg : gone = 0 ↔ ¬ gn9 p.1 t = true) (k : ∀ z a4', a4'.toInt = ((L + 1 : Nat) : Int) → Hd9 L (if gn9 p.1 t = true then 1 else 0) (hd9 p t) p.2.2 μ z → pk (p_X12_growBy_b165 K a2 a3 a4' a5 a6 gone z) Q) : pk (p_X12_growBy_b92 K a2 a3 a4 a5 a6 gone μ) Q := by
  have core : ∀ s b : Int32, Tk7 (hd9 p t) s b → (∀ μ15 : Mem, μ15 = sF μ 70 L s → pk (p_X12_growBy_b133 K a2 a3 a4 a5 a6 gone b a4 μ15) Q) := by
    intro s b htk μ15 q15
    rw [p_X12_growBy_b133_eq, tn_of h4, tn_of h2]
    refine pk_gd (fun _ => pk_bvy (fun μ17 q17 => pk_gd (fun _ => pk_gd (fun _ => pk_bvy (fun μ18 q18 => pk_bvs ?_)))))
    have e69 : μ17.1 69 i = μ.1 69 i := by rw [q17, sF_i (by decide), q15, sF_i (by decide)]
    rw [e69] at q18
    have fr : ∀ j l, ¬ ((j = 70 ∨ j = 71 ∨ j = 72) ∧ l = L) → μ18.1 j l = μ.1 j l := fun j l h => by
      rw [q18, sF_at, if_neg (fun e => h ⟨Or.inr (Or.inr e.1), e.2⟩), q17, sF_at, if_neg (fun e => h ⟨Or.inr (Or.inl e.1), e.2⟩), q15, sF_at, if_neg (fun e => h ⟨Or.inl e.1, e.2⟩)]
    have e70 : μ18.1 70 L = s := by rw [q18, sF_i (by decide), q17, sF_i (by decide), q15, sF_v]
    have e71 : μ18.1 71 L = b := by rw [q18, sF_i (by decide), q17, sF_v]
    have e72 : (μ18.1 72 L).toInt = (p.2.2 : Int) := by rw [q18, sF_v]; exact hx
    have e2 : μ18.2 = μ.2 := by rw [q18, q17, q15]; rfl
    refine pk_ite (fun c => ?_) (fun c => ?_)
    · refine k μ18 (a4 + 1) (tp1 h4 (by omega)) ⟨e2, ?_, fun j l h _ => fr j l h, by rw [e70, e71]; exact htk, e72⟩
      rw [if_neg (hg.mp c), fr 0 96 (by omega)]
      show _ = _ + (0 : Int32)
      rw [Int32.add_zero]
    · have hgt : gn9 p.1 t = true := by
        by_cases x : gn9 p.1 t = true
        · exact x
        · exact absurd (hg.mpr x) c
      refine pk_bvy (fun μ37 q37 => k μ37 (a4 + 1) (tp1 h4 (by omega)) ⟨by rw [q37]; exact e2, ?_, fun j l h h2 => ?_, ?_, ?_⟩)
      · rw [if_pos hgt, q37, sF_v, fr 0 96 (by omega)]; rfl
      · rw [q37, sF_at, if_neg h2]; exact fr j l h
      · rw [q37, sF_i (by decide), sF_i (by decide), e70, e71]; exact htk
      · rw [q37, sF_i (by decide)]; exact e72
  have b111 : ∀ s : Int32, (gone = 0 → s = a5) → (gone ≠ 0 → s = 3) → pk (p_X12_growBy_b111 K a2 a3 a4 a5 a6 gone s a4 μ) Q := by
    intro s hs1 hs2
    rw [p_X12_growBy_b111_eq, tn_of h4]
    refine pk_gd (fun _ => pk_bvy (fun μ15 q15 => pk_ite (fun c => pk_gd (fun _ => ?_)) (fun c => ?_)))
    · rw [tn_of h2]
      have e68 : μ15.1 68 i = μ.1 68 i := by rw [q15, sF_i (by decide)]
      rw [e68]
      refine core s _ ?_ μ15 q15
      unfold hd9
      rw [if_neg (hg.mp c), hs1 c, h5]; exact hp
    · have hgt : gn9 p.1 t = true := by
        by_cases x : gn9 p.1 t = true
        · exact x
        · exact absurd (hg.mpr x) c
      refine core s 0 ?_ μ15 q15
      unfold hd9
      rw [if_pos hgt, hs2 c]
      exact Or.inl ⟨rfl, rfl, st_mk.symm⟩
  rw [p_X12_growBy_b92_eq]
  refine pk_ite (fun c => b111 a5 (fun _ => rfl) (fun h => absurd c h)) (fun c => b111 3 (fun h => absurd h c) (fun _ => rfl))
theorem m_goneP {n : Nat} {Q : Mem → Prop} {p : Int64 × Int64 × Nat} {t : Int64} {i j o : Nat} {a2 a3 a4 : Int32} {μ : Mem} (h2 : a2.toInt = (i : Int)) (h3 : a3.toInt = ((o + j : Nat) : Int)) (hlt : ¬ (μ.1 0 118) ≤ a2) (hp : Tk7 p.1 (μ.1 67 i) (μ.1 68 i)) (ht : Tk7 t (μ.1 60 (o + j)) (μ.1 61 (o + j))) (k : ∀ gone : Int32, (gone = 0 ↔ ¬ gn9 p.1 t = true) → pk (p_X12_growBy_b92 (p_X12_growBy_b11 n) a2 a3 a4 (μ.1 67 i) (μ.1 60 (o + j)) gone μ) Q) : pk (p_X12_growBy_b11 (n + 1) a2 a3 a4 μ) Q := by
  have hkt := num_eq ht
  have hkp := num_eq hp
  have hpp := tk_pt hp
  have g87 : gn9 p.1 t = true → pk (p_X12_growBy_b87 (p_X12_growBy_b11 n) a2 a3 a4 (μ.1 67 i) (μ.1 60 (o + j)) μ) Q := fun h => by
    rw [p_X12_growBy_b87_eq]; exact k 1 ⟨fun e => absurd e (by decide), fun e => absurd h e⟩
  have g91 : ¬ gn9 p.1 t = true → pk (p_X12_growBy_b91 (p_X12_growBy_b11 n) a2 a3 a4 (μ.1 67 i) (μ.1 60 (o + j)) μ) Q := fun h => by
    rw [p_X12_growBy_b91_eq]; exact k 0 ⟨fun _ => h, fun _ => rfl⟩
  have un1 : s_X0_isKnown t = 0 → ¬ gn9 p.1 t = true := fun e => by
    unfold gn9; rw [s_X2_isGrown_eq, if_pos e]; decide
  have g73 : (s_X12_isNumber (μ.1 67 i) = 0 ∨ s_X12_isNumber (μ.1 60 (o + j)) = 0 ∨ ¬ gn9 p.1 t = true) → (s_X12_isNumber (μ.1 67 i) ≠ 0 → s_X12_isNumber (μ.1 60 (o + j)) ≠ 0 → ¬ gn9 p.1 t = true) → pk (p_X12_growBy_b73 (p_X12_growBy_b11 n) a2 a3 a4 (μ.1 67 i) (μ.1 60 (o + j)) μ) Q := by
    intro _ hno
    rw [p_X12_growBy_b73_eq]
    refine pk_ite (fun c => pk_ite (fun c2 => g91 (un1 (hkt.1.mp c2))) (fun c2 => g87 ?_)) (fun c => g91 ?_)
    · unfold gn9
      rw [s_X2_isGrown_eq, if_neg (fun e => c2 (hkt.1.mpr e)), if_pos (lg_eq.mpr (hpp.mpr c))]; decide
    · by_cases c2 : s_X12_isNumber (μ.1 60 (o + j)) = 0
      · exact un1 (hkt.1.mp c2)
      · by_cases c3 : s_X12_isNumber (μ.1 67 i) = 0
        · unfold gn9
          rw [s_X2_isGrown_eq, if_neg (fun e => c2 (hkt.1.mpr e)), if_neg (fun e => c (hpp.mp (lg_eq.mp e))), if_pos (hkp.1.mp c3)]; decide
        · exact hno c3 c2
  rw [p_X12_growBy_b11_s, if_neg hlt, tn_of h2, tn_of h3]
  refine pk_gd (fun _ => pk_bvs (pk_gd (fun _ => pk_bvs (pk_ite (fun c => g73 (Or.inl c) (fun h => absurd c h)) (fun c => pk_ite (fun c2 => g73 (Or.inr (Or.inl c2)) (fun _ h => absurd c2 h)) (fun c2 => pk_gd (fun _ => pk_gd (fun _ => ?_))))))))
  obtain ⟨m, hm, e1, e2⟩ := hkp.2 c
  obtain ⟨m', hm', e3, e4⟩ := hkt.2 c2
  have ge := grown_eq (x := μ.1 68 i) (y := μ.1 61 (o + j)) hm hm'
  rw [← e1, ← e3] at ge
  rw [e1, e3] at ge
  rw [← e2, ← e4] at ge
  rw [← e1, ← e3] at ge
  refine pk_bsq ge (fun r40 hr => pk_ite (fun c3 => ?_) (fun c3 => ?_))
  · have hn : ¬ gn9 p.1 t = true := by unfold gn9; rw [hr.mp c3]; decide
    exact g73 (Or.inr (Or.inr hn)) (fun _ _ => hn)
  · refine g87 ?_
    unfold gn9
    exact decide_eq_true (fun e => c3 (hr.mpr e))
end

section
theorem Om9.snoc {S : Rw9} {μ z : Mem} {u : Int64} {p : Int64 × Nat} (h : Om9 S μ) (c : ∀ i k, i = 70 ∨ i = 71 ∨ i = 72 → k < S.length → z.1 i k = μ.1 i k) (a : Tk7 u (z.1 70 S.length) (z.1 71 S.length)) (b : (z.1 72 S.length).toInt = (p.2 : Int)) : Om9 (S ++ [(u, p)]) z := by
  intro k q hk
  rcases Nat.lt_or_ge k S.length with e | e
  · rw [List.getElem?_append_left e] at hk
    rw [c 70 k (by omega) e, c 71 k (by omega) e, c 72 k (by omega) e]
    exact h k q hk
  · rw [List.getElem?_append_right e] at hk
    have hk0 : k - S.length = 0 := by
      have := lt_some hk
      simpa using this
    have : k = S.length := by omega
    subst this
    rw [Nat.sub_self] at hk
    have : (u, p) = q := by simpa using hk
    subst this
    exact ⟨a, b⟩
theorem m_rest {K : Int32 → Int32 → Int32 → Mem → Option Mem} {Q : Mem → Prop} {R0 : Rw9} (h200 : R0.length ≤ 200) {a3 a7 a8 : Int32} {e : Nat} (h8 : a8.toInt = (e : Int)) (he : e ≤ R0.length) (h7 : a7 = 0) : ∀ (m f k : Nat) (a4 a9 : Int32) (S : Rw9) (μ : Mem), e - k = m → k ≤ e → a9.toInt = (k : Int) → a4.toInt = (S.length : Int) → S.length ≤ k → Om9 S μ → Pm9 R0 μ → (∀ z a4', a4'.toInt = ((S ++ (R0.drop k).take m).length : Int) → Om9 (S ++ (R0.drop k).take m) z → z.2 = μ.2 → (∀ i l, i ≠ 70 → i ≠ 71 → i ≠ 72 → z.1 i l = μ.1 i l) → pk (p_X12_growBy_b264 K a3 a4' a8 z) Q) → pk (p_X12_growBy_b201 K f a3 a4 a7 a8 a9 μ) Q := by
  intro m
  induction m with
  | zero =>
    intro f k a4 a9 S μ hm hk h9 h4 hS hO hP hQ
    cases f with
    | zero => intro r e; rw [p_X12_growBy_b201_z] at e; exact absurd e (by simp)
    | succ f =>
      rw [p_X12_growBy_b201_s, if_pos (by rw [ti_le, h8, h9]; omega)]
      rw [List.take_zero, List.append_nil] at hQ
      exact hQ μ a4 h4 hO rfl (fun _ _ _ _ _ => rfl)
  | succ m ih =>
    intro f k a4 a9 S μ hm hk h9 h4 hS hO hP hQ
    cases f with
    | zero => intro r e; rw [p_X12_growBy_b201_z] at e; exact absurd e (by simp)
    | succ f =>
      obtain ⟨p, hpk⟩ : ∃ p, R0[k]? = some p := ⟨R0[k], List.getElem?_eq_getElem (by omega)⟩
      obtain ⟨t1, t2⟩ := hP.2 k p hpk
      rw [p_X12_growBy_b201_s, if_neg (by rw [ti_le, h8, h9]; omega), if_pos h7, tn_of h9, tn_of h4]
      refine pk_gd (fun _ => pk_gd (fun _ => pk_bvy (fun μ1 q1 => pk_gd (fun _ => pk_gd (fun _ => pk_bvy (fun μ2 q2 => pk_gd (fun _ => pk_gd (fun _ => pk_bvy (fun μ3 q3 => pk_bvs (pk_bvs ?_))))))))))
      have e68 : μ1.1 68 k = μ.1 68 k := by rw [q1, sF_i (by decide)]
      have e69 : μ2.1 69 k = μ.1 69 k := by rw [q2, sF_i (by decide), q1, sF_i (by decide)]
      rw [e68] at q2
      rw [e69] at q3
      have fr : ∀ i l, i ≠ 70 → i ≠ 71 → i ≠ 72 → μ3.1 i l = μ.1 i l := fun i l c1 c2 c3 => by rw [q3, sF_i c3, q2, sF_i c2, q1, sF_i c1]
      have k0 : μ3.1 70 S.length = μ.1 67 k := by rw [q3, sF_i (by decide), q2, sF_i (by decide), q1, sF_v]
      have k1 : μ3.1 71 S.length = μ.1 68 k := by rw [q3, sF_i (by decide), q2, sF_v]
      have k2 : μ3.1 72 S.length = μ.1 69 k := by rw [q3, sF_v]
      have hO2 : Om9 (S ++ [(p.1, p.2)]) μ3 := hO.snoc (fun i l hi hl => by
        rw [q3, sF_at, if_neg (fun e => by have := e.2; omega), q2, sF_at, if_neg (fun e => by have := e.2; omega), q1, sF_at, if_neg (fun e => by have := e.2; omega)]) (by rw [k0, k1]; exact t1) (by rw [k2]; exact t2)
      have hP2 : Pm9 R0 μ3 := ⟨by rw [fr 0 118 (by decide) (by decide) (by decide)]; exact hP.1, fun l p' hl => by rw [fr 67 l (by decide) (by decide) (by decide), fr 68 l (by decide) (by decide) (by decide), fr 69 l (by decide) (by decide) (by decide)]; exact hP.2 l p' hl⟩
      have ed : (R0.drop k).take (m + 1) = [(p.1, p.2)] ++ (R0.drop (k + 1)).take m := by
        have hil : k < R0.length := by omega
        rw [List.drop_eq_getElem_cons hil, List.take_succ_cons]
        have : R0[k] = p := by
          rw [List.getElem?_eq_getElem hil] at hpk; exact Option.some.inj hpk
        rw [this]; rfl
      rw [ed, ← List.append_assoc] at hQ
      exact ih f (k + 1) (a4 + 1) (a9 + 1) (S ++ [(p.1, p.2)]) μ3 (by omega) (by omega) (tp1 h9 (by omega)) (by rw [tp1 h4 (by omega), List.length_append]; rfl) (by rw [List.length_append]; show S.length + 1 ≤ k + 1; omega) hO2 hP2 (fun z a4' c1 c2 c3 c4 => hQ z a4' c1 c2 (c3.trans (by rw [q3, q2, q1]; rfl)) (fun i l x1 x2 x3 => (c4 i l x1 x2 x3).trans (fr i l x1 x2 x3)))
theorem FUEL_s : FUEL = 9999999999 + 1 := rfl
theorem gn_pp {p t : Int64} (h : t = 8589934592) : ¬ gn9 p t = true := by
  have hk : s_X0_isKnown t = 0 := by rw [h, ← pt_mk, mk_known 2 (by decide)]; decide
  unfold gn9; rw [s_X2_isGrown_eq, if_pos hk]; decide
theorem Pm9.of {R : Rw9} {μ z : Mem} (h : Pm9 R μ) (c : ∀ i l, i ≠ 70 → i ≠ 71 → i ≠ 72 → ¬ (i = 0 ∧ l = 96) → z.1 i l = μ.1 i l) : Pm9 R z := ⟨by rw [c 0 118 (by decide) (by decide) (by decide) (by omega)]; exact h.1, fun k p hk => by rw [c 67 k (by decide) (by decide) (by decide) (by omega), c 68 k (by decide) (by decide) (by decide) (by omega), c 69 k (by decide) (by decide) (by decide) (by omega)]; exact h.2 k p hk⟩
theorem Qm9.of {o : Nat} {Y : List Int64} {μ z : Mem} (h : Qm9 o Y μ) (c : ∀ i l, i = 60 ∨ i = 61 → z.1 i l = μ.1 i l) : Qm9 o Y z := fun k t hk => by rw [c 60 _ (by omega), c 61 _ (by omega)]; exact h k t hk
theorem Pm9.sr {R : Rw9} {z : Mem} (h : Pm9 R z) : Sr9 z 67 0 (tks R) := by
  intro k t hk
  unfold tks at hk
  rw [List.getElem?_map] at hk
  cases hr : R[k]? with
  | none => rw [hr] at hk; cases hk
  | some p =>
    rw [hr] at hk
    have : p.1 = t := Option.some.inj hk
    rw [Nat.zero_add, ← this]
    exact (tk_pt (h.2 k p hr).1).symm
theorem Qm9.sr {o : Nat} {Y : List Int64} {z : Mem} (h : Qm9 o Y z) : Sr9 z 60 o Y := fun k t hk => (tk_pt (h k t hk)).symm
theorem m_growL {R0 : Rw9} {Y0 : List Int64} {o : Nat} (h200 : R0.length ≤ 200) (hY200 : o + Y0.length ≤ 6000) : ∀ (g f i j n : Nat) (a2 a3 a4 : Int32) (S : Rw9) (μ : Mem), R0.length - i ≤ g → i ≤ R0.length → j ≤ Y0.length → S.length ≤ i → Wf9 (tks (R0.drop i)) n → Wf9 (Y0.drop j) n → a2.toInt = (i : Int) → a3.toInt = ((o + j : Nat) : Int) → a4.toInt = (S.length : Int) → Om9 S μ → Pm9 R0 μ → Qm9 o Y0 μ → pk (p_X12_growBy_b11 f a2 a3 a4 μ) (fun z => Pm9 (S ++ (grw g (R0.drop i) (Y0.drop j)).1) z ∧ Go9 (grw g (R0.drop i) (Y0.drop j)).2 μ z) := by
  intro g
  induction g with
  | zero =>
    intro f i j n a2 a3 a4 S μ hg hi hj hS w1 w2 h2 h3 h4 hO hP hQ
    cases f with
    | zero => intro r e; rw [p_X12_growBy_b11_z] at e; exact absurd e (by simp)
    | succ f =>
      rw [show (grw 0 (R0.drop i) (Y0.drop j)) = ([], 0) from rfl, List.append_nil]
      exact m_growEnd (by omega) (by rw [ti_le, hP.1, h2]; omega) h4 hO
  | succ g ih =>
    intro f i j n a2 a3 a4 S μ hg hi hj hS w1 w2 h2 h3 h4 hO hP hQ
    cases f with
    | zero => intro r e; rw [p_X12_growBy_b11_z] at e; exact absurd e (by simp)
    | succ f =>
      cases hRi : R0.drop i with
      | nil =>
        have hil : R0.length ≤ i := List.drop_eq_nil_iff.mp hRi
        rw [grw_nil, List.append_nil]
        exact m_growEnd (by omega) (by rw [ti_le, hP.1, h2]; omega) h4 hO
      | cons p R =>
        obtain ⟨hil, hpi, hR1⟩ := drop_c hRi
        rw [hRi] at w1
        have hn := wf9_pos w1
        cases hYj : Y0.drop j with
        | nil => rw [hYj] at w2; have w2 : n = 0 := w2; omega
        | cons t Y =>
          obtain ⟨hjl, htj, hY1⟩ := drop_c hYj
          rw [hYj] at w2
          obtain ⟨tp, tx⟩ := hP.2 i p hpi
          have tt := hQ j t htj
          have dR : (tks R0).drop i = tks (p :: R) := by rw [← tks_drop, hRi]
          have cb : bh9 (tks (p :: R)) 1 ≤ R0.length - i := by
            have := bh9_le (T := (tks R0).drop i) (n := 1)
            rw [List.length_drop, tks_len, dR] at this; exact this
          have db : bh9 (t :: Y) 1 ≤ Y0.length - j := by
            have := bh9_le (T := Y0.drop j) (n := 1)
            rw [List.length_drop, hYj] at this; exact this
          have c1 : 1 ≤ bh9 (tks (p :: R)) 1 := bh9_pos (by omega)
          obtain ⟨_, _, _, w1'⟩ := wf9_fst w1
          obtain ⟨_, _, w2'⟩ := wf9_fsl w2
          refine m_goneP (p := p) (t := t) (o := o) (i := i) (j := j) h2 h3 (by rw [ti_le, hP.1, h2]; omega) tp tt (fun gone hg1 => ?_)
          refine m_head (p := p) (t := t) (i := i) (L := S.length) h2 h4 (by omega) rfl tp tx hg1 (fun z a4' h4' hd => ?_)
          obtain ⟨d1, d2, d3, d4, d5⟩ := hd
          have fr : ∀ i l, i ≠ 70 → i ≠ 71 → i ≠ 72 → ¬ (i = 0 ∧ l = 96) → z.1 i l = μ.1 i l := fun i l x1 x2 x3 x4 => d3 i l (by omega) x4
          have hP' : Pm9 R0 z := hP.of fr
          have hQ' : Qm9 o Y0 z := hQ.of (fun i l hi => fr i l (by omega) (by omega) (by omega) (by omega))
          have hO' : Om9 (S ++ [(hd9 p t, p.2)]) z := hO.snoc (fun i k hi hk => d3 i k (by omega) (by omega)) d4 d5
          have sl : (S ++ [(hd9 p t, p.2)]).length = S.length + 1 := by rw [List.length_append]; rfl
          have go1 : Go9 (if gn9 p.1 t = true then 1 else 0) μ z := ⟨d1, d2, fun i k x1 x2 => fr i k (by omega) (by omega) (by omega) (by omega)⟩
          have nx : ¬ (p.1 = 8589934592 ∧ t = 8589934592) → pk (p_X12_growBy_b186 (p_X12_growBy_b11 f) a2 a3 a4' gone z) (fun z => Pm9 (S ++ (grw (g + 1) (p :: R) (t :: Y)).1) z ∧ Go9 (grw (g + 1) (p :: R) (t :: Y)).2 μ z) := by
            intro hnp
            rw [p_X12_growBy_b186_eq]
            refine pk_bd (m_behind (o := 0) (n := n - 1) (T := tks R0) (by rw [tks_len]; omega) hP'.sr (i := i) (by rw [tks_len]; exact hi) (by rw [dR, show 1 + (n - 1) = n by omega]; exact w1) (by rw [h2]; congr 1; omega)) ?_
            rintro r23 μ22 ⟨g1, g2⟩
            have g1 : r23.toInt = ((0 + (i + bh9 ((tks R0).drop i) 1) : Nat) : Int) := g1
            have g2 : μ22 = z := g2
            rw [dR, Nat.zero_add] at g1
            rw [g2]
            have go : ∀ (S2 : Rw9) (z2 : Mem) (a4'' : Int32) (c : Nat), S2.length ≤ i + bh9 (tks (p :: R)) 1 → a4''.toInt = (S2.length : Int) → Om9 S2 z2 → z2.2 = z.2 → (∀ i l, i ≠ 70 → i ≠ 71 → i ≠ 72 → z2.1 i l = z.1 i l) → pk (p_X12_growBy_b264 (p_X12_growBy_b11 f) a3 a4'' r23 z2) (fun z' => Pm9 (S2 ++ (grw g ((p :: R).drop (bh9 (tks (p :: R)) 1)) ((t :: Y).drop (bh9 (t :: Y) 1))).1) z' ∧ Go9 (grw g ((p :: R).drop (bh9 (tks (p :: R)) 1)) ((t :: Y).drop (bh9 (t :: Y) 1))).2 z2 z') := by
              intro S2 z2 a4'' c hS2 h4'' hO2 e1 e2
              have hP2 : Pm9 R0 z2 := hP'.of (fun i l x1 x2 x3 _ => e2 i l x1 x2 x3)
              have hQ2 : Qm9 o Y0 z2 := hQ'.of (fun i l hi => e2 i l (by omega) (by omega) (by omega))
              rw [p_X12_growBy_b264_eq]
              refine pk_bd (m_behind (o := o) (n := n - 1) (T := Y0) (by omega) hQ2.sr (i := j) hj (by rw [hYj, show 1 + (n - 1) = n by omega]; exact w2) h3) ?_
              rintro r27 μ26 ⟨g3, g4⟩
              have g3 : r27.toInt = ((o + (j + bh9 (Y0.drop j) 1) : Nat) : Int) := g3
              have g4 : μ26 = z2 := g4
              rw [hYj] at g3
              rw [g4]
              have i1 := ih f (i + bh9 (tks (p :: R)) 1) (j + bh9 (t :: Y) 1) (n - 1) r23 r27 a4'' S2 z2 (by omega) (by omega) (by omega) hS2 (by rw [← List.drop_drop, hRi]; exact w1') (by rw [← List.drop_drop, hYj]; exact w2') g1 g3 h4'' hO2 hP2 hQ2
              rw [← List.drop_drop, ← List.drop_drop, hRi, hYj] at i1
              exact i1
            by_cases hgn : gn9 p.1 t = true
            · rw [grw_gn hnp hgn]
              have hu : hd9 p t = 17179869184 := by unfold hd9; rw [if_pos hgn]
              rw [hu] at hO' sl
              rw [if_pos hgn] at go1
              refine pk_bvs ?_
              rw [FUEL_s, p_X12_growBy_b201_s]
              have fin : pk (p_X12_growBy_b264 (p_X12_growBy_b11 f) a3 a4' r23 z) (fun z => Pm9 (S ++ ((17179869184, p.2) :: (grw g ((p :: R).drop (bh9 (tks (p :: R)) 1)) ((t :: Y).drop (bh9 (t :: Y) 1))).1, (grw g ((p :: R).drop (bh9 (tks (p :: R)) 1)) ((t :: Y).drop (bh9 (t :: Y) 1))).2 + 1).1) z ∧ Go9 ((17179869184, p.2) :: (grw g ((p :: R).drop (bh9 (tks (p :: R)) 1)) ((t :: Y).drop (bh9 (t :: Y) 1))).1, (grw g ((p :: R).drop (bh9 (tks (p :: R)) 1)) ((t :: Y).drop (bh9 (t :: Y) 1))).2 + 1).2 μ z) := by
                refine pk_mono (go (S ++ [(17179869184, p.2)]) z a4' 0 (by rw [sl]; omega) (by rw [sl]; exact h4') hO' rfl (fun _ _ _ _ _ => rfl)) (fun z' hz' => ?_)
                obtain ⟨x1, x2⟩ := hz'
                rw [List.append_assoc] at x1
                refine ⟨x1, ?_⟩
                have := go1.tr x2
                rw [Nat.add_comm] at this
                exact this
              exact pk_ite (fun _ => fin) (fun _ => by
                rw [if_neg (fun e => hg1.mp e hgn)]
                exact fin)
            · rw [grw_no hnp hgn]
              have hu : hd9 p t = p.1 := by unfold hd9; rw [if_neg hgn]
              rw [hu] at hO' sl
              rw [if_neg hgn] at go1
              refine pk_bvs ?_
              have et : S ++ (p :: R).take (bh9 (tks (p :: R)) 1) = (S ++ [(p.1, p.2)]) ++ (R0.drop (i + 1)).take (bh9 (tks (p :: R)) 1 - 1) := by
                obtain ⟨c, hc⟩ : ∃ c, bh9 (tks (p :: R)) 1 = c + 1 := ⟨bh9 (tks (p :: R)) 1 - 1, by omega⟩
                rw [hc, List.take_succ_cons, show c + 1 - 1 = c by omega, hR1, List.append_assoc]; rfl
              refine m_rest (R0 := R0) h200 g1 (by omega) (hg1.mpr hgn) (bh9 (tks (p :: R)) 1 - 1) FUEL (i + 1) a4' (a2 + 1) (S ++ [(p.1, p.2)]) z (by omega) (by omega) (tp1 h2 (by omega)) (by rw [sl]; exact h4') (by rw [sl]; omega) hO' hP' (fun z2 a4'' x1 x2 x3 x4 => ?_)
              rw [← et] at x1 x2
              refine pk_mono (go _ z2 a4'' 0 (by rw [List.length_append, List.length_take]; omega) x1 x2 x3 x4) (fun z' hz' => ?_)
              obtain ⟨y1, y2⟩ := hz'
              rw [List.append_assoc] at y1
              refine ⟨y1, ?_⟩
              have go2 : Go9 0 z z2 := ⟨x3, by rw [x4 0 96 (by decide) (by decide) (by decide)]; show _ = _ + (0 : Int32); rw [Int32.add_zero], fun i k q1 q2 => x4 i k (by omega) (by omega) (by omega)⟩
              have := (go1.tr go2).tr y2
              rw [Nat.zero_add] at this
              exact this
          rw [p_X12_growBy_b165_eq]
          refine pk_ite (fun c => pk_ite (fun c2 => ?_) (fun c2 => nx (fun e => c2 ((tk_pt tt).mp e.2)))) (fun c => nx (fun e => c ((tk_pt tp).mp e.1)))
          have hpp : p.1 = 8589934592 ∧ t = 8589934592 := ⟨(tk_pt tp).mpr c, (tk_pt tt).mpr c2⟩
          have hgn : ¬ gn9 p.1 t = true := gn_pp hpp.2
          rw [grw_pp hpp]
          have hu : hd9 p t = p.1 := by unfold hd9; rw [if_neg hgn]
          rw [hu] at hO' sl
          rw [if_neg hgn] at go1
          have v1 : Wf9 (tks R) (n + 1) := by have := w1.2; rw [if_pos hpp.1] at this; exact this
          have v2 : Wf9 Y (n + 1) := by have := w2.2; rw [if_pos hpp.2] at this; exact this
          have i1 := ih f (i + 1) (j + 1) (n + 1) (a2 + 1) (a3 + 1) a4' (S ++ [(p.1, p.2)]) z (by omega) (by omega) (by omega) (by rw [sl]; omega) (by rw [hR1]; exact v1) (by rw [hY1]; exact v2) (tp1 h2 (by omega)) (by rw [tp1 h3 (by omega)]; rfl) (by rw [sl]; exact h4') hO' hP' hQ'
          rw [hR1, hY1, List.append_assoc] at i1
          refine pk_bvs (pk_bvs (pk_mono i1 (fun z' hz' => ⟨hz'.1, ?_⟩)))
          have := go1.tr hz'.2
          rw [Nat.zero_add] at this
          exact this
theorem m_grow {R0 : Rw9} {Y0 : List Int64} {v n : Nat} (h200 : R0.length ≤ 200) (hY200 : Y0.length ≤ 200) (hv : v ≤ 25) {a1 : Int32} (h1 : a1.toInt = (v : Int)) {μ : Mem} (hP : Pm9 R0 μ) (hQ : Qm9 (210 * v) Y0 μ) (w1 : Wf9 (tks R0) n) (w2 : Wf9 Y0 n) : pk (p_X12_growBy a1 μ) (fun z => Pm9 (grw 200 R0 Y0).1 z ∧ Go9 (grw 200 R0 Y0).2 μ z) := by
  have e0 : (0 : Int32).toInt = ((0 : Nat) : Int) := by decide
  have e210 : (210 : Int32).toInt = 210 := by decide
  rw [p_X12_growBy_eq]
  refine pk_bvs ?_
  have := m_growL (R0 := R0) (Y0 := Y0) (o := 210 * v) h200 (by omega) 200 FUEL 0 0 n 0 (210 * a1) 0 [] μ (by omega) (by omega) (by omega) (by show 0 ≤ 0; omega) (by rw [List.drop_zero]; exact w1) (by rw [List.drop_zero]; exact w2) e0 (by rw [ti_mul (by rw [e210]; omega) (by rw [e210]; omega), e210, h1]; omega) e0 (fun k p hk => by cases hk) hP hQ
  rw [List.drop_zero, List.drop_zero] at this
  exact this
end

section
def Fi9 (S : Nat → Prop) (V : Nat) (r : Int32) : Prop := (r = -1 ∧ ∀ u, u < V → ¬ S u) ∨ ∃ u, u < V ∧ r.toInt = (u : Int) ∧ S u ∧ ∀ w, w < u → ¬ S w
theorem Fi9.uniq {S S' : Nat → Prop} {V : Nat} {r r' : Int32} (h : Fi9 S V r) (h' : Fi9 S' V r') (e : ∀ u, u < V → (S u ↔ S' u)) : r = r' := by
  rcases h with ⟨a1, a2⟩ | ⟨u, a1, a2, a3, a4⟩
  · rcases h' with ⟨b1, b2⟩ | ⟨w, b1, b2, b3, b4⟩
    · rw [a1, b1]
    · exact absurd ((e w b1).mpr b3) (a2 w b1)
  · rcases h' with ⟨b1, b2⟩ | ⟨w, b1, b2, b3, b4⟩
    · exact absurd ((e u a1).mp a3) (b2 u a1)
    · have : u = w := by
        rcases Nat.lt_trichotomy u w with c | c | c
        · exact absurd ((e u a1).mp a3) (b4 u c)
        · exact c
        · exact absurd ((e w b1).mpr b3) (a4 w c)
      subst this
      exact ti_eq.mpr (by rw [a2, b2])
theorem c_isSameL {μ : Mem} {pa pb : Nat} {T : List Int64} (h : Py9 pb T μ) (ha : (μ.1 pa 2).toInt = (T.length : Int)) (h200 : T.length ≤ 200) : ∀ (m f i : Nat) (a2 : Int32), T.length - i = m → i ≤ T.length → a2.toInt = (i : Int) → pk (p_X2_isSame_b26 f pa pb a2 μ) (fun r => r.2 = μ ∧ (r.1 = 0 ↔ ¬ ∀ k t, i ≤ k → T[k]? = some t → μ.2.1 (pa + 1) k = t)) := by
  intro m
  induction m with
  | zero =>
    intro f i a2 hm hi h2
    cases f with
    | zero => intro r e; rw [p_X2_isSame_b26_z] at e; exact absurd e (by simp)
    | succ f =>
      rw [p_X2_isSame_b26_s, if_pos (by rw [ti_le, ha, h2]; omega)]
      refine pk_some ⟨rfl, ⟨fun h => absurd h (by show ¬ ((1 : Int32) = 0); decide), fun hn => absurd (fun k t hk ht => ?_) hn⟩⟩
      have := lt_some ht
      omega
  | succ m ih =>
    intro f i a2 hm hi h2
    cases f with
    | zero => intro r e; rw [p_X2_isSame_b26_z] at e; exact absurd e (by simp)
    | succ f =>
      have hil : i < T.length := by omega
      have hti : T[i]? = some T[i] := List.getElem?_eq_getElem hil
      rw [p_X2_isSame_b26_s, if_neg (by rw [ti_le, ha, h2]; omega), if_neg (by rw [ti_le, h.1, h2]; omega), tn_of h2, h.2 i _ hti]
      refine pk_gd (fun _ => pk_gd (fun _ => pk_ite (fun c => ?_) (fun c => ?_)))
      · have c := lg_eq.mp c
        refine pk_bvs (pk_mono (ih f (i + 1) (a2 + 1) (by omega) (by omega) (tp1 h2 (by omega))) (fun r hr => ⟨hr.1, hr.2.trans (not_congr ⟨fun x k t hk ht => ?_, fun x k t hk ht => x k t (by omega) ht⟩)⟩))
        rcases Nat.lt_or_ge i k with e | e
        · exact x k t (by omega) ht
        · have : k = i := by omega
          subst this
          rw [hti] at ht
          rw [c]; exact Option.some.inj ht
      · refine pk_some ⟨rfl, ⟨fun _ x => c (lg_eq.mpr (x i _ (Nat.le_refl _) hti)), fun _ => rfl⟩⟩
def Cm9 (μ : Mem) (key : Int32) (T : List Int64) (pa : Nat) : Prop := μ.1 pa 3 = key ∧ (μ.1 pa 2).toInt = (T.length : Int) ∧ ∀ k t, T[k]? = some t → μ.2.1 (pa + 1) k = t
theorem c_isSame {μ : Mem} {pa pb : Nat} {key : Int32} {T : List Int64} (h : Py9 pb T μ) (hk : μ.1 pb 3 = key) (h200 : T.length ≤ 200) : pk (p_X2_isSame pa pb μ) (fun r => r.2 = μ ∧ (r.1 = 0 ↔ ¬ Cm9 μ key T pa)) := by
  have e0 : (0 : Int32).toInt = ((0 : Nat) : Int) := by decide
  rw [p_X2_isSame_eq, hk]
  refine pk_ite (fun c => pk_ite (fun c2 => ?_) (fun c2 => pk_some ⟨rfl, fun _ x => c2 (ti_eq.mpr (by rw [x.2.1, h.1])), fun _ => rfl⟩)) (fun c => pk_some ⟨rfl, fun _ x => c x.1, fun _ => rfl⟩)
  have c3 : (μ.1 pa 2).toInt = (T.length : Int) := by rw [c2]; exact h.1
  refine pk_mono (c_isSameL h c3 h200 _ FUEL 0 0 rfl (by omega) e0) (fun r hr => ⟨hr.1, hr.2.trans (not_congr ⟨fun x => ⟨c, c3, fun k t ht => x k t (by omega) ht⟩, fun x k t _ ht => x.2.2 k t ht⟩)⟩)
theorem ptc_lt {k : Nat} (h : k < 24) : ptc k = 47 + 3 * k := by unfold ptc; rw [Nat.mod_eq_of_lt h]
theorem c_findL {μ : Mem} {pt V : Nat} {key : Int32} {T : List Int64} (h : Py9 pt T μ) (hk : μ.1 pt 3 = key) (h200 : T.length ≤ 200) (hV : (μ.1 39 2).toInt = (V : Int)) (hV24 : V ≤ 24) : ∀ (m f i : Nat) (a2 : Int32), V - i = m → i ≤ V → a2.toInt = (i : Int) → (∀ w, w < i → ¬ Cm9 μ key T (47 + 3 * w)) → pk (p_X5_find_b2 f pt a2 μ) (fun r => r.2 = μ ∧ Fi9 (fun u => Cm9 μ key T (47 + 3 * u)) V r.1) := by
  have e24 : (24 : Int32).toInt = 24 := by decide
  intro m
  induction m with
  | zero =>
    intro f i a2 hm hi h2 hw
    cases f with
    | zero => intro r e; rw [p_X5_find_b2_z] at e; exact absurd e (by simp)
    | succ f =>
      rw [p_X5_find_b2_s, if_pos (by rw [ti_le, hV, h2]; omega)]
      exact pk_some ⟨rfl, Or.inl ⟨rfl, fun u hu => hw u (by omega)⟩⟩
  | succ m ih =>
    intro f i a2 hm hi h2 hw
    cases f with
    | zero => intro r e; rw [p_X5_find_b2_z] at e; exact absurd e (by simp)
    | succ f =>
      rw [p_X5_find_b2_s, if_neg (by rw [ti_le, hV, h2]; omega), if_neg (by rw [ti_le, e24, h2]; omega), tn_of h2, ptc_lt (by omega)]
      refine pk_gd (fun _ => pk_bd (c_isSame h hk h200) ?_)
      rintro r4 μ3 ⟨g1, g2⟩
      have g1 : μ3 = μ := g1
      have g2 : r4 = 0 ↔ ¬ Cm9 μ key T (47 + 3 * i) := g2
      rw [g1]
      refine pk_ite (fun c => pk_bvs (ih f (i + 1) (a2 + 1) (by omega) (by omega) (tp1 h2 (by omega)) (fun w hw2 => ?_))) (fun c => pk_some ⟨rfl, Or.inr ⟨i, by omega, h2, ?_, hw⟩⟩)
      · rcases Nat.lt_or_ge w i with e | e
        · exact hw w e
        · have : w = i := by omega
          subst this; exact g2.mp c
      · exact Classical.byContradiction (fun x => c (g2.mpr x))
theorem c_find {μ : Mem} {pt V : Nat} {key : Int32} {T : List Int64} (h : Py9 pt T μ) (hk : μ.1 pt 3 = key) (h200 : T.length ≤ 200) (hV : (μ.1 39 2).toInt = (V : Int)) (hV24 : V ≤ 24) : pk (p_X5_find pt μ) (fun r => r.2 = μ ∧ Fi9 (fun u => Cm9 μ key T (47 + 3 * u)) V r.1) := by
  have e0 : (0 : Int32).toInt = ((0 : Nat) : Int) := by decide
  rw [p_X5_find_eq]
  exact c_findL h hk h200 hV hV24 _ FUEL 0 0 rfl (by omega) e0 (fun w hw => by omega)
def Dm9 (z : Mem) (f : Int32) (u : Nat) : Prop := z.1 57 u = f ∧ z.1 58 u = z.1 0 118 ∧ ∀ k : Nat, (k : Int) < (z.1 0 118).toInt → z.1 60 (210 * u + k) = z.1 67 k ∧ z.1 61 (210 * u + k) = z.1 68 k
theorem m_isPatL {z : Mem} {u L : Nat} (hu : u ≤ 24) {a1 : Int32} (h1 : a1.toInt = (u : Int)) (hL : (z.1 0 118).toInt = (L : Int)) (h200 : L ≤ 200) : ∀ (m f i : Nat) (a3 : Int32), L - i = m → i ≤ L → a3.toInt = (i : Int) → pk (p_X12_isPattern_b27 f a1 a3 z) (fun r => r.2 = z ∧ (r.1 = 0 ↔ ¬ ∀ k : Nat, i ≤ k → k < L → z.1 60 (210 * u + k) = z.1 67 k ∧ z.1 61 (210 * u + k) = z.1 68 k)) := by
  have e210 : (210 : Int32).toInt = 210 := by decide
  intro m
  induction m with
  | zero =>
    intro f i a3 hm hi h3
    cases f with
    | zero => intro r e; rw [p_X12_isPattern_b27_z] at e; exact absurd e (by simp)
    | succ f =>
      rw [p_X12_isPattern_b27_s, if_pos (by rw [ti_le, hL, h3]; omega)]
      exact pk_some ⟨rfl, ⟨fun h => absurd h (by show ¬ ((1 : Int32) = 0); decide), fun hn => absurd (fun k hk ht => by omega) hn⟩⟩
  | succ m ih =>
    intro f i a3 hm hi h3
    cases f with
    | zero => intro r e; rw [p_X12_isPattern_b27_z] at e; exact absurd e (by simp)
    | succ f =>
      have s0 : (210 * a1).toInt = 210 * (u : Int) := by rw [ti_mul (by rw [e210]; omega) (by rw [e210]; omega), e210, h1]
      have s1 : (210 * a1 + a3).toInt = ((210 * u + i : Nat) : Int) := by rw [ti_add (by omega) (by omega), s0, h3]; omega
      rw [p_X12_isPattern_b27_s, if_neg (by rw [ti_le, hL, h3]; omega), tn_of s1, tn_of h3]
      refine pk_gd (fun _ => pk_gd (fun _ => pk_ite (fun c => pk_gd (fun _ => pk_gd (fun _ => pk_ite (fun c2 => ?_) (fun c2 => pk_some ⟨rfl, ⟨fun _ x => c2 (x i (Nat.le_refl _) (by omega)).2, fun _ => rfl⟩⟩)))) (fun c => pk_some ⟨rfl, ⟨fun _ x => c (x i (Nat.le_refl _) (by omega)).1, fun _ => rfl⟩⟩)))
      refine pk_bvs (pk_mono (ih f (i + 1) (a3 + 1) (by omega) (by omega) (tp1 h3 (by omega))) (fun r hr => ⟨hr.1, hr.2.trans (not_congr ⟨fun x k hk ht => ?_, fun x k hk ht => x k (by omega) ht⟩)⟩))
      rcases Nat.lt_or_ge i k with e | e
      · exact x k (by omega) ht
      · have : k = i := by omega
        subst this
        exact ⟨c, c2⟩
theorem m_isPat {z : Mem} {u L : Nat} {f : Int32} (hu : u ≤ 24) {a1 : Int32} (h1 : a1.toInt = (u : Int)) (hL : (z.1 0 118).toInt = (L : Int)) (h200 : L ≤ 200) : pk (p_X12_isPattern a1 f z) (fun r => r.2 = z ∧ (r.1 = 0 ↔ ¬ Dm9 z f u)) := by
  have e0 : (0 : Int32).toInt = ((0 : Nat) : Int) := by decide
  rw [p_X12_isPattern_eq, tn_of h1]
  refine pk_gd (fun _ => pk_ite (fun c => pk_gd (fun _ => pk_ite (fun c2 => ?_) (fun c2 => pk_some ⟨rfl, ⟨fun _ x => c2 x.2.1, fun _ => rfl⟩⟩))) (fun c => pk_some ⟨rfl, ⟨fun _ x => c x.1, fun _ => rfl⟩⟩))
  refine pk_mono (m_isPatL hu h1 hL h200 _ FUEL 0 0 rfl (by omega) e0) (fun r hr => ⟨hr.1, hr.2.trans (not_congr ⟨fun x => ⟨c, c2, fun k hk => x k (by omega) (by rw [hL] at hk; omega)⟩, fun x k _ hk => x.2.2 k (by rw [hL]; omega)⟩)⟩)
theorem m_byL {z : Mem} {V L : Nat} {f : Int32} (hL : (z.1 0 118).toInt = (L : Int)) (h200 : L ≤ 200) (hV : (z.1 0 110).toInt = (V : Int)) (hV24 : V ≤ 24) : ∀ (m g i : Nat) (a2 : Int32), V - i = m → i ≤ V → a2.toInt = (i : Int) → (∀ w, w < i → ¬ Dm9 z f w) → pk (p_X12_variantBy_b2 g f a2 z) (fun r => r.2 = z ∧ Fi9 (Dm9 z f) V r.1) := by
  intro m
  induction m with
  | zero =>
    intro g i a2 hm hi h2 hw
    cases g with
    | zero => intro r e; rw [p_X12_variantBy_b2_z] at e; exact absurd e (by simp)
    | succ g =>
      rw [p_X12_variantBy_b2_s, if_pos (by rw [ti_le, hV, h2]; omega)]
      exact pk_some ⟨rfl, Or.inl ⟨rfl, fun u hu => hw u (by omega)⟩⟩
  | succ m ih =>
    intro g i a2 hm hi h2 hw
    cases g with
    | zero => intro r e; rw [p_X12_variantBy_b2_z] at e; exact absurd e (by simp)
    | succ g =>
      rw [p_X12_variantBy_b2_s, if_neg (by rw [ti_le, hV, h2]; omega)]
      refine pk_bd (m_isPat (f := f) (u := i) (by omega) h2 hL h200) ?_
      rintro r4 μ3 ⟨g1, g2⟩
      have g1 : μ3 = z := g1
      have g2 : r4 = 0 ↔ ¬ Dm9 z f i := g2
      rw [g1]
      refine pk_ite (fun c => pk_bvs (ih g (i + 1) (a2 + 1) (by omega) (by omega) (tp1 h2 (by omega)) (fun w hw2 => ?_))) (fun c => pk_some ⟨rfl, Or.inr ⟨i, by omega, h2, ?_, hw⟩⟩)
      · rcases Nat.lt_or_ge w i with e | e
        · exact hw w e
        · have : w = i := by omega
          subst this; exact g2.mp c
      · exact Classical.byContradiction (fun x => c (g2.mpr x))
theorem m_by {z : Mem} {V L : Nat} {f : Int32} (hL : (z.1 0 118).toInt = (L : Int)) (h200 : L ≤ 200) (hV : (z.1 0 110).toInt = (V : Int)) (hV24 : V ≤ 24) : pk (p_X12_variantBy f z) (fun r => r.2 = z ∧ Fi9 (Dm9 z f) V r.1) := by
  have e0 : (0 : Int32).toInt = ((0 : Nat) : Int) := by decide
  rw [p_X12_variantBy_eq]
  exact m_byL hL h200 hV hV24 _ FUEL 0 0 rfl (by omega) e0 (fun w hw => by omega)
noncomputable def cn9 (S : Nat → Bool) : Nat → Nat → Int32 → Int32
  | _, 0, acc => acc
  | i, m + 1, acc => cn9 S (i + 1) m (if S i = true then acc + 1 else acc)
theorem cn9_cong {S S' : Nat → Bool} : ∀ (m i : Nat) (acc : Int32), (∀ k, i ≤ k → k < i + m → S k = S' k) → cn9 S i m acc = cn9 S' i m acc := by
  intro m
  induction m with
  | zero => intro i acc _; rfl
  | succ m ih =>
    intro i acc h
    show cn9 S (i + 1) m _ = cn9 S' (i + 1) m _
    rw [h i (Nat.le_refl _) (by omega)]
    exact ih _ _ (fun k a b => h k (by omega) (by omega))
theorem cn9_ti {S : Nat → Bool} : ∀ (m i : Nat) (acc : Int32) (c : Nat), acc.toInt = (c : Int) → c + m ≤ 100000 → (cn9 S i m acc).toInt = ((c + ((List.range' i m).filter S).length : Nat) : Int) := by
  intro m
  induction m with
  | zero => intro i acc c h _; exact h
  | succ m ih =>
    intro i acc c h hb
    rw [List.range'_succ]
    show (cn9 S (i + 1) m (if S i = true then acc + 1 else acc)).toInt = _
    by_cases hs : S i = true
    · rw [if_pos hs, List.filter_cons_of_pos hs, ih (i + 1) (acc + 1) (c + 1) (tp1 h (by omega)) (by omega), List.length_cons]
      congr 1; omega
    · rw [if_neg hs, List.filter_cons_of_neg hs]
      exact ih (i + 1) acc c h (by omega)
end
