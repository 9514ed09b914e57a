/-! STACKS AND ROWS AS LISTS; STARS IN A TREE; BUILDING -/
/-- a stack, its uppermost first -/
def Stk (a : Nat → Int) : List Nat → Prop
  | [] => True
  | x :: l => a l.length = (x : Int) ∧ Stk a l
theorem Stk.cong {a b : Nat → Int} : ∀ {l : List Nat}, Stk a l → (∀ i, i < l.length → b i = a i) → Stk b l := by
  intro l
  induction l with
  | nil => intro _ _; trivial
  | cons x l ih => intro h c; exact ⟨by rw [c _ (by simp)]; exact h.1, ih h.2 (fun i hi => c i (by simp; omega))⟩
/-- a row from i on -/
def Lst (a : Nat → Int) : Nat → List Nat → Prop
  | _, [] => True
  | i, x :: l => a i = (x : Int) ∧ Lst a (i + 1) l
theorem Lst.cong {a b : Nat → Int} : ∀ {l : List Nat} {i : Nat}, Lst a i l → (∀ j, i ≤ j → j < i + l.length → b j = a j) → Lst b i l := by
  intro l
  induction l with
  | nil => intro _ _ _; trivial
  | cons x l ih => intro i h c; exact ⟨by rw [c _ (Nat.le_refl _) (by simp)]; exact h.1, ih h.2 (fun j h1 h2 => c j (by omega) (by simp; omega))⟩
theorem Lst.get {a : Nat → Int} : ∀ {l : List Nat} {i : Nat}, Lst a i l → ∀ j, j < l.length → ∃ x, x ∈ l ∧ a (i + j) = (x : Int) := by
  intro l
  induction l with
  | nil => intro i _ j hj; exact absurd hj (by simp)
  | cons x l ih =>
    intro i h j hj
    cases j with
    | zero => exact ⟨x, by simp, h.1⟩
    | succ j =>
      obtain ⟨y, h1, h2⟩ := ih h.2 j (by simp at hj; omega)
      refine ⟨y, by simp [h1], ?_⟩
      have e : i + (j + 1) = i + 1 + j := by omega
      rw [e]; exact h2
theorem Lst.snoc {a : Nat → Int} : ∀ {l : List Nat} {i x : Nat}, Lst a i l → a (i + l.length) = (x : Int) → Lst a i (l ++ [x]) := by
  intro l
  induction l with
  | nil => intro i x _ h; exact ⟨h, trivial⟩
  | cons y l ih =>
    intro i x h h2
    refine ⟨h.1, ih h.2 ?_⟩
    have e : i + 1 + l.length = i + (y :: l).length := by simp; omega
    rw [e]; exact h2
def stf (so bi se : Nat → Int) : Nat → Nat → Nat
  | 0, _ => 0
  | n + 1, x => if so x = 2 then stf so bi se n (bi x).toNat + stf so bi se n (se x).toNat else if so x = 3 then 1 else 0
theorem stf_fuel {μ : Mem} (hH : HI μ) : ∀ (N x : Nat), x < N → x < nv μ 56 → ∀ n m, x < n → x < m → stf (iv μ 30) (iv μ 31) (iv μ 32) n x = stf (iv μ 30) (iv μ 31) (iv μ 32) m x := by
  intro N
  induction N with
  | zero => intro x h; omega
  | succ N ih =>
    intro x hN hx n m hn hm
    obtain ⟨n, rfl⟩ : ∃ n', n = n' + 1 := ⟨n - 1, by omega⟩
    obtain ⟨m, rfl⟩ : ∃ m', m = m' + 1 := ⟨m - 1, by omega⟩
    unfold stf
    by_cases e : iv μ 30 x = 2
    · rw [if_pos e, if_pos e]
      obtain ⟨_, ⟨hz, _⟩ | ⟨_, b, c, hb1, hc1, hbx, hcx, _⟩⟩ := hH x hx
      · omega
      rw [hb1, hc1]
      have eb : ((b : Int)).toNat = b := rfl
      have ec : ((c : Int)).toNat = c := rfl
      rw [eb, ec, ih b (by omega) (by omega) n m (by omega) (by omega), ih c (by omega) (by omega) n m (by omega) (by omega)]
    · rw [if_neg e, if_neg e]
/-- how many stars a tree holds -/
def St (μ : Mem) (x : Nat) : Nat := stf (iv μ 30) (iv μ 31) (iv μ 32) (x + 1) x
theorem St.pair {μ : Mem} (hH : HI μ) {x a b : Nat} (hx : x < nv μ 56) (h2 : iv μ 30 x = 2) (ha : iv μ 31 x = (a : Int)) (hb : iv μ 32 x = (b : Int)) : St μ x = St μ a + St μ b := by
  unfold St
  show (if iv μ 30 x = 2 then _ else _) = _
  rw [if_pos h2, ha, hb]
  obtain ⟨_, ⟨hz, _⟩ | ⟨_, b', c', hb1, hc1, hbx, hcx, _⟩⟩ := hH x hx
  · omega
  have e1 : b' = a := by omega
  have e2 : c' = b := by omega
  subst e1; subst e2
  have eb : ((b' : Int)).toNat = b' := rfl
  have ec : ((c' : Int)).toNat = c' := rfl
  rw [eb, ec, stf_fuel hH _ b' (Nat.lt_succ_self _) (by omega) x (b' + 1) hbx (Nat.lt_succ_self _), stf_fuel hH _ c' (Nat.lt_succ_self _) (by omega) x (c' + 1) hcx (Nat.lt_succ_self _)]
theorem St.leaf {μ : Mem} {x : Nat} (h2 : iv μ 30 x ≠ 2) : St μ x = if iv μ 30 x = 3 then 1 else 0 := by
  unfold St
  show (if iv μ 30 x = 2 then _ else _) = _
  rw [if_neg h2]
theorem St.gr {μ μ' : Mem} (hH : HI μ) (g : Gr μ μ') : ∀ (N x : Nat), x < N → x < nv μ 56 → St μ' x = St μ x := by
  intro N
  have h2 : ∀ (N x n : Nat), x < N → x < nv μ 56 → x < n → stf (iv μ' 30) (iv μ' 31) (iv μ' 32) n x = stf (iv μ 30) (iv μ 31) (iv μ 32) n x := by
    intro N
    induction N with
    | zero => intro x n h; omega
    | succ N ih =>
      intro x n hN hx hn
      obtain ⟨n, rfl⟩ : ∃ n', n = n' + 1 := ⟨n - 1, by omega⟩
      obtain ⟨a1, a2, a3, a4⟩ := g.2 x hx
      unfold stf
      rw [a1, a2, a3]
      by_cases e : iv μ 30 x = 2
      · rw [if_pos e, if_pos e]
        obtain ⟨_, ⟨hz, _⟩ | ⟨_, b, c, hb1, hc1, hbx, hcx, _⟩⟩ := hH x hx
        · omega
        rw [hb1, hc1]
        have eb : ((b : Int)).toNat = b := rfl
        have ec : ((c : Int)).toNat = c := rfl
        rw [eb, ec, ih b n (by omega) (by omega) (by omega), ih c n (by omega) (by omega) (by omega)]
      · rw [if_neg e, if_neg e]
  intro x hN hx
  exact h2 _ x _ hN hx (Nat.lt_succ_self _)
/-- the stack of what is built -/
def Bu (μ : Mem) (l : List Nat) : Prop := (μ.1 0 58).toInt = (l.length : Int) ∧ Stk (iv μ 35) l
def frB : List (Nat × Nat × Nat) := [(0, 0, 58), (1, 35, 0)]
theorem t_build {μ : Mem} (hI : IM μ) {l : List Nat} (hB : Bu μ l) {a : Int32} {x : Nat} (h1 : a.toInt = (x : Int)) (hx : x < 100000) (hl : l.length < 300) : ok (p_X12_build a μ) (fun q => IM q ∧ Fr frB true μ q ∧ Bu q (x :: l)) := by
  obtain ⟨b1, b2⟩ := hB
  refine ok_mono (ok_pk (k_X12_build a μ hI (by omega)) (Q := fun q => q = sF (sF μ 35 l.length a) 0 58 (μ.1 0 58 + 1)) ?_) ?_
  · rw [p_X12_build_eq]
    have : (μ.1 0 58).toNatClampNeg = l.length := tn_of b1
    rw [this]
    exact pk_gd fun _ => pk_bv (pk_bv (pk_some rfl))
  · rintro q ⟨⟨c1, c2, c3⟩, e⟩
    refine ⟨c1, c2, by rw [c3, b1]; simp, ?_, ?_⟩
    · rw [e]
      show ((sF μ 35 l.length a).1 35 l.length).toInt = _
      rw [sF_v]; exact h1
    · refine b2.cong (fun i hi => ?_)
      rw [e]
      show ((sF μ 35 l.length a).1 35 i).toInt = _
      rw [sF_k (by omega)]; rfl
theorem t_unbuild {μ : Mem} (hI : IM μ) {l : List Nat} {x : Nat} (hB : Bu μ (x :: l)) : ok (p_X12_unbuild μ) (fun q => q.1.toInt = (x : Int) ∧ IM q.2 ∧ Fr [(0, 0, 58)] true μ q.2 ∧ Bu q.2 l) := by
  obtain ⟨b1, b2, b3⟩ := hB
  have hl : (μ.1 0 58).toInt = (l.length : Int) + 1 := by rw [b1]; simp
  have g := rgm_0_58 hI
  have e1 : (1 : Int32).toInt = 1 := by decide
  have t1 : (μ.1 0 58 - 1).toInt = (l.length : Int) := by rw [ti_sub (by omega) (by omega), e1]; omega
  have n1 : (μ.1 0 58 - 1).toNatClampNeg = l.length := tn_of t1
  refine ok_mono (ok_pk (k_X12_unbuild μ hI (by omega)) (Q := fun q => q.1 = μ.1 35 l.length ∧ q.2 = sF μ 0 58 (μ.1 0 58 - 1)) ?_) ?_
  · rw [p_X12_unbuild_eq]
    refine pk_bv (pk_gd fun _ => pk_some ⟨?_, rfl⟩)
    show (sF μ 0 58 (μ.1 0 58 - 1)).1 35 ((sF μ 0 58 (μ.1 0 58 - 1)).1 0 58).toNatClampNeg = _
    rw [sF_v, n1]; rfl
  · rintro ⟨r, μ'⟩ ⟨⟨c1, c2, c3, _⟩, e, e2⟩
    have e : r = μ.1 35 l.length := e
    have e2 : μ' = sF μ 0 58 (μ.1 0 58 - 1) := e2
    refine ⟨by show r.toInt = _; rw [e]; exact b2, c1, c2, ?_, ?_⟩
    · show (μ'.1 0 58).toInt = _
      rw [e2, sF_v]; exact t1
    · refine b3.cong (fun i _ => ?_)
      show iv μ' 35 i = _
      rw [e2]; rfl
def frBN : List (Nat × Nat × Nat) := frB ++ frN
theorem Bu.fr {L : List (Nat × Nat × Nat)} {b : Bool} {μ μ' : Mem} {l : List Nat} (h : Bu μ l) (f : Fr L b μ μ') (h1 : L.all (fun t => !hit t 0 58) = true) (h2 : ∀ k, L.all (fun t => !hit t 35 k) = true) : Bu μ' l := by
  obtain ⟨b1, b2⟩ := h
  refine ⟨by rw [f.1 0 58 h1]; exact b1, b2.cong (fun i _ => congrArg Int32.toInt (f.1 35 i (h2 i)))⟩
theorem Bu.len {μ : Mem} {l : List Nat} (hI : IM μ) (h : Bu μ l) : l.length ≤ 300 := by
  have g := rgm_0_58 hI
  have := h.1
  omega
/-- a number, a star is built -/
theorem t_buildOne_n {μ : Mem} (hI : IM μ) (hH : HI μ) {l : List Nat} (hB : Bu μ l) {s b : Int32} (hs : s.toInt = 0 ∨ s.toInt = 1 ∨ s.toInt = 3) (hh : nv μ 56 < 100000) (hl : l.length < 300) : ok (p_X12_buildOne s b μ) (fun q => IM q ∧ Fr frBN true μ q ∧ HI q ∧ Gr μ q ∧ nv q 56 = nv μ 56 + 1 ∧ iv q 30 (nv μ 56) = s.toInt ∧ iv q 31 (nv μ 56) = b.toInt ∧ iv q 33 (nv μ 56) = 1 ∧ Bu q (nv μ 56 :: l)) := by
  rw [p_X12_buildOne_eq]
  have e2 : (2 : Int32).toInt = 2 := by decide
  rw [if_neg (fun h => by rw [h] at hs; omega)]
  refine ok_bd (t_node hI hH hs hh) ?_
  rintro r μ1 ⟨hr, hI1, hF1, hH1, hG1, n1, s1, b1, w1⟩
  have hB1 : Bu μ1 l := hB.fr hF1 (by decide +kernel) (fun k => by simp [frN, hit])
  refine ok_bw (t_build hI1 hB1 hr hh hl) ?_
  rintro μ2 ⟨hI2, hF2, hB2⟩
  obtain ⟨n2, a2⟩ := hF2.heq (by decide +kernel)
  refine ok_some ⟨hI2, (Fr.mono hF1 (by decide +kernel) (fun h => h)).trans (Fr.mono hF2 (by decide +kernel) (fun h => h)), hH1.fr hF2 (by decide +kernel), hG1.tr (hF2.gr (by decide +kernel)), by rw [n2]; exact n1, by rw [(a2 _).1]; exact s1, by rw [(a2 _).2.1]; exact b1, by rw [(a2 _).2.2.2]; exact w1, hB2⟩
/-- a pair is built -/
theorem t_buildOne_p {μ : Mem} (hI : IM μ) (hH : HI μ) {l : List Nat} {x y : Nat} (hB : Bu μ (x :: y :: l)) {s b : Int32} (hs : s.toInt = 2) (hh : nv μ 56 < 100000) (hx : x < nv μ 56) (hy : y < nv μ 56) (hw : iv μ 33 x + iv μ 33 y ≤ 100000) : ok (p_X12_buildOne s b μ) (fun q => IM q ∧ Fr frBN true μ q ∧ HI q ∧ Gr μ q ∧ nv q 56 = nv μ 56 + 1 ∧ iv q 30 (nv μ 56) = 2 ∧ iv q 31 (nv μ 56) = (x : Int) ∧ iv q 32 (nv μ 56) = (y : Int) ∧ iv q 33 (nv μ 56) = 1 + iv μ 33 x + iv μ 33 y ∧ Bu q (nv μ 56 :: l)) := by
  rw [p_X12_buildOne_eq]
  have e2 : (2 : Int32).toInt = 2 := by decide
  have hlen := hB.len hI
  rw [if_pos (ti_eq.mpr (by rw [hs, e2]))]
  refine ok_bd (t_unbuild hI hB) ?_
  rintro r3 μ2 ⟨hr3, hI2, hF2, hB2⟩
  refine ok_bd (t_unbuild hI2 hB2) ?_
  rintro r5 μ4 ⟨hr5, hI4, hF4, hB4⟩
  have hF24 : Fr [(0, 0, 58)] true μ μ4 := Fr.trans hF2 hF4
  obtain ⟨n4, a4⟩ := hF24.heq (by decide +kernel)
  have hH4 : HI μ4 := hH.fr hF24 (by decide +kernel)
  refine ok_bd (t_pair hI4 hH4 hr3 hr5 (by rw [n4]; exact hx) (by rw [n4]; exact hy) (by rw [(a4 _).2.2.2, (a4 _).2.2.2]; exact hw) (by rw [n4]; exact hh)) ?_
  rintro r7 μ6 ⟨hr7, hI6, hF6, hH6, hG6, n6, s6, x6, y6, w6⟩
  rw [n4] at hr7 n6 s6 x6 y6 w6
  have hB6 : Bu μ6 l := hB4.fr hF6 (by decide +kernel) (fun k => by simp [frN, hit])
  refine ok_bw (t_build hI6 hB6 hr7 hh (by simp at hlen; omega)) ?_
  rintro μ8 ⟨hI8, hF8, hB8⟩
  obtain ⟨n8, a8⟩ := hF8.heq (by decide +kernel)
  refine ok_some ⟨hI8, ((Fr.mono hF24 (by decide +kernel) (fun h => h)).trans (Fr.mono hF6 (by decide +kernel) (fun h => h))).trans (Fr.mono hF8 (by decide +kernel) (fun h => h)), hH6.fr hF8 (by decide +kernel), (hF24.gr (by decide +kernel)).tr (hG6.tr (hF8.gr (by decide +kernel))), by rw [n8]; exact n6, by rw [(a8 _).1]; exact s6, by rw [(a8 _).2.1]; exact x6, by rw [(a8 _).2.2.1]; exact y6, ?_, hB8⟩
  rw [(a8 _).2.2.2]
  have := w6
  rw [(a4 _).2.2.2, (a4 _).2.2.2] at this
  exact this
/-- the parts of a row from p to N, and the nodes built of them: weight at most c times the length -/
def Bl (μ : Mem) (be : Nat → Int) (c N : Nat) : Nat → List Nat → Prop
  | p, [] => p = N
  | p, x :: l => ∃ m, Sh be 1 p m ∧ iv μ 33 x ≤ (c : Int) * ((m : Int) - (p : Int)) ∧ Bl μ be c N m l
theorem Bl.gr {μ μ' : Mem} {be : Nat → Int} {c N : Nat} (g : Gr μ μ') : ∀ {l : List Nat} {p : Nat}, (∀ x, x ∈ l → x < nv μ 56) → Bl μ be c N p l → Bl μ' be c N p l := by
  intro l
  induction l with
  | nil => intro p _ h; exact h
  | cons x l ih =>
    intro p hv h
    obtain ⟨m, h1, h2, h3⟩ := h
    exact ⟨m, h1, by rw [(g.2 x (hv x (by simp))).2.2.2]; exact h2, ih (fun y hy => hv y (by simp [hy])) h3⟩
theorem Bl.le {μ : Mem} {be : Nat → Int} {c N : Nat} : ∀ {l : List Nat} {p : Nat}, Bl μ be c N p l → p + l.length ≤ N := by
  intro l
  induction l with
  | nil => intro p h; have : p = N := h; simp; omega
  | cons x l ih =>
    intro p h
    obtain ⟨m, h1, _, h3⟩ := h
    have := h1.le
    have := ih h3
    simp; omega
theorem Bl.len {μ : Mem} {be : Nat → Int} {c N : Nat} : ∀ {l : List Nat} {p n : Nat}, Bl μ be c N p l → Sh be n p N → l.length = n := by
  intro l
  induction l with
  | nil =>
    intro p n h s
    have h : p = N := h
    have := s.le
    simp; omega
  | cons x l ih =>
    intro p n h s
    obtain ⟨m, h1, _, h3⟩ := h
    cases n with
    | zero => have := s.zero; have := h1.le; have := h3.le; omega
    | succ n =>
      obtain ⟨m2, s1, s2⟩ := s.one
      have := h1.det _ s1
      subst this
      simp [ih h3 s2]
theorem Bl.two {μ : Mem} {be : Nat → Int} {c N p e : Nat} {l : List Nat} (h : Bl μ be c N p l) (s : Sh be 2 p e) (he : e ≤ N) : ∃ x y l2 m1 m2, l = x :: y :: l2 ∧ Sh be 1 p m1 ∧ Sh be 1 m1 m2 ∧ iv μ 33 x ≤ (c : Int) * ((m1 : Int) - (p : Int)) ∧ iv μ 33 y ≤ (c : Int) * ((m2 : Int) - (m1 : Int)) ∧ Bl μ be c N m2 l2 ∧ m2 ≤ N := by
  obtain ⟨m1, s1, s2⟩ := s.one
  have l1 := s1.le
  have l2 := s2.le
  cases l with
  | nil => have h : p = N := h; omega
  | cons x l =>
    obtain ⟨m, h1, h2, h3⟩ := h
    have := h1.det _ s1
    subst this
    cases l with
    | nil => have h3 : m = N := h3; omega
    | cons y l =>
      obtain ⟨m2, h4, h5, h6⟩ := h3
      have := h6.le
      exact ⟨x, y, l, m, m2, rfl, h1, h4, h2, h5, h6, by omega⟩
/-- stars of a list of trees -/
def Ss (μ : Mem) : List Nat → Nat
  | [] => 0
  | x :: l => St μ x + Ss μ l
theorem Ss.gr {μ μ' : Mem} (hH : HI μ) (g : Gr μ μ') : ∀ {l : List Nat}, (∀ x, x ∈ l → x < nv μ 56) → Ss μ' l = Ss μ l := by
  intro l
  induction l with
  | nil => intro _; rfl
  | cons x l ih =>
    intro h
    show St μ' x + Ss μ' l = St μ x + Ss μ l
    rw [ih (fun y hy => h y (by simp [hy])), St.gr hH g (x + 1) x (Nat.lt_succ_self _) (h x (by simp))]
