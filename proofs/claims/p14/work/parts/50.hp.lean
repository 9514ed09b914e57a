/-! THE HEAP: numbers, pairs, registers -/
def Nd (μ : Mem) (k : Nat) : Prop := 1 ≤ iv μ 33 k ∧ (((iv μ 30 k = 0 ∨ iv μ 30 k = 1 ∨ iv μ 30 k = 3) ∧ iv μ 33 k = 1) ∨ (iv μ 30 k = 2 ∧ ∃ a b : Nat, iv μ 31 k = (a : Int) ∧ iv μ 32 k = (b : Int) ∧ a < k ∧ b < k ∧ iv μ 33 k = 1 + iv μ 33 a + iv μ 33 b))
def HI (μ : Mem) : Prop := ∀ k, k < nv μ 56 → Nd μ k
/-- the heap grows -/
def Gr (μ μ' : Mem) : Prop := nv μ 56 ≤ nv μ' 56 ∧ ∀ k, k < nv μ 56 → iv μ' 30 k = iv μ 30 k ∧ iv μ' 31 k = iv μ 31 k ∧ iv μ' 32 k = iv μ 32 k ∧ iv μ' 33 k = iv μ 33 k
theorem Gr.rf {μ : Mem} : Gr μ μ := ⟨Nat.le_refl _, fun _ _ => ⟨rfl, rfl, rfl, rfl⟩⟩
theorem Gr.tr {μ μ1 μ2 : Mem} (h : Gr μ μ1) (h2 : Gr μ1 μ2) : Gr μ μ2 := by
  refine ⟨Nat.le_trans h.1 h2.1, fun k hk => ?_⟩
  obtain ⟨a1, a2, a3, a4⟩ := h.2 k hk
  obtain ⟨b1, b2, b3, b4⟩ := h2.2 k (Nat.lt_of_lt_of_le hk h.1)
  exact ⟨b1.trans a1, b2.trans a2, b3.trans a3, b4.trans a4⟩
/-- no token of the heap -/
def nh (L : List (Nat × Nat × Nat)) : Bool := L.all (fun t => (t.1 == 0 && t.2.1 == 0 && !(t.2.2 == 56)) || (t.1 == 1 && !(t.2.1 == 0) && !(t.2.1 == 30) && !(t.2.1 == 31) && !(t.2.1 == 32) && !(t.2.1 == 33)))
theorem nh_f {L : List (Nat × Nat × Nat)} (h : nh L = true) : L.all (fun t => !hit t 0 56) = true := by
  unfold nh at h
  rw [List.all_eq_true] at h ⊢
  intro t ht
  have := h t ht
  simp only [Bool.or_eq_true, Bool.and_eq_true, beq_iff_eq, Bool.not_eq_true', beq_eq_false_iff_ne, ne_eq] at this
  simp only [Bool.not_eq_true']
  unfold hit
  rcases this with ⟨⟨a, b⟩, c⟩ | ⟨⟨⟨⟨⟨a, z⟩, b⟩, c⟩, d⟩, e⟩
  · rw [if_pos a]
    simp only [Bool.and_eq_false_iff, beq_eq_false_iff_ne, ne_eq]
    right; omega
  · rw [if_neg (by omega), if_pos a]
    simp only [beq_eq_false_iff_ne, ne_eq]; omega
theorem nh_a {L : List (Nat × Nat × Nat)} (h : nh L = true) {c : Nat} (hc : c = 30 ∨ c = 31 ∨ c = 32 ∨ c = 33) (k : Nat) : L.all (fun t => !hit t c k) = true := by
  unfold nh at h
  rw [List.all_eq_true] at h ⊢
  intro t ht
  have := h t ht
  simp only [Bool.or_eq_true, Bool.and_eq_true, beq_iff_eq, Bool.not_eq_true', beq_eq_false_iff_ne, ne_eq] at this
  simp only [Bool.not_eq_true']
  unfold hit
  rcases this with ⟨⟨a, b⟩, d⟩ | ⟨⟨⟨⟨⟨a, z⟩, b⟩, d⟩, e⟩, f⟩
  · rw [if_pos a]
    simp only [Bool.and_eq_false_iff, beq_eq_false_iff_ne, ne_eq]
    left; omega
  · rw [if_neg (by omega), if_pos a]
    simp only [beq_eq_false_iff_ne, ne_eq]; omega
theorem Fr.heq {L : List (Nat × Nat × Nat)} {b : Bool} {μ μ' : Mem} (h : Fr L b μ μ') (n : nh L = true) : nv μ' 56 = nv μ 56 ∧ ∀ k, iv μ' 30 k = iv μ 30 k ∧ iv μ' 31 k = iv μ 31 k ∧ iv μ' 32 k = iv μ 32 k ∧ iv μ' 33 k = iv μ 33 k :=
  ⟨by unfold nv; rw [h.1 0 56 (nh_f n)], fun k => ⟨congrArg Int32.toInt (h.1 _ k (nh_a n (by omega) k)), congrArg Int32.toInt (h.1 _ k (nh_a n (by omega) k)), congrArg Int32.toInt (h.1 _ k (nh_a n (by omega) k)), congrArg Int32.toInt (h.1 _ k (nh_a n (by omega) k))⟩⟩
theorem Fr.gr {L : List (Nat × Nat × Nat)} {b : Bool} {μ μ' : Mem} (h : Fr L b μ μ') (n : nh L = true) : Gr μ μ' := by
  obtain ⟨e, a⟩ := h.heq n
  exact ⟨by omega, fun k _ => a k⟩
theorem Nd.gr {μ μ' : Mem} {k : Nat} (h : Nd μ k) (hk : k < nv μ 56) (g : Gr μ μ') : Nd μ' k := by
  obtain ⟨a1, a2, a3, a4⟩ := g.2 k hk
  unfold Nd
  rw [a1, a2, a3, a4]
  obtain ⟨h0, h | ⟨h1, a, b, h2, h3, h4, h5, h6⟩⟩ := h
  · exact ⟨h0, Or.inl h⟩
  · refine ⟨h0, Or.inr ⟨h1, a, b, h2, h3, h4, h5, ?_⟩⟩
    rw [(g.2 a (by omega)).2.2.2, (g.2 b (by omega)).2.2.2]; exact h6
theorem HI.fr {L : List (Nat × Nat × Nat)} {b : Bool} {μ μ' : Mem} (hH : HI μ) (h : Fr L b μ μ') (n : nh L = true) : HI μ' := by
  intro k hk
  rw [(h.heq n).1] at hk
  exact (hH k hk).gr hk (h.gr n)
/-- all registers that x holds are of V -/
def Vl (μ : Mem) (V : Nat → Prop) (x : Nat) : Prop := ∃ C : Nat → Prop, C x ∧ ∀ y, C y → y < nv μ 56 ∧ (iv μ 30 y = 3 → 0 ≤ iv μ 31 y ∧ V (iv μ 31 y).toNat) ∧ (iv μ 30 y = 2 → C (iv μ 31 y).toNat ∧ C (iv μ 32 y).toNat)
theorem Vl.lt {μ : Mem} {V : Nat → Prop} {x : Nat} (h : Vl μ V x) : x < nv μ 56 := by
  obtain ⟨C, h1, h2⟩ := h
  exact (h2 x h1).1
theorem Vl.gr {μ μ' : Mem} {V : Nat → Prop} {x : Nat} (h : Vl μ V x) (g : Gr μ μ') : Vl μ' V x := by
  obtain ⟨C, h1, h2⟩ := h
  refine ⟨C, h1, fun y hy => ?_⟩
  obtain ⟨a, b, c⟩ := h2 y hy
  obtain ⟨e1, e2, e3, e4⟩ := g.2 y a
  rw [e1, e2, e3]
  exact ⟨Nat.lt_of_lt_of_le a g.1, b, c⟩
theorem Vl.mono {μ : Mem} {V W : Nat → Prop} {x : Nat} (h : Vl μ V x) (hw : ∀ u, V u → W u) : Vl μ W x := by
  obtain ⟨C, h1, h2⟩ := h
  exact ⟨C, h1, fun y hy => ⟨(h2 y hy).1, fun h => ⟨((h2 y hy).2.1 h).1, hw _ ((h2 y hy).2.1 h).2⟩, (h2 y hy).2.2⟩⟩
theorem Vl.kids {μ : Mem} {V : Nat → Prop} {x : Nat} (h : Vl μ V x) (h2 : iv μ 30 x = 2) : Vl μ V (iv μ 31 x).toNat ∧ Vl μ V (iv μ 32 x).toNat := by
  obtain ⟨C, a, b⟩ := h
  exact ⟨⟨C, ((b x a).2.2 h2).1, b⟩, ⟨C, ((b x a).2.2 h2).2, b⟩⟩
theorem Vl.leaf {μ : Mem} {V : Nat → Prop} {x : Nat} (h : x < nv μ 56) (h2 : iv μ 30 x ≠ 2) (h3 : iv μ 30 x = 3 → 0 ≤ iv μ 31 x ∧ V (iv μ 31 x).toNat) : Vl μ V x :=
  ⟨fun y => y = x, rfl, fun y hy => by subst hy; exact ⟨h, h3, fun e => absurd e h2⟩⟩
theorem Vl.pair {μ : Mem} {V : Nat → Prop} {x a b : Nat} (h : x < nv μ 56) (h2 : iv μ 30 x = 2) (ha : iv μ 31 x = (a : Int)) (hb : iv μ 32 x = (b : Int)) (va : Vl μ V a) (vb : Vl μ V b) : Vl μ V x := by
  obtain ⟨C, c1, c2⟩ := va
  obtain ⟨D, d1, d2⟩ := vb
  refine ⟨fun y => C y ∨ D y ∨ y = x, Or.inr (Or.inr rfl), ?_⟩
  rintro y (hy | hy | rfl)
  · exact ⟨(c2 y hy).1, (c2 y hy).2.1, fun e => ⟨Or.inl ((c2 y hy).2.2 e).1, Or.inl ((c2 y hy).2.2 e).2⟩⟩
  · exact ⟨(d2 y hy).1, (d2 y hy).2.1, fun e => ⟨Or.inr (Or.inl ((d2 y hy).2.2 e).1), Or.inr (Or.inl ((d2 y hy).2.2 e).2)⟩⟩
  · refine ⟨h, fun e => by omega, fun _ => ?_⟩
    rw [ha, hb]
    exact ⟨Or.inl c1, Or.inr (Or.inl d1)⟩
def frN : List (Nat × Nat × Nat) := [(0, 0, 56), (1, 30, 0), (1, 31, 0), (1, 32, 0), (1, 33, 0), (1, 34, 0)]
/-- one more node, of sort s with b -/
def PN (μ μ' : Mem) (s b : Int) : Prop := IM μ' ∧ Fr frN true μ μ' ∧ HI μ' ∧ Gr μ μ' ∧ nv μ' 56 = nv μ 56 + 1 ∧ iv μ' 30 (nv μ 56) = s ∧ iv μ' 31 (nv μ 56) = b ∧ iv μ' 33 (nv μ 56) = 1
theorem hp_nv {μ : Mem} (hI : IM μ) : ((nv μ 56 : Nat) : Int) = (μ.1 0 56).toInt := by
  have g := rgm_0_56 hI
  exact ti_nat (by omega)
def Nod (μ : Mem) (s b : Int32) : Mem := sF (sF (sF (sF (sF (sF μ 30 (nv μ 56) s) 31 (nv μ 56) b) 32 (nv μ 56) (-1)) 33 (nv μ 56) 1) 34 (nv μ 56) 0) 0 56 (μ.1 0 56 + 1)
theorem q_node (s b : Int32) (μ : Mem) : pk (p_X12_node s b μ) (fun q => q.2 = Nod μ s b ∧ inb (μ.1 0 56) 100000 = true) := by
  rw [p_X12_node_eq]
  exact pk_gd fun h => pk_bv (pk_gd fun _ => pk_bv (pk_gd fun _ => pk_bv (pk_gd fun _ => pk_bv (pk_gd fun _ => pk_bv (pk_bv (pk_some ⟨rfl, h⟩))))))
theorem nod_c {μ : Mem} {s b : Int32} {c : Nat} (k : Nat) (hk : k ≠ nv μ 56) (hc : c ≠ 0) : iv (Nod μ s b) c k = iv μ c k := by
  unfold iv Nod
  rw [sF_i hc, sF_k hk, sF_k hk, sF_k hk, sF_k hk, sF_k hk]
theorem nod_56 {μ : Mem} {s b : Int32} (h : inb (μ.1 0 56) 100000 = true) : nv (Nod μ s b) 56 = nv μ 56 + 1 := by
  have : (Nod μ s b).1 0 56 = μ.1 0 56 + 1 := by unfold Nod; rw [sF_v]
  unfold nv
  rw [this]; exact (nv_inc h (by decide)).1
theorem nod_gr {μ : Mem} {s b : Int32} (h : inb (μ.1 0 56) 100000 = true) : Gr μ (Nod μ s b) :=
  ⟨by rw [nod_56 h]; omega, fun k hk => ⟨nod_c k (by omega) (by decide), nod_c k (by omega) (by decide), nod_c k (by omega) (by decide), nod_c k (by omega) (by decide)⟩⟩
theorem t_node {μ : Mem} (hI : IM μ) (hH : HI μ) {s b : Int32} (hs : s.toInt = 0 ∨ s.toInt = 1 ∨ s.toInt = 3) (h : nv μ 56 < 100000) : ok (p_X12_node s b μ) (fun q => q.1.toInt = (nv μ 56 : Int) ∧ PN μ q.2 s.toInt b.toInt) := by
  have e := hp_nv hI
  refine ok_mono (ok_pk (k_X12_node s b μ hI (by omega)) (q_node s b μ)) ?_
  rintro ⟨r, μ'⟩ ⟨⟨hI', hF, h1, h2⟩, h3, hi⟩
  have h3 : μ' = Nod μ s b := h3
  have v30 : iv μ' 30 (nv μ 56) = s.toInt := by rw [h3]; unfold iv Nod; rw [sF_i (by decide), sF_i (by decide), sF_i (by decide), sF_i (by decide), sF_i (by decide), sF_v]
  have v31 : iv μ' 31 (nv μ 56) = b.toInt := by rw [h3]; unfold iv Nod; rw [sF_i (by decide), sF_i (by decide), sF_i (by decide), sF_i (by decide), sF_v]
  have v33 : iv μ' 33 (nv μ 56) = 1 := by
    rw [h3]; unfold iv Nod; rw [sF_i (by decide), sF_i (by decide), sF_v]; decide
  have g : Gr μ μ' := by rw [h3]; exact nod_gr hi
  have n : nv μ' 56 = nv μ 56 + 1 := by rw [h3]; exact nod_56 hi
  refine ⟨by show r.toInt = _; rw [e]; exact h1, hI', hF, ?_, g, n, v30, v31, v33⟩
  intro k hk
  rw [n] at hk
  by_cases ek : k = nv μ 56
  · rw [ek]
    show Nd μ' _
    exact ⟨by omega, Or.inl ⟨by omega, v33⟩⟩
  · exact (hH k (by omega)).gr (by omega) g
/-- one more pair -/
def PP (μ μ' : Mem) (x y : Nat) : Prop := IM μ' ∧ Fr frN true μ μ' ∧ HI μ' ∧ Gr μ μ' ∧ nv μ' 56 = nv μ 56 + 1 ∧ iv μ' 30 (nv μ 56) = 2 ∧ iv μ' 31 (nv μ 56) = (x : Int) ∧ iv μ' 32 (nv μ 56) = (y : Int) ∧ iv μ' 33 (nv μ 56) = 1 + iv μ 33 x + iv μ 33 y
theorem t_pair {μ : Mem} (hI : IM μ) (hH : HI μ) {a1 a2 : Int32} {x y : Nat} (h1 : a1.toInt = (x : Int)) (h2 : a2.toInt = (y : Int)) (hx : x < nv μ 56) (hy : y < nv μ 56) (hw : iv μ 33 x + iv μ 33 y ≤ 100000) (h : nv μ 56 < 100000) : ok (p_X12_pair a1 a2 μ) (fun q => q.1.toInt = (nv μ 56 : Int) ∧ PP μ q.2 x y) := by
  rw [p_X12_pair_eq]
  have e := hp_nv hI
  have e1 : (1 : Int32).toInt = 1 := by decide
  have g56 := rgm_0_56 hI
  refine ok_bd (ok_pk (k_X12_node 2 a1 μ hI (by omega)) (q_node 2 a1 μ)) ?_
  rintro r μ1 ⟨⟨hI1, hF1, h3, h4⟩, em1, hi⟩
  have hI1 : IM μ1 := hI1
  have hF1 : Fr frN true μ μ1 := hF1
  have em1 : μ1 = Nod μ 2 a1 := em1
  have h3 : r.toInt = (μ.1 0 56).toInt := h3
  have er : r.toNatClampNeg = nv μ 56 := tn_of (by rw [h3, e])
  have ex : a1.toNatClampNeg = x := tn_of h1
  have ey : a2.toNatClampNeg = y := tn_of h2
  have hb1 : inb a1 100000 = true := inb_iff.mpr (by omega)
  have hb2 : inb a2 100000 = true := inb_iff.mpr (by omega)
  have hbr : inb r 100000 = true := inb_iff.mpr (by omega)
  have g1 : Gr μ μ1 := by rw [em1]; exact nod_gr hi
  have wx := (hH x hx).1
  have wy := (hH y hy).1
  refine ok_gd hbr (ok_bv (fun μ3 em3 => ok_gd hb1 (ok_gd hb2 (ok_bv (fun v4 ev4 => ok_gd hbr (ok_bv (fun μ5 em5 => ok_gd hb1 (ok_gd hb2 ?_))))))))
  rw [er] at em3 em5
  have hI3 : IM μ3 := by rw [em3]; exact IM_F hI1 (rtma_32 _ _)
  have hI5 : IM μ5 := by rw [em5]; exact IM_F hI3 (rtma_33 _ _)
  have F5 : Fr frN true μ μ5 := by
    rw [em5]; refine Fr.puta ?_ (by decide +kernel)
    rw [em3]; exact Fr.puta hF1 (by decide +kernel)
  have w3x : (μ3.1 33 x).toInt = iv μ 33 x := by rw [em3, sF_i (by decide)]; exact (g1.2 x hx).2.2.2
  have w3y : (μ3.1 33 y).toInt = iv μ 33 y := by rw [em3, sF_i (by decide)]; exact (g1.2 y hy).2.2.2
  rw [ex, ey] at ev4
  have t4 : v4.toInt = 1 + iv μ 33 x + iv μ 33 y := by
    have h5 : (1 + μ3.1 33 x).toInt = 1 + iv μ 33 x := by rw [ti_add (by omega) (by omega), e1, w3x]
    rw [ev4, ti_add (by omega) (by omega), h5, w3y]
  have fin : ∀ w : Int32, ok (gd (inb r 100000) (bv (sF μ5 34 r.toNatClampNeg w) (fun μ7 => some (r, μ7)))) (fun q => q.1.toInt = (nv μ 56 : Int) ∧ PP μ q.2 x y) := by
    intro w
    refine ok_gd hbr (ok_bv (fun μ7 em7 => ok_some ⟨by show r.toInt = _; omega, ?_⟩))
    show PP μ μ7 x y
    have hI7 : IM μ7 := by rw [em7]; exact IM_F hI5 (rtma_34 _ _)
    have F7 : Fr frN true μ μ7 := by rw [em7]; exact Fr.puta F5 (by decide +kernel)
    have n7 : nv μ7 56 = nv μ 56 + 1 := by
      have : μ7.1 0 56 = μ1.1 0 56 := by rw [em7, sF_i (by decide), em5, sF_i (by decide), em3, sF_i (by decide)]
      unfold nv
      rw [this]
      have := nod_56 (s := 2) (b := a1) hi
      rw [em1]; exact this
    have k7 : ∀ c k, k ≠ nv μ 56 → c ≠ 34 → iv μ7 c k = iv μ1 c k := by
      intro c k hk hc
      unfold iv
      rw [em7, sF_i hc, em5, sF_k hk, em3, sF_k hk]
    have g7 : Gr μ μ7 := by
      refine ⟨by omega, fun k hk => ?_⟩
      obtain ⟨a, b, c, d⟩ := g1.2 k hk
      exact ⟨by rw [k7 _ k (by omega) (by decide)]; exact a, by rw [k7 _ k (by omega) (by decide)]; exact b, by rw [k7 _ k (by omega) (by decide)]; exact c, by rw [k7 _ k (by omega) (by decide)]; exact d⟩
    have v30 : iv μ7 30 (nv μ 56) = 2 := by
      unfold iv
      rw [em7, sF_i (by decide), em5, sF_i (by decide), em3, sF_i (by decide), em1]
      unfold Nod
      rw [sF_i (by decide), sF_i (by decide), sF_i (by decide), sF_i (by decide), sF_i (by decide), sF_v]; decide
    have v31 : iv μ7 31 (nv μ 56) = (x : Int) := by
      unfold iv
      rw [em7, sF_i (by decide), em5, sF_i (by decide), em3, sF_i (by decide), em1]
      unfold Nod
      rw [sF_i (by decide), sF_i (by decide), sF_i (by decide), sF_i (by decide), sF_v]; exact h1
    have v32 : iv μ7 32 (nv μ 56) = (y : Int) := by
      unfold iv
      rw [em7, sF_i (by decide), em5, sF_i (by decide), em3, sF_v]; exact h2
    have v33 : iv μ7 33 (nv μ 56) = 1 + iv μ 33 x + iv μ 33 y := by
      unfold iv
      rw [em7, sF_i (by decide), em5, sF_v]; exact t4
    refine ⟨hI7, F7, ?_, g7, n7, v30, v31, v32, v33⟩
    intro k hk
    rw [n7] at hk
    by_cases ek : k = nv μ 56
    · rw [ek]
      refine ⟨by omega, Or.inr ⟨v30, x, y, v31, v32, hx, hy, ?_⟩⟩
      rw [v33, (g7.2 x hx).2.2.2, (g7.2 y hy).2.2.2]
    · exact (hH k (by omega)).gr (by omega) g7
  exact ok_ite (fun _ => ok_gd hb2 (fin _)) (fun _ => ok_gd hb1 (fin _))
/-- the number that x shows -/
def Nm (μ : Mem) (x k : Nat) : Prop := k ≤ x ∧ k < nv μ 56 ∧ iv μ 30 k ≠ 2 ∧ iv μ 33 k = 1 ∧ ∀ V, Vl μ V x → Vl μ V k
theorem t_num_b2 {μ : Mem} (hI : IM μ) (hH : HI μ) : ∀ (m : Nat) (a : Int32) (x : Nat), a.toInt = (x : Int) → x < nv μ 56 → x < m → ok (p_X12_num_b2 m a μ) (fun q => ∃ k : Nat, q.1.toInt = (k : Int) ∧ q.2 = μ ∧ Nm μ x k) := by
  intro m
  have e := hp_nv hI
  have g56 := rgm_0_56 hI
  induction m with
  | zero => intro a x _ _ h; omega
  | succ m ih =>
    intro a x h1 hx hm
    rw [p_X12_num_b2_s]
    have ex : a.toNatClampNeg = x := tn_of h1
    rw [ex]
    have hb : inb a 100000 = true := inb_iff.mpr (by omega)
    have hn := hH x hx
    have e2 : (2 : Int32).toInt = 2 := by decide
    refine ok_gd hb (ok_ite (fun h2 => ok_gd hb (ok_bv (fun v2 ev2 => ?_))) (fun h2 => ok_some ⟨x, h1, rfl, Nat.le_refl _, hx, ?_, ?_, fun _ h => h⟩))
    · have h2' : iv μ 30 x = 2 := by unfold iv; rw [h2]; exact e2
      obtain ⟨_, ⟨hz, _⟩ | ⟨_, b, c, hb1, hc1, hbx, hcx, _⟩⟩ := hn
      · omega
      refine ok_mono (ih v2 b (by rw [ev2]; exact hb1) (by omega) (by omega)) ?_
      rintro q ⟨k, q1, q2, q3, q4, q5, q6, q7⟩
      refine ⟨k, q1, q2, by omega, q4, q5, q6, fun V hv => q7 V ?_⟩
      have := (hv.kids h2').1
      rw [hb1] at this
      exact this
    · intro h
      exact h2 (ti_eq.mpr (by rw [e2]; exact h))
    · obtain ⟨_, ⟨_, hz⟩ | ⟨hz, _⟩⟩ := hn
      · exact hz
      · exact absurd (ti_eq.mpr (by rw [e2]; exact hz)) h2
theorem t_num {μ : Mem} (hI : IM μ) (hH : HI μ) {a : Int32} {x : Nat} (h1 : a.toInt = (x : Int)) (hx : x < nv μ 56) : ok (p_X12_num a μ) (fun q => ∃ k : Nat, q.1.toInt = (k : Int) ∧ q.2 = μ ∧ Nm μ x k) := by
  rw [p_X12_num_eq]
  have e := hp_nv hI
  have g56 := rgm_0_56 hI
  exact t_num_b2 hI hH _ a x h1 hx (by show x < 10000000000; omega)
theorem t_isKnown {μ : Mem} (hI : IM μ) {a : Int32} {x : Nat} (h1 : a.toInt = (x : Int)) (hx : x < nv μ 56) : ok (p_X12_isKnown a μ) (fun q => q.2 = μ ∧ ((q.1 = 0 ∧ iv μ 30 x = 3) ∨ (q.1 = 1 ∧ iv μ 30 x ≠ 3))) := by
  rw [p_X12_isKnown_eq]
  have e := hp_nv hI
  have g56 := rgm_0_56 hI
  have e3 : (3 : Int32).toInt = 3 := by decide
  rw [tn_of h1]
  refine ok_gd (inb_iff.mpr (by omega)) (ok_ite (fun h => ok_some ⟨rfl, Or.inl ⟨rfl, ?_⟩⟩) (fun h => ok_some ⟨rfl, Or.inr ⟨rfl, fun h2 => h (ti_eq.mpr (by rw [e3]; exact h2))⟩⟩))
  unfold iv; rw [h]; exact e3
