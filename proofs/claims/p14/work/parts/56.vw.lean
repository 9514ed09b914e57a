/-! WHAT THE MACHINE HAS AT HAND, AS LISTS -/
def na (L : List (Nat × Nat × Nat)) (c : Nat) : Bool := L.all (fun t => (t.1 == 0 || t.1 == 1) && !(t.2.1 == c))
def nf (L : List (Nat × Nat × Nat)) (k : Nat) : Bool := L.all (fun t => !hit t 0 k)
theorem na_a {L : List (Nat × Nat × Nat)} {c : Nat} (h : na L c = true) (k : Nat) : L.all (fun t => !hit t c k) = true := by
  unfold na at h
  rw [List.all_eq_true] at h ⊢
  intro t ht
  have := h t ht
  simp only [Bool.and_eq_true, Bool.or_eq_true, beq_iff_eq, Bool.not_eq_true', beq_eq_false_iff_ne, ne_eq] at this
  simp only [Bool.not_eq_true']
  unfold hit
  obtain ⟨a | a, b⟩ := this
  · rw [if_pos a]
    simp only [Bool.and_eq_false_iff, beq_eq_false_iff_ne, ne_eq]
    left; omega
  · rw [if_neg (by omega), if_pos a]
    simp only [beq_eq_false_iff_ne, ne_eq]; omega
theorem Fr.a {L : List (Nat × Nat × Nat)} {b : Bool} {μ μ' : Mem} (f : Fr L b μ μ') {c : Nat} (h : na L c = true) (k : Nat) : iv μ' c k = iv μ c k := congrArg Int32.toInt (f.1 c k (na_a h k))
theorem Fr.fe {L : List (Nat × Nat × Nat)} {b : Bool} {μ μ' : Mem} (f : Fr L b μ μ') {c : Nat} (h : na L c = true) : iv μ' c = iv μ c := funext (fun k => f.a h k)
theorem Fr.n {L : List (Nat × Nat × Nat)} {b : Bool} {μ μ' : Mem} (f : Fr L b μ μ') {k : Nat} (h : nf L k = true) : nv μ' k = nv μ k := by unfold nv; rw [f.1 0 k h]
theorem Fr.v {L : List (Nat × Nat × Nat)} {b : Bool} {μ μ' : Mem} (f : Fr L b μ μ') {k : Nat} (h : nf L k = true) : μ'.1 0 k = μ.1 0 k := f.1 0 k h
def Avs (w a b : Nat → Int) : List Act → Prop
  | [] => True
  | t :: L => w L.length = (t.1 : Int) ∧ a L.length = (t.2.1 : Int) ∧ b L.length = t.2.2 ∧ Avs w a b L
theorem Avs.cong {w a b w2 a2 b2 : Nat → Int} : ∀ {L : List Act}, Avs w a b L → (∀ i, i < L.length → w2 i = w i ∧ a2 i = a i ∧ b2 i = b i) → Avs w2 a2 b2 L := by
  intro L
  induction L with
  | nil => intro _ _; trivial
  | cons t L ih =>
    intro h c
    obtain ⟨c1, c2, c3⟩ := c L.length (by simp)
    exact ⟨by rw [c1]; exact h.1, by rw [c2]; exact h.2.1, by rw [c3]; exact h.2.2.1, ih h.2.2.2 (fun i hi => c i (by simp; omega))⟩
def AV (μ : Mem) (L : List Act) : Prop := (μ.1 0 65).toInt = (L.length : Int) ∧ Avs (iv μ 37) (iv μ 38) (iv μ 39) L
def CV (μ : Mem) (cs : List Nat) : Prop := (μ.1 0 66).toInt = (cs.length : Int) ∧ Stk (iv μ 40) cs
def Evs (va : Nat → Int) : List Fm → Prop
  | [] => True
  | f :: R => (∀ u x, f.1 u = some x → u < 14 ∧ va (14 * R.length + u) = (x : Int)) ∧ Evs va R
theorem Evs.cong {a b : Nat → Int} : ∀ {R : List Fm}, Evs a R → (∀ i, i < 14 * R.length → b i = a i) → Evs b R := by
  intro R
  induction R with
  | nil => intro _ _; trivial
  | cons f R ih =>
    intro h c
    refine ⟨fun u x hu => ?_, ih h.2 (fun i hi => c i (by simp; omega))⟩
    obtain ⟨h1, h2⟩ := h.1 u x hu
    exact ⟨h1, by rw [c _ (by simp; omega)]; exact h2⟩
def EV (μ : Mem) (R : List Fm) : Prop := (μ.1 0 67).toInt + 14 = 14 * (R.length : Int) ∧ R.length ≤ 31 ∧ Evs (iv μ 41) R
def nA (L : List (Nat × Nat × Nat)) : Bool := nf L 65 && na L 37 && na L 38 && na L 39
def nC (L : List (Nat × Nat × Nat)) : Bool := nf L 66 && na L 40
def nE (L : List (Nat × Nat × Nat)) : Bool := nf L 67 && na L 41
theorem AV.fr {F : List (Nat × Nat × Nat)} {b : Bool} {μ μ' : Mem} {L : List Act} (h : AV μ L) (f : Fr F b μ μ') (n : nA F = true) : AV μ' L := by
  unfold nA at n
  simp only [Bool.and_eq_true] at n
  exact ⟨by rw [f.v n.1.1.1]; exact h.1, by rw [f.fe n.1.1.2, f.fe n.1.2, f.fe n.2]; exact h.2⟩
theorem CV.fr {F : List (Nat × Nat × Nat)} {b : Bool} {μ μ' : Mem} {cs : List Nat} (h : CV μ cs) (f : Fr F b μ μ') (n : nC F = true) : CV μ' cs := by
  unfold nC at n
  simp only [Bool.and_eq_true] at n
  exact ⟨by rw [f.v n.1]; exact h.1, by rw [f.fe n.2]; exact h.2⟩
theorem EV.fr {F : List (Nat × Nat × Nat)} {b : Bool} {μ μ' : Mem} {R : List Fm} (h : EV μ R) (f : Fr F b μ μ') (n : nE F = true) : EV μ' R := by
  unfold nE at n
  simp only [Bool.and_eq_true] at n
  exact ⟨by rw [f.v n.1]; exact h.1, h.2.1, by rw [f.fe n.2]; exact h.2.2⟩
def Vw (μ : Mem) (L : List Act) (cs : List Nat) (R : List Fm) : Prop := IM μ ∧ HI μ ∧ AV μ L ∧ CV μ cs ∧ EV μ R
theorem Vw.fr {F : List (Nat × Nat × Nat)} {b : Bool} {μ μ' : Mem} {L : List Act} {cs : List Nat} {R : List Fm} (h : Vw μ L cs R) (hI : IM μ') (f : Fr F b μ μ') (n : (nh F && nA F && nC F && nE F) = true) : Vw μ' L cs R := by
  simp only [Bool.and_eq_true] at n
  exact ⟨hI, h.2.1.fr f n.1.1.1, h.2.2.1.fr f n.1.1.2, h.2.2.2.1.fr f n.1.2, h.2.2.2.2.fr f n.2⟩
def frPu : List (Nat × Nat × Nat) := [(0, 0, 65), (1, 37, 0), (1, 38, 0), (1, 39, 0)]
def frCo : List (Nat × Nat × Nat) := [(0, 0, 66), (1, 40, 0)]
theorem v_push {μ : Mem} {L : List Act} {cs : List Nat} {R : List Fm} (h : Vw μ L cs R) (hl : L.length < 6000) {a1 a2 a3 : Int32} {w a : Nat} {b : Int} (h1 : a1.toInt = (w : Int)) (h2 : a2.toInt = (a : Int)) (h3 : a3.toInt = b) : ok (p_X12_push a1 a2 a3 μ) (fun q => Fr frPu true μ q ∧ Vw q ((w, a, b) :: L) cs R) := by
  obtain ⟨hI, hH, ⟨n1, n2⟩, hC, hE⟩ := h
  refine ok_mono (ok_pk (k_X12_push a1 a2 a3 μ hI (by omega)) (Q := fun q => q = sF (sF (sF (sF μ 37 L.length a1) 38 L.length a2) 39 L.length a3) 0 65 (μ.1 0 65 + 1)) ?_) ?_
  · rw [p_X12_push_eq]
    have : (μ.1 0 65).toNatClampNeg = L.length := tn_of n1
    refine pk_gd fun _ => pk_bv (pk_gd fun _ => pk_bv (pk_gd fun _ => pk_bv (pk_bv (pk_some ?_))))
    show sF (sF (sF (sF μ 37 (μ.1 0 65).toNatClampNeg a1) 38 (μ.1 0 65).toNatClampNeg a2) 39 (μ.1 0 65).toNatClampNeg a3) 0 65 (μ.1 0 65 + 1) = _
    rw [this]
  · rintro q ⟨⟨c1, c2, c3⟩, e⟩
    refine ⟨c2, c1, hH.fr c2 (by decide +kernel), ⟨by rw [c3, n1]; simp, ?_, ?_, ?_, ?_⟩, hC.fr c2 (by decide +kernel), hE.fr c2 (by decide +kernel)⟩
    · rw [e]; unfold iv
      rw [sF_i (by decide), sF_i (by decide), sF_i (by decide), sF_v]; exact h1
    · rw [e]; unfold iv
      rw [sF_i (by decide), sF_i (by decide), sF_v]; exact h2
    · rw [e]; unfold iv
      rw [sF_i (by decide), sF_v]; exact h3
    · refine n2.cong (fun i hi => ?_)
      rw [e]; unfold iv
      refine ⟨?_, ?_, ?_⟩
      · rw [sF_i (by decide), sF_i (by decide), sF_i (by decide), sF_k (by omega)]
      · rw [sF_i (by decide), sF_i (by decide), sF_k (by omega), sF_i (by decide)]
      · rw [sF_i (by decide), sF_k (by omega), sF_i (by decide), sF_i (by decide)]
theorem v_come {μ : Mem} {L : List Act} {cs : List Nat} {R : List Fm} (h : Vw μ L cs R) (hl : cs.length < 6000) {a : Int32} {x : Nat} (h1 : a.toInt = (x : Int)) (hx : x < nv μ 56) : ok (p_X12_come a μ) (fun q => Fr frCo true μ q ∧ Vw q L (x :: cs) R) := by
  obtain ⟨hI, hH, hA, ⟨n1, n2⟩, hE⟩ := h
  have ehp := hp_nv hI
  have g56 := rgm_0_56 hI
  refine ok_mono (ok_pk (k_X12_come a μ hI (by omega)) (Q := fun q => q = sF (sF μ 40 cs.length a) 0 66 (μ.1 0 66 + 1)) ?_) ?_
  · rw [p_X12_come_eq]
    have : (μ.1 0 66).toNatClampNeg = cs.length := tn_of n1
    rw [this]
    exact pk_gd fun _ => pk_bv (pk_bv (pk_some rfl))
  · rintro q ⟨⟨c1, c2, c3⟩, e⟩
    refine ⟨c2, c1, hH.fr c2 (by decide +kernel), hA.fr c2 (by decide +kernel), ⟨by rw [c3, n1]; simp, ?_, ?_⟩, hE.fr c2 (by decide +kernel)⟩
    · rw [e]; unfold iv
      rw [sF_i (by decide), sF_v]; exact h1
    · refine n2.cong (fun i hi => ?_)
      rw [e]; unfold iv
      rw [sF_i (by decide), sF_k (by omega)]
theorem v_gone {μ : Mem} {L : List Act} {cs : List Nat} {R : List Fm} {x : Nat} (h : Vw μ L (x :: cs) R) : ok (p_X12_gone μ) (fun q => q.1.toInt = (x : Int) ∧ Fr [(0, 0, 66)] true μ q.2 ∧ Vw q.2 L cs R) := by
  obtain ⟨hI, hH, hA, ⟨n1, n2, n3⟩, hE⟩ := h
  have hl : (μ.1 0 66).toInt = (cs.length : Int) + 1 := by rw [n1]; simp
  have g := rgm_0_66 hI
  have e1 : (1 : Int32).toInt = 1 := by decide
  have t1 : (μ.1 0 66 - 1).toInt = (cs.length : Int) := by rw [ti_sub (by omega) (by omega), e1]; omega
  have m1 : (μ.1 0 66 - 1).toNatClampNeg = cs.length := tn_of t1
  refine ok_mono (ok_pk (k_X12_gone μ hI (by omega)) (Q := fun q => q.1 = μ.1 40 cs.length ∧ q.2 = sF μ 0 66 (μ.1 0 66 - 1)) ?_) ?_
  · rw [p_X12_gone_eq]
    refine pk_bv (pk_gd fun _ => pk_some ⟨?_, rfl⟩)
    show (sF μ 0 66 (μ.1 0 66 - 1)).1 40 ((sF μ 0 66 (μ.1 0 66 - 1)).1 0 66).toNatClampNeg = _
    rw [sF_v, m1]; rfl
  · rintro ⟨r, μ'⟩ ⟨⟨c1, c2, c3, _⟩, e, e2⟩
    have e : r = μ.1 40 cs.length := e
    have e2 : μ' = sF μ 0 66 (μ.1 0 66 - 1) := e2
    have c2 : Fr [(0, 0, 66)] true μ μ' := c2
    refine ⟨by show r.toInt = _; rw [e]; exact n2, c2, c1, hH.fr c2 (by decide +kernel), hA.fr c2 (by decide +kernel), ⟨?_, ?_⟩, hE.fr c2 (by decide +kernel)⟩
    · show (μ'.1 0 66).toInt = _
      rw [e2, sF_v]; exact t1
    · refine n3.cong (fun i _ => ?_)
      show iv μ' 40 i = _
      rw [e2]; rfl
theorem v_node {μ : Mem} {L : List Act} {cs : List Nat} {R : List Fm} (h : Vw μ L cs R) {s b : Int32} (hs : s.toInt = 0 ∨ s.toInt = 1 ∨ s.toInt = 3) (hh : nv μ 56 < 100000) : ok (p_X12_node s b μ) (fun q => q.1.toInt = (nv μ 56 : Int) ∧ Fr frN true μ q.2 ∧ Gr μ q.2 ∧ Vw q.2 L cs R ∧ nv q.2 56 = nv μ 56 + 1 ∧ iv q.2 30 (nv μ 56) = s.toInt ∧ iv q.2 31 (nv μ 56) = b.toInt ∧ iv q.2 33 (nv μ 56) = 1) := by
  obtain ⟨hI, hH, hA, hC, hE⟩ := h
  refine ok_mono (t_node hI hH hs hh) ?_
  rintro q ⟨h1, h2, h3, h4, h5, h6, h7, h8, h9⟩
  exact ⟨h1, h3, h5, ⟨h2, h4, hA.fr h3 (by decide +kernel), hC.fr h3 (by decide +kernel), hE.fr h3 (by decide +kernel)⟩, h6, h7, h8, h9⟩
theorem v_pair {μ : Mem} {L : List Act} {cs : List Nat} {R : List Fm} (h : Vw μ L cs R) {a1 a2 : Int32} {x y : Nat} (h1 : a1.toInt = (x : Int)) (h2 : a2.toInt = (y : Int)) (hx : x < nv μ 56) (hy : y < nv μ 56) (hw : iv μ 33 x + iv μ 33 y ≤ 100000) (hh : nv μ 56 < 100000) : ok (p_X12_pair a1 a2 μ) (fun q => q.1.toInt = (nv μ 56 : Int) ∧ Fr frN true μ q.2 ∧ Gr μ q.2 ∧ Vw q.2 L cs R ∧ nv q.2 56 = nv μ 56 + 1 ∧ iv q.2 30 (nv μ 56) = 2 ∧ iv q.2 31 (nv μ 56) = (x : Int) ∧ iv q.2 32 (nv μ 56) = (y : Int) ∧ iv q.2 33 (nv μ 56) = 1 + iv μ 33 x + iv μ 33 y) := by
  obtain ⟨hI, hH, hA, hC, hE⟩ := h
  refine ok_mono (t_pair hI hH h1 h2 hx hy hw hh) ?_
  rintro q ⟨h1, h2, h3, h4, h5, h6, h7, h8, h9, h10⟩
  exact ⟨h1, h3, h5, ⟨h2, h4, hA.fr h3 (by decide +kernel), hC.fr h3 (by decide +kernel), hE.fr h3 (by decide +kernel)⟩, h6, h7, h8, h9, h10⟩
theorem v_given {μ : Mem} {L : List Act} {cs : List Nat} {R : List Fm} (h : Vw μ L cs R) (hs : (μ.1 0 0).toInt = 0 ∨ (μ.1 0 0).toInt = 1) (hh : nv μ 56 < 100000) : ok (p_X12_given μ) (fun q => q.1.toInt = (nv μ 56 : Int) ∧ Fr frN true μ q.2 ∧ Gr μ q.2 ∧ Vw q.2 L cs R ∧ nv q.2 56 = nv μ 56 + 1 ∧ (iv q.2 30 (nv μ 56) = 0 ∨ iv q.2 30 (nv μ 56) = 1) ∧ iv q.2 33 (nv μ 56) = 1) := by
  rw [p_X12_given_eq]
  refine ok_bd (v_node h (s := μ.1 0 0) (b := μ.1 0 1) (by omega) hh) ?_
  rintro r μ1 ⟨h1, h2, h3, h4, h5, h6, h7, h8⟩
  have h6 : iv μ1 30 (nv μ 56) = (μ.1 0 0).toInt := h6
  exact ok_some ⟨h1, h2, h3, h4, h5, by show iv μ1 30 _ = _ ∨ _; omega, h8⟩
