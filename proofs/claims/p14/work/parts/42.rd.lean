/-! WHERE THE READER STANDS: what is begun, and how much of each is read -/
def Sg (S : Nat → Nat) : Nat → Prop := fun u => 0 < S u
def Sa (S : Nat → Nat) (v : Nat) : Nat → Nat := fun u => if u = v then S u + 1 else S u
def Kq (t w : Int) (k : Nat) : Prop := (t = 7 ∧ k = 3) ∨ (Kd t w k ∧ t ≠ 12)
def Dx (th wo be : Nat → Int) (S1 : Nat → Nat) (o n pos : Nat) (S : Nat → Nat) : Prop :=
  (∃ v : Nat, th o = 11 ∧ be o = 2 ∧ wo o = (v : Int) ∧ v < 14 ∧ ((n = 0 ∧ pos = o + 1 ∧ S = S1) ∨ (n = 1 ∧ Fo th wo be (Sg S1) 1 (o + 1) pos ∧ S = Sa S1 v)))
  ∨ (th o = 12 ∧ n ≤ 4 ∧ Fo th wo be (Sg S1) n (o + 1) pos ∧ S = S1)
  ∨ (∃ k : Nat, Kq (th o) (wo o) k ∧ be o = (k : Int) ∧ n < k ∧ Fo th wo be (Sg S1) n (o + 1) pos ∧ S = S1)
def Cy (th wo be op ha : Nat → Int) (b : Nat) (S0 : Nat → Nat) : Nat → Nat → (Nat → Nat) → Prop
  | 0, pos, S => pos = b ∧ S = S0
  | j + 1, pos, S => ∃ (S1 : Nat → Nat) (o n : Nat), op j = (o : Int) ∧ ha j = (n : Int) ∧ o < pos ∧ Cy th wo be op ha b S0 j o S1 ∧ Dx th wo be S1 o n pos S
theorem Dx.cong {th wo be th2 wo2 be2 : Nat → Int} {S1 S : Nat → Nat} {o n pos : Nat} (ho : o < pos) (h : Dx th wo be S1 o n pos S) (c : ∀ i, i < pos → th2 i = th i ∧ wo2 i = wo i ∧ be2 i = be i) : Dx th2 wo2 be2 S1 o n pos S := by
  obtain ⟨c1, c2, c3⟩ := c o ho
  rcases h with ⟨v, a1, a2, a3, a4, h⟩ | ⟨a1, a2, a3, a4⟩ | ⟨k, a1, a2, a3, a4, a5⟩
  · refine Or.inl ⟨v, by rw [c1]; exact a1, by rw [c3]; exact a2, by rw [c2]; exact a3, a4, ?_⟩
    rcases h with h | ⟨b1, b2, b3⟩
    · exact Or.inl h
    · exact Or.inr ⟨b1, b2.cong (fun j _ hj => c j hj), b3⟩
  · exact Or.inr (Or.inl ⟨by rw [c1]; exact a1, a2, a3.cong (fun j _ hj => c j hj), a4⟩)
  · exact Or.inr (Or.inr ⟨k, by rw [c1, c2]; exact a1, by rw [c3]; exact a2, a3, a4.cong (fun j _ hj => c j hj), a5⟩)
theorem Cy.cong {th wo be op ha th2 wo2 be2 op2 ha2 : Nat → Int} {b : Nat} {S0 : Nat → Nat} : ∀ (j : Nat) {pos : Nat} {S : Nat → Nat}, Cy th wo be op ha b S0 j pos S → (∀ i, i < pos → th2 i = th i ∧ wo2 i = wo i ∧ be2 i = be i) → (∀ i, i < j → op2 i = op i ∧ ha2 i = ha i) → Cy th2 wo2 be2 op2 ha2 b S0 j pos S := by
  intro j
  induction j with
  | zero => intro pos S h _ _; exact h
  | succ j ih =>
    intro pos S h c d
    obtain ⟨S1, o, n, h1, h2, h3, h4, h5⟩ := h
    obtain ⟨d1, d2⟩ := d j (by omega)
    exact ⟨S1, o, n, by rw [d1]; exact h1, by rw [d2]; exact h2, h3, ih h4 (fun i hi => c i (by omega)) (fun i hi => d i (by omega)), h5.cong h3 c⟩
theorem Cy.bnd {th wo be op ha : Nat → Int} {b : Nat} {S0 : Nat → Nat} (h0 : ∀ u, S0 u ≤ 1) : ∀ (j : Nat) {pos : Nat} {S : Nat → Nat}, Cy th wo be op ha b S0 j pos S → ∀ u, S u ≤ 1 + j := by
  intro j
  induction j with
  | zero => intro pos S h u; rw [h.2]; have := h0 u; omega
  | succ j ih =>
    intro pos S h u
    obtain ⟨S1, o, n, _, _, _, h4, h5⟩ := h
    have h6 := ih h4 u
    rcases h5 with ⟨v, _, _, _, _, ⟨_, _, rfl⟩ | ⟨_, _, rfl⟩⟩ | ⟨_, _, _, rfl⟩ | ⟨_, _, _, _, _, rfl⟩
    · omega
    · unfold Sa; split <;> omega
    · omega
    · omega
/-- a field as a Nat -/
def nv (μ : Mem) (k : Nat) : Nat := (μ.1 0 k).toNatClampNeg
/-- what lies ahead of b stays as it was in μ0 -/
def Kp (μ0 μ : Mem) (b : Nat) : Prop := ∀ i, i < b → iv μ 16 i = iv μ0 16 i ∧ iv μ 17 i = iv μ0 17 i ∧ iv μ 18 i = iv μ0 18 i
def Px (μ0 μ : Mem) (b : Nat) (S0 : Nat → Nat) (pos : Nat) (S : Nat → Nat) : Prop :=
  Cy (iv μ 16) (iv μ 17) (iv μ 18) (iv μ 19) (iv μ 20) b S0 (nv μ 32) pos S ∧ (∀ u, u < 14 → iv μ 21 u = (S u : Int)) ∧ 0 ≤ (μ.1 0 32).toInt ∧ 0 ≤ (μ.1 0 28).toInt ∧ Kp μ0 μ b
/-- a thing is to come -/
def Ex (μ0 μ : Mem) (b : Nat) (S0 : Nat → Nat) : Prop := ∃ S, Px μ0 μ b S0 (nv μ 28) S
/-- a thing is whole -/
def Wh (μ0 μ : Mem) (b : Nat) (S0 : Nat → Nat) : Prop := ∃ pos S, Px μ0 μ b S0 pos S ∧ Fo (iv μ 16) (iv μ 17) (iv μ 18) (Sg S) 1 pos (nv μ 28)
theorem nv_inc {x : Int32} {n : Nat} (h : inb x n = true) (hn : n ≤ 1000000) : (x + 1).toNatClampNeg = x.toNatClampNeg + 1 ∧ 0 ≤ (x + 1).toInt := by
  have h1 := inb_iff.mp h
  have e1 : (1 : Int32).toInt = 1 := by decide
  have e2 : (x + 1).toInt = x.toInt + 1 := by rw [ti_add (by omega) (by omega), e1]
  have e3 := ti_nat (a := x) (by omega)
  have e4 := ti_nat (a := x + 1) (by omega)
  omega
theorem ly_16 (μ : Mem) (s v k : Int32) (j : Nat) : iv (Ly μ s v k) 16 j = if j = nv μ 28 then s.toInt else iv μ 16 j := by
  unfold iv Ly nv
  rw [sF_i (by decide), sF_i (by decide), sF_i (by decide), sF_1, if_pos rfl]
  split <;> rfl
theorem ly_17 (μ : Mem) (s v k : Int32) (j : Nat) : iv (Ly μ s v k) 17 j = if j = nv μ 28 then v.toInt else iv μ 17 j := by
  unfold iv Ly nv
  rw [sF_i (by decide), sF_i (by decide), sF_1, if_pos rfl, sF_i (by decide)]
  split <;> rfl
theorem ly_18 (μ : Mem) (s v k : Int32) (j : Nat) : iv (Ly μ s v k) 18 j = if j = nv μ 28 then k.toInt else iv μ 18 j := by
  unfold iv Ly nv
  rw [sF_i (by decide), sF_1, if_pos rfl, sF_i (by decide), sF_i (by decide)]
  split <;> rfl
theorem ly_o (μ : Mem) (s v k : Int32) {c : Nat} (h : c ≠ 0 ∧ c ≠ 16 ∧ c ≠ 17 ∧ c ≠ 18) (j : Nat) : iv (Ly μ s v k) c j = iv μ c j := by
  unfold iv Ly
  rw [sF_i h.1, sF_i h.2.2.2, sF_i h.2.2.1, sF_i h.2.1]
theorem ly_28 (μ : Mem) (s v k : Int32) : (Ly μ s v k).1 0 28 = μ.1 0 28 + 1 := by unfold Ly; rw [sF_v]
theorem ly_32 (μ : Mem) (s v k : Int32) : (Ly μ s v k).1 0 32 = μ.1 0 32 := by unfold Ly; rfl
theorem opn_19 (μ : Mem) (j : Nat) : iv (Opn μ) 19 j = if j = nv μ 32 then (μ.1 0 28 - 1).toInt else iv μ 19 j := by
  unfold iv Opn nv
  rw [sF_i (by decide), sF_i (by decide), sF_1, if_pos rfl]
  split <;> rfl
theorem opn_20 (μ : Mem) (j : Nat) : iv (Opn μ) 20 j = if j = nv μ 32 then 0 else iv μ 20 j := by
  unfold iv Opn nv
  rw [sF_i (by decide), sF_1, if_pos rfl, sF_i (by decide)]
  split
  · decide
  · rfl
theorem opn_o (μ : Mem) {c : Nat} (h : c ≠ 0 ∧ c ≠ 19 ∧ c ≠ 20) (j : Nat) : iv (Opn μ) c j = iv μ c j := by
  unfold iv Opn
  rw [sF_i h.1, sF_i h.2.2, sF_i h.2.1]
theorem opn_28 (μ : Mem) : (Opn μ).1 0 28 = μ.1 0 28 := rfl
theorem opn_32 (μ : Mem) : (Opn μ).1 0 32 = μ.1 0 32 + 1 := by unfold Opn; rw [sF_v]
theorem Fs.ivq {μ μ' : Mem} (h : Fs μ μ') {c : Nat} (hc : c ≠ 0) (k : Nat) : iv μ' c k = iv μ c k := congrArg Int32.toInt (h.a hc k)
theorem Fs.px {μ0 μ μ' : Mem} (h : Fs μ μ') {b pos : Nat} {S0 S : Nat → Nat} (p : Px μ0 μ b S0 pos S) : Px μ0 μ' b S0 pos S := by
  have e32 : μ'.1 0 32 = μ.1 0 32 := h.f (by decide) (by decide) (by decide) (by decide)
  have e28 : μ'.1 0 28 = μ.1 0 28 := h.f (by decide) (by decide) (by decide) (by decide)
  obtain ⟨p1, p2, p3, p4, p5⟩ := p
  refine ⟨?_, fun u hu => by rw [h.ivq (by decide)]; exact p2 u hu, by rw [e32]; exact p3, by rw [e28]; exact p4, fun i hi => by rw [h.ivq (by decide), h.ivq (by decide), h.ivq (by decide)]; exact p5 i hi⟩
  have en : nv μ' 32 = nv μ 32 := by unfold nv; rw [e32]
  rw [en]
  exact p1.cong _ (fun i _ => ⟨h.ivq (by decide) i, h.ivq (by decide) i, h.ivq (by decide) i⟩) (fun i _ => ⟨h.ivq (by decide) i, h.ivq (by decide) i⟩)
theorem Fs.fo {μ μ' : Mem} (h : Fs μ μ') {S : Nat → Prop} {n p q : Nat} (f : Fo (iv μ 16) (iv μ 17) (iv μ 18) S n p q) : Fo (iv μ' 16) (iv μ' 17) (iv μ' 18) S n p q :=
  f.cong (fun j _ _ => ⟨h.ivq (by decide) j, h.ivq (by decide) j, h.ivq (by decide) j⟩)
theorem Fs.ex {μ0 μ μ' : Mem} (h : Fs μ μ') {b : Nat} {S0 : Nat → Nat} (p : Ex μ0 μ b S0) : Ex μ0 μ' b S0 := by
  obtain ⟨S, p⟩ := p
  have e28 : μ'.1 0 28 = μ.1 0 28 := h.f (by decide) (by decide) (by decide) (by decide)
  refine ⟨S, ?_⟩
  have en : nv μ' 28 = nv μ 28 := by unfold nv; rw [e28]
  rw [en]; exact h.px p
theorem Fs.wh {μ0 μ μ' : Mem} (h : Fs μ μ') {b : Nat} {S0 : Nat → Nat} (p : Wh μ0 μ b S0) : Wh μ0 μ' b S0 := by
  obtain ⟨pos, S, p, f⟩ := p
  have e28 : μ'.1 0 28 = μ.1 0 28 := h.f (by decide) (by decide) (by decide) (by decide)
  refine ⟨pos, S, h.px p, ?_⟩
  have en : nv μ' 28 = nv μ 28 := by unfold nv; rw [e28]
  rw [en]; exact h.fo f
theorem Cy.ble {th wo be op ha : Nat → Int} {b : Nat} {S0 : Nat → Nat} : ∀ (j : Nat) {pos : Nat} {S : Nat → Nat}, Cy th wo be op ha b S0 j pos S → b ≤ pos := by
  intro j
  induction j with
  | zero => intro pos S h; rw [h.1]; exact Nat.le_refl _
  | succ j ih => intro pos S h; obtain ⟨S1, o, n, _, _, h3, h4, _⟩ := h; have := ih h4; omega
theorem ex_thing {μ0 μ : Mem} {b : Nat} {S0 : Nat → Nat} {r : Int32 × Mem} (h : Ex μ0 μ b S0) (t : Rt μ r) : r.1 = 0 ∨ (r.1 = 1 ∧ (((r.2.1 0 32).toInt = (μ.1 0 32).toInt ∧ Wh μ0 r.2 b S0) ∨ ((r.2.1 0 32).toInt = (μ.1 0 32).toInt + 1 ∧ Ex μ0 r.2 b S0))) := by
  rcases t with t | ⟨t1, hi, s, v, k, t⟩
  · exact Or.inl t
  refine Or.inr ⟨t1, ?_⟩
  obtain ⟨S, p1, p2, p3, p4, p5⟩ := h
  have hble := Cy.ble _ p1
  have hn := nv_inc hi (by decide)
  have hN : nv (Ly μ s v k) 28 = nv μ 28 + 1 := by unfold nv; rw [ly_28]; exact hn.1
  have hP : Px μ0 (Ly μ s v k) b S0 (nv μ 28) S := by
    refine ⟨?_, fun u hu => by rw [ly_o _ _ _ _ (by decide)]; exact p2 u hu, by rw [ly_32]; exact p3, by rw [ly_28]; exact hn.2, fun i hi => ?_⟩
    rotate_left
    · rw [ly_16, if_neg (by omega), ly_17, if_neg (by omega), ly_18, if_neg (by omega)]; exact p5 i hi
    have en : nv (Ly μ s v k) 32 = nv μ 32 := by unfold nv; rw [ly_32]
    rw [en]
    refine p1.cong _ (fun i hi => ⟨?_, ?_, ?_⟩) (fun i _ => ⟨ly_o _ _ _ _ (by decide) i, ly_o _ _ _ _ (by decide) i⟩)
    · rw [ly_16, if_neg (by omega)]
    · rw [ly_17, if_neg (by omega)]
    · rw [ly_18, if_neg (by omega)]
  have h16 : iv (Ly μ s v k) 16 (nv μ 28) = s.toInt := by rw [ly_16, if_pos rfl]
  have h17 : iv (Ly μ s v k) 17 (nv μ 28) = v.toInt := by rw [ly_17, if_pos rfl]
  have h18 : iv (Ly μ s v k) 18 (nv μ 28) = k.toInt := by rw [ly_18, if_pos rfl]
  rcases t with ⟨⟨hk, hl⟩, hF⟩ | ⟨hj, hof, hF⟩ | ⟨hj, rfl, rfl, hF⟩
  · left
    have e32 : r.2.1 0 32 = (Ly μ s v k).1 0 32 := hF.f (by decide) (by decide) (by decide) (by decide)
    refine ⟨by rw [e32, ly_32], hF.wh ⟨nv μ 28, S, hP, ?_⟩⟩
    rw [hN]
    have hb : iv (Ly μ s v k) 18 (nv μ 28) = 0 := by rw [h18, hk]; decide
    rcases hl with hl | hl | ⟨hl, l1, l2, l3⟩ | ⟨hl, l1, l2⟩
    · exact Fo.num (Or.inl (by rw [h16]; exact hl)) hb Fo.nil
    · exact Fo.num (Or.inr (by rw [h16]; exact hl)) hb Fo.nil
    · have hv := ti_nat (a := v) l1
      refine Fo.var (v := v.toNatClampNeg) (by rw [h16, hl]; decide) (by rw [h17]; omega) (by omega) ?_ hb Fo.nil
      have h3 := p2 v.toNatClampNeg (by omega)
      have h4 : iv μ 21 v.toNatClampNeg ≠ 0 := i32_0 l3
      show 0 < S v.toNatClampNeg
      omega
    · refine Fo.op (k := 0) (Or.inr (Or.inr (Or.inr (Or.inr (Or.inr (Or.inl ⟨by rw [h16, hl]; decide, rfl, ?_⟩)))))) hb Fo.nil Fo.nil
      rw [h17]; exact ⟨l1, l2⟩
  · right
    have hm := nv_inc hj (by decide)
    have hji := inb_iff.mp hj
    have hni := inb_iff.mp hi
    have e1 : (1 : Int32).toInt = 1 := by decide
    have e32 : r.2.1 0 32 = (Opn (Ly μ s v k)).1 0 32 := hF.f (by decide) (by decide) (by decide) (by decide)
    refine ⟨by rw [e32, opn_32, ly_32, ti_add (by omega) (by omega), e1], hF.ex ⟨S, ?_⟩⟩
    have e28 : nv (Opn (Ly μ s v k)) 28 = nv μ 28 + 1 := hN
    have e32n : nv (Opn (Ly μ s v k)) 32 = nv μ 32 + 1 := by unfold nv; rw [opn_32, ly_32]; exact hm.1
    have e32l : nv (Ly μ s v k) 32 = nv μ 32 := by unfold nv; rw [ly_32]
    rw [e28]
    refine ⟨?_, fun u hu => by rw [opn_o _ (by decide)]; exact hP.2.1 u hu, by rw [opn_32, ly_32]; exact hm.2, by rw [opn_28]; exact hP.2.2.2.1, fun i hi => by rw [opn_o _ (by decide), opn_o _ (by decide), opn_o _ (by decide)]; exact hP.2.2.2.2 i hi⟩
    rw [e32n]
    have hc : ∀ i, iv (Opn (Ly μ s v k)) 16 i = iv (Ly μ s v k) 16 i ∧ iv (Opn (Ly μ s v k)) 17 i = iv (Ly μ s v k) 17 i ∧ iv (Opn (Ly μ s v k)) 18 i = iv (Ly μ s v k) 18 i := fun i => ⟨opn_o _ (by decide) i, opn_o _ (by decide) i, opn_o _ (by decide) i⟩
    have hN3 := ti_nat (a := μ.1 0 28) (by omega)
    refine ⟨S, nv μ 28, 0, ?_, ?_, by omega, ?_, ?_⟩
    · rw [opn_19, if_pos (by rw [e32l]), ly_28]
      have e2 : (μ.1 0 28 + 1).toInt = (μ.1 0 28).toInt + 1 := by rw [ti_add (by omega) (by omega), e1]
      rw [ti_sub (by omega) (by omega), e1, e2]
      show _ = ((μ.1 0 28).toNatClampNeg : Int)
      omega
    · rw [opn_20, if_pos (by rw [e32l])]; rfl
    · have h1 := hP.1
      rw [e32l] at h1
      refine h1.cong _ (fun i _ => hc i) (fun i hi => ⟨?_, ?_⟩)
      · rw [opn_19, if_neg (by rw [e32l]; omega)]
      · rw [opn_20, if_neg (by rw [e32l]; omega)]
    · have g16 := (hc (nv μ 28)).1.trans h16
      have g17 := (hc (nv μ 28)).2.1.trans h17
      have g18 := (hc (nv μ 28)).2.2.trans h18
      have mk : ∀ kk : Nat, k.toInt = (kk : Int) → 0 < kk → Kq s.toInt v.toInt kk → Dx (iv (Opn (Ly μ s v k)) 16) (iv (Opn (Ly μ s v k)) 17) (iv (Opn (Ly μ s v k)) 18) S (nv μ 28) 0 (nv μ 28 + 1) S := fun kk h1 h2 h3 => Or.inr (Or.inr ⟨kk, by rw [g16, g17]; exact h3, by rw [g18]; exact h1, h2, Fo.nil, rfl⟩)
      rcases hof with ⟨rfl, rfl⟩ | ⟨rfl, rfl, w1, w2⟩ | ⟨rfl, rfl⟩ | ⟨rfl, rfl, w1, w2⟩ | ⟨rfl, rfl⟩ | ⟨rfl, rfl⟩ | ⟨rfl, rfl, w1, w2⟩ | ⟨rfl, rfl⟩
      · exact mk 1 (by decide) (by decide) (Or.inr ⟨Or.inr (Or.inr (Or.inr (Or.inl ⟨by decide, rfl⟩))), by decide⟩)
      · exact mk 1 (by decide) (by decide) (Or.inr ⟨Or.inr (Or.inr (Or.inr (Or.inr (Or.inl ⟨by decide, rfl, w1, w2⟩)))), by decide⟩)
      · exact mk 2 (by decide) (by decide) (Or.inr ⟨Or.inl ⟨by decide, rfl⟩, by decide⟩)
      · have hv := ti_nat (a := v) w1
        exact Or.inl ⟨v.toNatClampNeg, by rw [g16]; decide, by rw [g18]; decide, by rw [g17]; omega, by omega, Or.inl ⟨rfl, rfl, rfl⟩⟩
      · exact mk 3 (by decide) (by decide) (Or.inl ⟨by decide, rfl⟩)
      · exact mk 2 (by decide) (by decide) (Or.inr ⟨Or.inr (Or.inr (Or.inl ⟨by decide, rfl⟩)), by decide⟩)
      · exact mk 1 (by decide) (by decide) (Or.inr ⟨Or.inr (Or.inl ⟨by decide, rfl, w1, w2⟩), by decide⟩)
      · exact Or.inr (Or.inl ⟨by rw [g16]; decide, by omega, Fo.nil, rfl⟩)
  · left
    have hji := inb_iff.mp hj
    have e1 : (1 : Int32).toInt = 1 := by decide
    have e32 : r.2.1 0 32 = (sF (Opn (Ly μ 12 v 0)) 0 32 (μ.1 0 32 + 1 - 1)).1 0 32 := hF.f (by decide) (by decide) (by decide) (by decide)
    have eb : (μ.1 0 32 + 1 - 1).toInt = (μ.1 0 32).toInt := by
      have e2 : (μ.1 0 32 + 1).toInt = (μ.1 0 32).toInt + 1 := by rw [ti_add (by omega) (by omega), e1]
      rw [ti_sub (by omega) (by omega), e1, e2]; omega
    have eb2 : μ.1 0 32 + 1 - 1 = μ.1 0 32 := ti_eq.mpr eb
    rw [eb2] at hF e32
    refine ⟨by rw [e32, sF_v], hF.wh ⟨nv μ 28, S, ?_, ?_⟩⟩
    · have e32l : nv (sF (Opn (Ly μ 12 v 0)) 0 32 (μ.1 0 32)) 32 = nv μ 32 := by unfold nv; rw [sF_v]
      have oc : ∀ (c : Nat), c ≠ 0 → ∀ i, iv (sF (Opn (Ly μ 12 v 0)) 0 32 (μ.1 0 32)) c i = iv (Opn (Ly μ 12 v 0)) c i := fun c hc i => by unfold iv; rw [sF_i hc]
      refine ⟨?_, fun u hu => by rw [oc _ (by decide), opn_o _ (by decide)]; exact hP.2.1 u hu, by rw [sF_v]; exact p3, hP.2.2.2.1, fun i hi => by rw [oc _ (by decide), oc _ (by decide), oc _ (by decide), opn_o _ (by decide), opn_o _ (by decide), opn_o _ (by decide)]; exact hP.2.2.2.2 i hi⟩
      rw [e32l]
      have h1 := hP.1
      have e32k : nv (Ly μ 12 v 0) 32 = nv μ 32 := by unfold nv; rw [ly_32]
      rw [e32k] at h1
      refine h1.cong _ (fun i _ => ⟨?_, ?_, ?_⟩) (fun i hi => ⟨?_, ?_⟩)
      · rw [oc _ (by decide), opn_o _ (by decide)]
      · rw [oc _ (by decide), opn_o _ (by decide)]
      · rw [oc _ (by decide), opn_o _ (by decide)]
      · rw [oc _ (by decide), opn_19, if_neg (by rw [e32k]; omega)]
      · rw [oc _ (by decide), opn_20, if_neg (by rw [e32k]; omega)]
    · have oc : ∀ (c : Nat), c ≠ 0 → c ≠ 19 → c ≠ 20 → ∀ i, iv (sF (Opn (Ly μ 12 v 0)) 0 32 (μ.1 0 32)) c i = iv (Ly μ 12 v 0) c i := fun c hc h2 h3 i => by
        have : iv (sF (Opn (Ly μ 12 v 0)) 0 32 (μ.1 0 32)) c i = iv (Opn (Ly μ 12 v 0)) c i := by unfold iv; rw [sF_i hc]
        rw [this, opn_o _ ⟨hc, h2, h3⟩]
      have e28 : nv (sF (Opn (Ly μ 12 v 0)) 0 32 (μ.1 0 32)) 28 = nv μ 28 + 1 := hN
      rw [e28]
      refine Fo.op (k := 0) (Or.inr (Or.inr (Or.inr (Or.inr (Or.inr (Or.inr ⟨?_, by omega⟩)))))) ?_ Fo.nil Fo.nil
      · rw [oc _ (by decide) (by decide) (by decide), h16]; decide
      · rw [oc _ (by decide) (by decide) (by decide), h18]; decide
