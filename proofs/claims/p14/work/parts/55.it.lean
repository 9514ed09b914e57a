/-! INSTRUCTIONS ONE BEHIND ANOTHER, WITH BLOCKS -/
/-- an operand: a number, or a register of V -/
def Opd (μ : Mem) (OB : Nat) (V : Nat → Prop) (o : Nat) : Prop := o < OB ∧ ((iv μ 53 o = 0 ∨ iv μ 53 o = 1) ∨ (iv μ 53 o = 3 ∧ 0 ≤ iv μ 54 o ∧ V (iv μ 54 o).toNat))
def Vp (μ : Mem) (V : Nat → Prop) (p : Nat) : Nat → Prop := fun u => V u ∨ (iv μ 46 p ≠ 7 ∧ iv μ 47 p = (u : Int))
/-- an instruction without blocks -/
def Pl (μ : Mem) (OB NV : Nat) (V : Nat → Prop) (p : Nat) : Prop := (iv μ 46 p ≠ 7 → 0 ≤ iv μ 47 p ∧ iv μ 47 p < 320) ∧ 0 ≤ iv μ 52 p ∧ iv μ 52 p ≤ 8 ∧ ∃ o : Nat, iv μ 51 p = (o : Int) ∧
  ((iv μ 46 p = 7 ∧ Opd μ OB V o) ∨ iv μ 46 p = 12 ∨ (iv μ 46 p = 9 ∧ 0 ≤ iv μ 48 p ∧ iv μ 48 p < 8) ∨ (iv μ 46 p = 8 ∧ 0 ≤ iv μ 48 p ∧ iv μ 48 p < 8 ∧ Opd μ OB V o) ∨ (1 ≤ iv μ 46 p ∧ iv μ 46 p ≤ 5 ∧ Opd μ OB V o) ∨ ((iv μ 46 p = 0 ∨ iv μ 46 p = 10) ∧ Opd μ OB V o ∧ Opd μ OB V (o + 1) ∧ iv μ 52 p = 2)
  ∨ (iv μ 46 p = 11 ∧ ∃ v : Nat, iv μ 48 p = (v : Int) ∧ v < NV ∧ iv μ 52 p = iv μ 59 v ∧ ∀ k : Nat, (k : Int) < iv μ 52 p → Opd μ OB V (o + k)))
/-- the end of a block of p -/
def Mk (μ : Mem) (OB : Nat) (V : Nat → Prop) (k : Int) (p e : Nat) : Prop := iv μ 46 e = k ∧ iv μ 48 e = (p : Int) ∧ ∃ o : Nat, iv μ 51 e = (o : Int) ∧ Opd μ OB V o
def Ifx (μ : Mem) (OB : Nat) (V : Nat → Prop) (p : Nat) : Prop := iv μ 46 p = 6 ∧ ∃ o : Nat, iv μ 51 p = (o : Int) ∧ Opd μ OB V o
def Blo (μ : Mem) (OB : Nat) (NV : Nat) (x0 : Nat → Prop) (x1 : Nat) (x2 : Nat → Prop) (x3 : Nat) : Prop := ∀ P : (Nat → Prop) → (Nat) → (Nat → Prop) → (Nat) → Prop, (∀ (V : Nat → Prop) (b : Nat), P (V) (b) (V) (b)) → (∀ (V0 : Nat → Prop) (b : Nat) (V : Nat → Prop) (p : Nat), (P (V0) (b) (V) (p)) → (Pl μ OB NV V p) → P (V0) (b) (Vp μ V p) (p + 1)) → (∀ (V0 : Nat → Prop) (b : Nat) (V : Nat → Prop) (p : Nat) (Va : Nat → Prop) (e : Nat) (Vb : Nat → Prop) (n : Nat), (P (V0) (b) (V) (p)) → (Ifx μ OB V p) → (0 ≤ iv μ 47 p ∧ iv μ 47 p < 320) → (P (V) (p + 1) (Va) (e)) → (Mk μ OB Va 13 p e) → (iv μ 49 p = (e : Int)) → (P (V) (e + 1) (Vb) (n)) → (Mk μ OB Vb 14 p n) → (iv μ 50 p = (n : Int)) → P (V0) (b) (Vp μ V p) (n + 1)) →  P x0 x1 x2 x3
theorem Blo.nil {μ : Mem} {OB : Nat} {NV : Nat} {V : Nat → Prop} {b : Nat}  : Blo μ OB NV (V) (b) (V) (b) := fun P h_nil h_pl h_cho => h_nil V b 
theorem Blo.pl {μ : Mem} {OB : Nat} {NV : Nat} {V0 : Nat → Prop} {b : Nat} {V : Nat → Prop} {p : Nat} (a : Blo μ OB NV (V0) (b) (V) (p)) (h : Pl μ OB NV V p) : Blo μ OB NV (V0) (b) (Vp μ V p) (p + 1) := fun P h_nil h_pl h_cho => h_pl V0 b V p (a P h_nil h_pl h_cho) h
theorem Blo.cho {μ : Mem} {OB : Nat} {NV : Nat} {V0 : Nat → Prop} {b : Nat} {V : Nat → Prop} {p : Nat} {Va : Nat → Prop} {e : Nat} {Vb : Nat → Prop} {n : Nat} (a : Blo μ OB NV (V0) (b) (V) (p)) (hi : Ifx μ OB V p) (hr : 0 ≤ iv μ 47 p ∧ iv μ 47 p < 320) (x : Blo μ OB NV (V) (p + 1) (Va) (e)) (hx : Mk μ OB Va 13 p e) (hl : iv μ 49 p = (e : Int)) (y : Blo μ OB NV (V) (e + 1) (Vb) (n)) (hy : Mk μ OB Vb 14 p n) (hn : iv μ 50 p = (n : Int)) : Blo μ OB NV (V0) (b) (Vp μ V p) (n + 1) := fun P h_nil h_pl h_cho => h_cho V0 b V p Va e Vb n (a P h_nil h_pl h_cho) hi hr (x P h_nil h_pl h_cho) hx hl (y P h_nil h_pl h_cho) hy hn
theorem Blo.ind {μ : Mem} {OB : Nat} {NV : Nat} {M : (Nat → Prop) → (Nat) → (Nat → Prop) → (Nat) → Prop} (c_nil : ∀ (V : Nat → Prop) (b : Nat), M (V) (b) (V) (b)) (c_pl : ∀ (V0 : Nat → Prop) (b : Nat) (V : Nat → Prop) (p : Nat), (Blo μ OB NV (V0) (b) (V) (p)) → (M (V0) (b) (V) (p)) → (Pl μ OB NV V p) → M (V0) (b) (Vp μ V p) (p + 1)) (c_cho : ∀ (V0 : Nat → Prop) (b : Nat) (V : Nat → Prop) (p : Nat) (Va : Nat → Prop) (e : Nat) (Vb : Nat → Prop) (n : Nat), (Blo μ OB NV (V0) (b) (V) (p)) → (M (V0) (b) (V) (p)) → (Ifx μ OB V p) → (0 ≤ iv μ 47 p ∧ iv μ 47 p < 320) → (Blo μ OB NV (V) (p + 1) (Va) (e)) → (M (V) (p + 1) (Va) (e)) → (Mk μ OB Va 13 p e) → (iv μ 49 p = (e : Int)) → (Blo μ OB NV (V) (e + 1) (Vb) (n)) → (M (V) (e + 1) (Vb) (n)) → (Mk μ OB Vb 14 p n) → (iv μ 50 p = (n : Int)) → M (V0) (b) (Vp μ V p) (n + 1)) {x0 : Nat → Prop} {x1 : Nat} {x2 : Nat → Prop} {x3 : Nat} (h : Blo μ OB NV (x0) (x1) (x2) (x3)) : M (x0) (x1) (x2) (x3) := (h (fun x0 x1 x2 x3 => Blo μ OB NV (x0) (x1) (x2) (x3) ∧ M (x0) (x1) (x2) (x3)) (fun V b => ⟨Blo.nil , c_nil V b ⟩) (fun V0 b V p a h => ⟨Blo.pl a.1 h, c_pl V0 b V p a.1 a.2 h⟩) (fun V0 b V p Va e Vb n a hi hr x hx hl y hy hn => ⟨Blo.cho a.1 hi hr x.1 hx hl y.1 hy hn, c_cho V0 b V p Va e Vb n a.1 a.2 hi hr x.1 x.2 hx hl y.1 y.2 hy hn⟩)).2
theorem Blo.inv {μ : Mem} {OB : Nat} {NV : Nat} {x0 : Nat → Prop} {x1 : Nat} {x2 : Nat → Prop} {x3 : Nat} (h : Blo μ OB NV (x0) (x1) (x2) (x3)) : (∃ (V : Nat → Prop) (b : Nat), x0 = (V) ∧ x1 = (b) ∧ x2 = (V) ∧ x3 = (b)) ∨ (∃ (V0 : Nat → Prop) (b : Nat) (V : Nat → Prop) (p : Nat), x0 = (V0) ∧ x1 = (b) ∧ x2 = (Vp μ V p) ∧ x3 = (p + 1) ∧ (Blo μ OB NV (V0) (b) (V) (p)) ∧ (Pl μ OB NV V p)) ∨ (∃ (V0 : Nat → Prop) (b : Nat) (V : Nat → Prop) (p : Nat) (Va : Nat → Prop) (e : Nat) (Vb : Nat → Prop) (n : Nat), x0 = (V0) ∧ x1 = (b) ∧ x2 = (Vp μ V p) ∧ x3 = (n + 1) ∧ (Blo μ OB NV (V0) (b) (V) (p)) ∧ (Ifx μ OB V p) ∧ (0 ≤ iv μ 47 p ∧ iv μ 47 p < 320) ∧ (Blo μ OB NV (V) (p + 1) (Va) (e)) ∧ (Mk μ OB Va 13 p e) ∧ (iv μ 49 p = (e : Int)) ∧ (Blo μ OB NV (V) (e + 1) (Vb) (n)) ∧ (Mk μ OB Vb 14 p n) ∧ (iv μ 50 p = (n : Int))) := Blo.ind (M := fun x0 x1 x2 x3 => (∃ (V : Nat → Prop) (b : Nat), x0 = (V) ∧ x1 = (b) ∧ x2 = (V) ∧ x3 = (b)) ∨ (∃ (V0 : Nat → Prop) (b : Nat) (V : Nat → Prop) (p : Nat), x0 = (V0) ∧ x1 = (b) ∧ x2 = (Vp μ V p) ∧ x3 = (p + 1) ∧ (Blo μ OB NV (V0) (b) (V) (p)) ∧ (Pl μ OB NV V p)) ∨ (∃ (V0 : Nat → Prop) (b : Nat) (V : Nat → Prop) (p : Nat) (Va : Nat → Prop) (e : Nat) (Vb : Nat → Prop) (n : Nat), x0 = (V0) ∧ x1 = (b) ∧ x2 = (Vp μ V p) ∧ x3 = (n + 1) ∧ (Blo μ OB NV (V0) (b) (V) (p)) ∧ (Ifx μ OB V p) ∧ (0 ≤ iv μ 47 p ∧ iv μ 47 p < 320) ∧ (Blo μ OB NV (V) (p + 1) (Va) (e)) ∧ (Mk μ OB Va 13 p e) ∧ (iv μ 49 p = (e : Int)) ∧ (Blo μ OB NV (V) (e + 1) (Vb) (n)) ∧ (Mk μ OB Vb 14 p n) ∧ (iv μ 50 p = (n : Int)))) (fun V b => Or.inl ⟨V, b, rfl, rfl, rfl, rfl⟩) (fun V0 b V p a _ h => Or.inr (Or.inl ⟨V0, b, V, p, rfl, rfl, rfl, rfl, a, h⟩)) (fun V0 b V p Va e Vb n a _ hi hr x _ hx hl y _ hy hn => Or.inr (Or.inr (⟨V0, b, V, p, Va, e, Vb, n, rfl, rfl, rfl, rfl, a, hi, hr, x, hx, hl, y, hy, hn⟩))) h

theorem Blo.le {μ : Mem} {OB NV : Nat} {V0 V : Nat → Prop} {b p : Nat} (h : Blo μ OB NV V0 b V p) : b ≤ p := by
  refine Blo.ind (M := fun V0 b V p => b ≤ p) ?_ ?_ ?_ h
  · intro V b; exact Nat.le_refl _
  · intro V0 b V p _ i _; omega
  · intro V0 b V p Va e Vb n _ i1 _ _ _ i2 _ _ _ i3 _ _; omega
theorem Blo.sub {μ : Mem} {OB NV : Nat} {V0 V : Nat → Prop} {b p : Nat} (h : Blo μ OB NV V0 b V p) : ∀ u, V0 u → V u := by
  refine Blo.ind (M := fun V0 b V p => ∀ u, V0 u → V u) ?_ ?_ ?_ h
  · intro V b u hu; exact hu
  · intro V0 b V p _ i _ u hu; exact Or.inl (i u hu)
  · intro V0 b V p Va e Vb n _ i1 _ _ _ i2 _ _ _ i3 _ _ u hu; exact Or.inl (i1 u hu)
/-- two memories are alike in the items from b to p, the operands, what is said of variants -/
def Ag (μ μ' : Mem) (OB NV j : Nat) : Prop := iv μ' 46 j = iv μ 46 j ∧ iv μ' 47 j = iv μ 47 j ∧ iv μ' 48 j = iv μ 48 j ∧ iv μ' 49 j = iv μ 49 j ∧ iv μ' 50 j = iv μ 50 j ∧ iv μ' 51 j = iv μ 51 j ∧ iv μ' 52 j = iv μ 52 j
def Ao (μ μ' : Mem) (OB OB2 NV NV2 : Nat) : Prop := OB ≤ OB2 ∧ NV ≤ NV2 ∧ (∀ o, o < OB → iv μ' 53 o = iv μ 53 o ∧ iv μ' 54 o = iv μ 54 o) ∧ (∀ v, v < NV → iv μ' 59 v = iv μ 59 v)
theorem Opd.cong {μ μ' : Mem} {OB OB2 NV NV2 : Nat} {V : Nat → Prop} {o : Nat} (h : Opd μ OB V o) (a : Ao μ μ' OB OB2 NV NV2) : Opd μ' OB2 V o := by
  obtain ⟨h1, h2⟩ := h
  unfold Opd
  rw [(a.2.2.1 o h1).1, (a.2.2.1 o h1).2]
  exact ⟨Nat.lt_of_lt_of_le h1 a.1, h2⟩
theorem Opd.mono {μ : Mem} {OB : Nat} {V W : Nat → Prop} {o : Nat} (h : Opd μ OB V o) (hw : ∀ u, V u → W u) : Opd μ OB W o := ⟨h.1, h.2.imp id (fun h => ⟨h.1, h.2.1, hw _ h.2.2⟩)⟩
theorem Vp.cong {μ μ' : Mem} {OB NV : Nat} {V : Nat → Prop} {p : Nat} (a : Ag μ μ' OB NV p) : Vp μ' V p = Vp μ V p := by
  funext u
  unfold Vp
  rw [a.1, a.2.1]
theorem Pl.cong {μ μ' : Mem} {OB OB2 NV NV2 : Nat} {V : Nat → Prop} {p : Nat} (h : Pl μ OB NV V p) (g : Ag μ μ' OB NV p) (a : Ao μ μ' OB OB2 NV NV2) : Pl μ' OB2 NV2 V p := by
  obtain ⟨g46, g47, g48, g49, g50, g51, g52⟩ := g
  unfold Pl
  rw [g46, g47, g48, g51, g52]
  obtain ⟨h1, h2, h3, o, h4, h5⟩ := h
  refine ⟨h1, h2, h3, o, h4, ?_⟩
  rcases h5 with ⟨a1, a2⟩ | a1 | a1 | ⟨a1, a2, a3, a4⟩ | ⟨a1, a2, a3⟩ | ⟨a1, a2, a3, a4⟩ | ⟨a1, v, a2, a3, a4, a5⟩
  · exact Or.inl ⟨a1, a2.cong a⟩
  · exact Or.inr (Or.inl a1)
  · exact Or.inr (Or.inr (Or.inl a1))
  · exact Or.inr (Or.inr (Or.inr (Or.inl ⟨a1, a2, a3, a4.cong a⟩)))
  · exact Or.inr (Or.inr (Or.inr (Or.inr (Or.inl ⟨a1, a2, a3.cong a⟩))))
  · exact Or.inr (Or.inr (Or.inr (Or.inr (Or.inr (Or.inl ⟨a1, a2.cong a, a3.cong a, a4⟩)))))
  · exact Or.inr (Or.inr (Or.inr (Or.inr (Or.inr (Or.inr ⟨a1, v, a2, Nat.lt_of_lt_of_le a3 a.2.1, by rw [a.2.2.2 v a3]; exact a4, fun k hk => (a5 k hk).cong a⟩)))))
theorem Mk.cong {μ μ' : Mem} {OB OB2 NV NV2 : Nat} {V : Nat → Prop} {k : Int} {p e : Nat} (h : Mk μ OB V k p e) (g : Ag μ μ' OB NV e) (a : Ao μ μ' OB OB2 NV NV2) : Mk μ' OB2 V k p e := by
  obtain ⟨g46, g47, g48, g49, g50, g51, g52⟩ := g
  unfold Mk
  rw [g46, g48, g51]
  obtain ⟨h1, h2, o, h3, h4⟩ := h
  exact ⟨h1, h2, o, h3, h4.cong a⟩
theorem Ifx.cong {μ μ' : Mem} {OB OB2 NV NV2 : Nat} {V : Nat → Prop} {p : Nat} (h : Ifx μ OB V p) (g1 : iv μ' 46 p = iv μ 46 p) (g2 : iv μ' 51 p = iv μ 51 p) (a : Ao μ μ' OB OB2 NV NV2) : Ifx μ' OB2 V p := by
  unfold Ifx
  rw [g1, g2]
  obtain ⟨h1, o, h3, h4⟩ := h
  exact ⟨h1, o, h3, h4.cong a⟩
theorem Blo.cong {μ μ' : Mem} {OB OB2 NV NV2 : Nat} (a : Ao μ μ' OB OB2 NV NV2) {V0 V : Nat → Prop} {b p : Nat} (h : Blo μ OB NV V0 b V p) : (∀ j, b ≤ j → j < p → Ag μ μ' OB NV j) → Blo μ' OB2 NV2 V0 b V p := by
  refine Blo.ind (M := fun V0 b V p => (∀ j, b ≤ j → j < p → Ag μ μ' OB NV j) → Blo μ' OB2 NV2 V0 b V p) ?_ ?_ ?_ h
  · intro V b _; exact Blo.nil
  · intro V0 b V p x i hp c
    have l := x.le
    have g := c p l (by omega)
    have := Blo.pl (i (fun j h1 h2 => c j h1 (by omega))) (hp.cong g a)
    rw [Vp.cong g] at this
    exact this
  · intro V0 b V p Va e Vb n x i1 hi hr y i2 hx hl z i3 hy hn c
    have l1 := x.le
    have l2 := y.le
    have l3 := z.le
    have g := c p l1 (by omega)
    have := Blo.cho (i1 (fun j h1 h2 => c j h1 (by omega))) (hi.cong g.1 g.2.2.2.2.2.1 a) (by rw [g.2.1]; exact hr) (i2 (fun j h1 h2 => c j (by omega) (by omega))) (hx.cong (c e (by omega) (by omega)) a) (by rw [g.2.2.2.1]; exact hl) (i3 (fun j h1 h2 => c j (by omega) (by omega))) (hy.cong (c n (by omega) (by omega)) a) (by rw [g.2.2.2.2.1]; exact hn)
    rw [Vp.cong g] at this
    exact this
/-- blocks that are begun -/
def Zq (μ : Mem) (OB NV b : Nat) (Vb : Nat → Prop) : List Zc → (Nat → Prop) → Nat → Prop
  | [], V, p => Blo μ OB NV Vb b V p
  | (i, V0, sec) :: Z, V, p => Zq μ OB NV b Vb Z V0 i ∧ Ifx μ OB V0 i ∧ ((sec = false ∧ Blo μ OB NV V0 (i + 1) V p) ∨ (sec = true ∧ ∃ (e : Nat) (Va : Nat → Prop), Blo μ OB NV V0 (i + 1) Va e ∧ Mk μ OB Va 13 i e ∧ iv μ 49 i = (e : Int) ∧ Blo μ OB NV V0 (e + 1) V p))
theorem Zq.le {μ : Mem} {OB NV b : Nat} {Vb : Nat → Prop} : ∀ {Z : List Zc} {V : Nat → Prop} {p : Nat}, Zq μ OB NV b Vb Z V p → b ≤ p := by
  intro Z
  induction Z with
  | nil => intro V p h; exact Blo.le h
  | cons t Z ih =>
    obtain ⟨i, V0, sec⟩ := t
    intro V p h
    obtain ⟨h1, _, h3⟩ := h
    have := ih h1
    rcases h3 with ⟨_, h3⟩ | ⟨_, e, Va, h3, _, _, h4⟩
    · have := h3.le; omega
    · have := h3.le; have := h4.le; omega
theorem Zq.lt {μ : Mem} {OB NV b i : Nat} {Vb V0 : Nat → Prop} {sec : Bool} {Z : List Zc} {V : Nat → Prop} {p : Nat} (h : Zq μ OB NV b Vb ((i, V0, sec) :: Z) V p) : i < p := by
  obtain ⟨_, _, h3⟩ := h
  rcases h3 with ⟨_, h3⟩ | ⟨_, e, Va, h3, _, _, h4⟩
  · have := h3.le; omega
  · have := h3.le; have := h4.le; omega
theorem Zq.sub {μ : Mem} {OB NV b i : Nat} {Vb V0 : Nat → Prop} {sec : Bool} {Z : List Zc} {V : Nat → Prop} {p : Nat} (h : Zq μ OB NV b Vb ((i, V0, sec) :: Z) V p) : ∀ u, V0 u → V u := by
  obtain ⟨_, _, h3⟩ := h
  rcases h3 with ⟨_, h3⟩ | ⟨_, e, Va, h3, _, _, h4⟩
  · exact h3.sub
  · exact h4.sub
theorem Zq.cong {μ μ' : Mem} {OB OB2 NV NV2 b : Nat} {Vb : Nat → Prop} (a : Ao μ μ' OB OB2 NV NV2) : ∀ {Z : List Zc} {V : Nat → Prop} {p : Nat}, Zq μ OB NV b Vb Z V p → (∀ j, b ≤ j → j < p → Ag μ μ' OB NV j) → Zq μ' OB2 NV2 b Vb Z V p := by
  intro Z
  induction Z with
  | nil => intro V p h c; exact Blo.cong a h c
  | cons t Z ih =>
    obtain ⟨i, V0, sec⟩ := t
    intro V p h c
    have hlt := Zq.lt h
    obtain ⟨h1, h2, h3⟩ := h
    have lb := Zq.le h1
    have g := c i lb hlt
    refine ⟨ih h1 (fun j q1 q2 => c j q1 (by omega)), h2.cong g.1 g.2.2.2.2.2.1 a, ?_⟩
    rcases h3 with ⟨s, h3⟩ | ⟨s, e, Va, h3, h5, h6, h4⟩
    · exact Or.inl ⟨s, h3.cong a (fun j q1 q2 => c j (by omega) q2)⟩
    · have l3 := h3.le
      have l4 := h4.le
      exact Or.inr ⟨s, e, Va, h3.cong a (fun j q1 q2 => c j (by omega) (by omega)), h5.cong (c e (by omega) (by omega)) a, by rw [g.2.2.2.1]; exact h6, h4.cong a (fun j q1 q2 => c j (by omega) q2)⟩
/-- one more instruction -/
theorem Zq.pl {μ : Mem} {OB NV b : Nat} {Vb : Nat → Prop} {Z : List Zc} {V : Nat → Prop} {p : Nat} (h : Zq μ OB NV b Vb Z V p) (hp : Pl μ OB NV V p) : Zq μ OB NV b Vb Z (Vp μ V p) (p + 1) := by
  cases Z with
  | nil => exact Blo.pl h hp
  | cons t Z =>
    obtain ⟨i, V0, sec⟩ := t
    obtain ⟨h1, h2, h3⟩ := h
    refine ⟨h1, h2, ?_⟩
    rcases h3 with ⟨s, h3⟩ | ⟨s, e, Va, h3, h5, h6, h4⟩
    · exact Or.inl ⟨s, Blo.pl h3 hp⟩
    · exact Or.inr ⟨s, e, Va, h3, h5, h6, Blo.pl h4 hp⟩
/-- a choice is whole: one more instruction -/
theorem Zq.ch {μ : Mem} {OB NV b i e n : Nat} {Vb V0 Va Vc : Nat → Prop} {Z : List Zc} (h : Zq μ OB NV b Vb Z V0 i) (hi : Ifx μ OB V0 i) (hr : 0 ≤ iv μ 47 i ∧ iv μ 47 i < 320) (x : Blo μ OB NV V0 (i + 1) Va e) (hx : Mk μ OB Va 13 i e) (hl : iv μ 49 i = (e : Int)) (y : Blo μ OB NV V0 (e + 1) Vc n) (hy : Mk μ OB Vc 14 i n) (hn : iv μ 50 i = (n : Int)) : Zq μ OB NV b Vb Z (Vp μ V0 i) (n + 1) := by
  cases Z with
  | nil => exact Blo.cho h hi hr x hx hl y hy hn
  | cons t Z =>
    obtain ⟨i2, V2, sec⟩ := t
    obtain ⟨h1, h2, h3⟩ := h
    refine ⟨h1, h2, ?_⟩
    rcases h3 with ⟨s, h3⟩ | ⟨s, e2, Va2, h3, h5, h6, h4⟩
    · exact Or.inl ⟨s, Blo.cho h3 hi hr x hx hl y hy hn⟩
    · exact Or.inr ⟨s, e2, Va2, h3, h5, h6, Blo.cho h4 hi hr x hx hl y hy hn⟩
def Rn (μ : Mem) (OB : Nat) (NV : Nat) (E : Nat) (en : Nat) (x0 : Nat → Prop) (x1 : Nat) : Prop := ∀ P : (Nat → Prop) → (Nat) → Prop, (∀ (V : Nat → Prop), (Opd μ OB V en) → P (V) (E)) → (∀ (V : Nat → Prop) (i : Nat), (i < E) → (Pl μ OB NV V i) → (P (Vp μ V i) (i + 1)) → P (V) (i)) → (∀ (V : Nat → Prop) (i : Nat) (e : Nat), (i < E) → (Ifx μ OB V i) → (iv μ 49 i = (e : Int)) → (i < e ∧ e < E) → (P (V) (i + 1)) → (P (V) (e + 1)) → P (V) (i)) → (∀ (V : Nat → Prop) (W : Nat → Prop) (i : Nat) (p : Nat) (n : Nat), (i < E) → ((Mk μ OB V 13 p i ∨ Mk μ OB V 14 p i)) → (iv μ 50 p = (n : Int)) → (iv μ 46 p ≠ 7 ∧ 0 ≤ iv μ 47 p ∧ iv μ 47 p < 320) → (p < E ∧ i ≤ n ∧ n < E) → (∀ u, W u → V u ∨ iv μ 47 p = (u : Int)) → (P (W) (n + 1)) → P (V) (i)) →  P x0 x1
theorem Rn.fin {μ : Mem} {OB : Nat} {NV : Nat} {E : Nat} {en : Nat} {V : Nat → Prop} (h : Opd μ OB V en) : Rn μ OB NV E en (V) (E) := fun P h_fin h_pl h_cho h_mk => h_fin V h
theorem Rn.pl {μ : Mem} {OB : Nat} {NV : Nat} {E : Nat} {en : Nat} {V : Nat → Prop} {i : Nat} (hi : i < E) (h : Pl μ OB NV V i) (a : Rn μ OB NV E en (Vp μ V i) (i + 1)) : Rn μ OB NV E en (V) (i) := fun P h_fin h_pl h_cho h_mk => h_pl V i hi h (a P h_fin h_pl h_cho h_mk)
theorem Rn.cho {μ : Mem} {OB : Nat} {NV : Nat} {E : Nat} {en : Nat} {V : Nat → Prop} {i : Nat} {e : Nat} (hi : i < E) (h : Ifx μ OB V i) (hl : iv μ 49 i = (e : Int)) (he : i < e ∧ e < E) (a : Rn μ OB NV E en (V) (i + 1)) (c : Rn μ OB NV E en (V) (e + 1)) : Rn μ OB NV E en (V) (i) := fun P h_fin h_pl h_cho h_mk => h_cho V i e hi h hl he (a P h_fin h_pl h_cho h_mk) (c P h_fin h_pl h_cho h_mk)
theorem Rn.mk {μ : Mem} {OB : Nat} {NV : Nat} {E : Nat} {en : Nat} {V : Nat → Prop} {W : Nat → Prop} {i : Nat} {p : Nat} {n : Nat} (hi : i < E) (h : (Mk μ OB V 13 p i ∨ Mk μ OB V 14 p i)) (hn : iv μ 50 p = (n : Int)) (hr : iv μ 46 p ≠ 7 ∧ 0 ≤ iv μ 47 p ∧ iv μ 47 p < 320) (hp : p < E ∧ i ≤ n ∧ n < E) (hw : ∀ u, W u → V u ∨ iv μ 47 p = (u : Int)) (a : Rn μ OB NV E en (W) (n + 1)) : Rn μ OB NV E en (V) (i) := fun P h_fin h_pl h_cho h_mk => h_mk V W i p n hi h hn hr hp hw (a P h_fin h_pl h_cho h_mk)
theorem Rn.ind {μ : Mem} {OB : Nat} {NV : Nat} {E : Nat} {en : Nat} {M : (Nat → Prop) → (Nat) → Prop} (c_fin : ∀ (V : Nat → Prop), (Opd μ OB V en) → M (V) (E)) (c_pl : ∀ (V : Nat → Prop) (i : Nat), (i < E) → (Pl μ OB NV V i) → (Rn μ OB NV E en (Vp μ V i) (i + 1)) → (M (Vp μ V i) (i + 1)) → M (V) (i)) (c_cho : ∀ (V : Nat → Prop) (i : Nat) (e : Nat), (i < E) → (Ifx μ OB V i) → (iv μ 49 i = (e : Int)) → (i < e ∧ e < E) → (Rn μ OB NV E en (V) (i + 1)) → (M (V) (i + 1)) → (Rn μ OB NV E en (V) (e + 1)) → (M (V) (e + 1)) → M (V) (i)) (c_mk : ∀ (V : Nat → Prop) (W : Nat → Prop) (i : Nat) (p : Nat) (n : Nat), (i < E) → ((Mk μ OB V 13 p i ∨ Mk μ OB V 14 p i)) → (iv μ 50 p = (n : Int)) → (iv μ 46 p ≠ 7 ∧ 0 ≤ iv μ 47 p ∧ iv μ 47 p < 320) → (p < E ∧ i ≤ n ∧ n < E) → (∀ u, W u → V u ∨ iv μ 47 p = (u : Int)) → (Rn μ OB NV E en (W) (n + 1)) → (M (W) (n + 1)) → M (V) (i)) {x0 : Nat → Prop} {x1 : Nat} (h : Rn μ OB NV E en (x0) (x1)) : M (x0) (x1) := (h (fun x0 x1 => Rn μ OB NV E en (x0) (x1) ∧ M (x0) (x1)) (fun V h => ⟨Rn.fin h, c_fin V h⟩) (fun V i hi h a => ⟨Rn.pl hi h a.1, c_pl V i hi h a.1 a.2⟩) (fun V i e hi h hl he a c => ⟨Rn.cho hi h hl he a.1 c.1, c_cho V i e hi h hl he a.1 a.2 c.1 c.2⟩) (fun V W i p n hi h hn hr hp hw a => ⟨Rn.mk hi h hn hr hp hw a.1, c_mk V W i p n hi h hn hr hp hw a.1 a.2⟩)).2
theorem Rn.inv {μ : Mem} {OB : Nat} {NV : Nat} {E : Nat} {en : Nat} {x0 : Nat → Prop} {x1 : Nat} (h : Rn μ OB NV E en (x0) (x1)) : (∃ (V : Nat → Prop), x0 = (V) ∧ x1 = (E) ∧ (Opd μ OB V en)) ∨ (∃ (V : Nat → Prop) (i : Nat), x0 = (V) ∧ x1 = (i) ∧ (i < E) ∧ (Pl μ OB NV V i) ∧ (Rn μ OB NV E en (Vp μ V i) (i + 1))) ∨ (∃ (V : Nat → Prop) (i : Nat) (e : Nat), x0 = (V) ∧ x1 = (i) ∧ (i < E) ∧ (Ifx μ OB V i) ∧ (iv μ 49 i = (e : Int)) ∧ (i < e ∧ e < E) ∧ (Rn μ OB NV E en (V) (i + 1)) ∧ (Rn μ OB NV E en (V) (e + 1))) ∨ (∃ (V : Nat → Prop) (W : Nat → Prop) (i : Nat) (p : Nat) (n : Nat), x0 = (V) ∧ x1 = (i) ∧ (i < E) ∧ ((Mk μ OB V 13 p i ∨ Mk μ OB V 14 p i)) ∧ (iv μ 50 p = (n : Int)) ∧ (iv μ 46 p ≠ 7 ∧ 0 ≤ iv μ 47 p ∧ iv μ 47 p < 320) ∧ (p < E ∧ i ≤ n ∧ n < E) ∧ (∀ u, W u → V u ∨ iv μ 47 p = (u : Int)) ∧ (Rn μ OB NV E en (W) (n + 1))) := Rn.ind (M := fun x0 x1 => (∃ (V : Nat → Prop), x0 = (V) ∧ x1 = (E) ∧ (Opd μ OB V en)) ∨ (∃ (V : Nat → Prop) (i : Nat), x0 = (V) ∧ x1 = (i) ∧ (i < E) ∧ (Pl μ OB NV V i) ∧ (Rn μ OB NV E en (Vp μ V i) (i + 1))) ∨ (∃ (V : Nat → Prop) (i : Nat) (e : Nat), x0 = (V) ∧ x1 = (i) ∧ (i < E) ∧ (Ifx μ OB V i) ∧ (iv μ 49 i = (e : Int)) ∧ (i < e ∧ e < E) ∧ (Rn μ OB NV E en (V) (i + 1)) ∧ (Rn μ OB NV E en (V) (e + 1))) ∨ (∃ (V : Nat → Prop) (W : Nat → Prop) (i : Nat) (p : Nat) (n : Nat), x0 = (V) ∧ x1 = (i) ∧ (i < E) ∧ ((Mk μ OB V 13 p i ∨ Mk μ OB V 14 p i)) ∧ (iv μ 50 p = (n : Int)) ∧ (iv μ 46 p ≠ 7 ∧ 0 ≤ iv μ 47 p ∧ iv μ 47 p < 320) ∧ (p < E ∧ i ≤ n ∧ n < E) ∧ (∀ u, W u → V u ∨ iv μ 47 p = (u : Int)) ∧ (Rn μ OB NV E en (W) (n + 1)))) (fun V h => Or.inl ⟨V, rfl, rfl, h⟩) (fun V i hi h a _ => Or.inr (Or.inl ⟨V, i, rfl, rfl, hi, h, a⟩)) (fun V i e hi h hl he a _ c _ => Or.inr (Or.inr (Or.inl ⟨V, i, e, rfl, rfl, hi, h, hl, he, a, c⟩))) (fun V W i p n hi h hn hr hp hw a _ => Or.inr (Or.inr (Or.inr (⟨V, W, i, p, n, rfl, rfl, hi, h, hn, hr, hp, hw, a⟩)))) h

/-- what is whole can be run, if what is behind can -/
theorem bk_rn {μ : Mem} {OB NV E en : Nat} {V0 V : Nat → Prop} {b p : Nat} (h : Blo μ OB NV V0 b V p) : p ≤ E → Rn μ OB NV E en V p → Rn μ OB NV E en V0 b := by
  refine Blo.ind (M := fun V0 b V p => p ≤ E → Rn μ OB NV E en V p → Rn μ OB NV E en V0 b) ?_ ?_ ?_ h
  · intro V b _ r; exact r
  · intro V0 b V p x i hp he r
    exact i (by omega) (Rn.pl (by omega) hp r)
  · intro V0 b V p Va e Vb n x i1 hi hr y i2 hx hl z i3 hy hn he r
    have l2 := y.le
    have l3 := z.le
    have s2 := y.sub
    have s3 := z.sub
    have h7 : iv μ 46 p ≠ 7 := by rw [hi.1]; decide
    refine i1 (by omega) (Rn.cho (by omega) hi hl (by omega) (i2 (by omega) ?_) (i3 (by omega) ?_))
    · refine Rn.mk (W := Vp μ V p) (by omega) (Or.inl hx) hn ⟨h7, hr⟩ (by omega) (fun u hu => ?_) r
      rcases hu with hu | ⟨_, hu⟩
      · exact Or.inl (s2 u hu)
      · exact Or.inr hu
    · refine Rn.mk (W := Vp μ V p) (by omega) (Or.inr hy) hn ⟨h7, hr⟩ (by omega) (fun u hu => ?_) r
      rcases hu with hu | ⟨_, hu⟩
      · exact Or.inl (s3 u hu)
      · exact Or.inr hu
