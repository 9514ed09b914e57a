/-! THINGS ONE BEHIND ANOTHER: what a told program is made of -/
theorem tn_of {x : Int32} {n : Nat} (h : x.toInt = (n : Int)) : x.toNatClampNeg = n := by
  have h1 := ti_nat (a := x) (by omega)
  omega
theorem ok_get {α : Type} {o : Option α} {P : α → Prop} (h : ok o P) {r : α} (e : o = some r) : P r := by
  obtain ⟨z, hz, hp⟩ := h
  have : z = r := Option.some.inj (hz.symm.trans e)
  rw [← this]; exact hp
theorem ok_and {α : Type} {o : Option α} {P Q : α → Prop} (h : ok o P) (hq : ∀ r, o = some r → P r → Q r) : ok o Q := by
  obtain ⟨z, hz, hp⟩ := h
  exact ⟨z, hz, hq z hz hp⟩
theorem some_pair {α β : Type} {a b : α} {c d : β} (h : some (a, c) = some (b, d)) : a = b ∧ c = d := by
  have := Option.some.inj h
  exact ⟨congrArg Prod.fst this, congrArg Prod.snd this⟩
/-- cells as Ints -/
def iv (μ : Mem) (c : Nat) : Nat → Int := fun p => (μ.1 c p).toInt
def Sh (be : Nat → Int) (x0 : Nat) (x1 : Nat) (x2 : Nat) : Prop := ∀ P : (Nat) → (Nat) → (Nat) → Prop, (∀ (p : Nat), P (0) (p) (p)) → (∀ (n : Nat) (p : Nat) (m : Nat) (q : Nat) (k : Nat), (be p = (k : Int)) → (P (k) (p + 1) (m)) → (P (n) (m) (q)) → P (n + 1) (p) (q)) →  P x0 x1 x2
theorem Sh.nil {be : Nat → Int} {p : Nat}  : Sh be (0) (p) (p) := fun P h_nil h_cons => h_nil p 
theorem Sh.cons {be : Nat → Int} {n : Nat} {p : Nat} {m : Nat} {q : Nat} {k : Nat} (hk : be p = (k : Int)) (a : Sh be (k) (p + 1) (m)) (b : Sh be (n) (m) (q)) : Sh be (n + 1) (p) (q) := fun P h_nil h_cons => h_cons n p m q k hk (a P h_nil h_cons) (b P h_nil h_cons)
theorem Sh.ind {be : Nat → Int} {M : (Nat) → (Nat) → (Nat) → Prop} (c_nil : ∀ (p : Nat), M (0) (p) (p)) (c_cons : ∀ (n : Nat) (p : Nat) (m : Nat) (q : Nat) (k : Nat), (be p = (k : Int)) → (Sh be (k) (p + 1) (m)) → (M (k) (p + 1) (m)) → (Sh be (n) (m) (q)) → (M (n) (m) (q)) → M (n + 1) (p) (q)) {x0 : Nat} {x1 : Nat} {x2 : Nat} (h : Sh be (x0) (x1) (x2)) : M (x0) (x1) (x2) := (h (fun x0 x1 x2 => Sh be (x0) (x1) (x2) ∧ M (x0) (x1) (x2)) (fun p => ⟨Sh.nil , c_nil p ⟩) (fun n p m q k hk a b => ⟨Sh.cons hk a.1 b.1, c_cons n p m q k hk a.1 a.2 b.1 b.2⟩)).2
theorem Sh.inv {be : Nat → Int} {x0 : Nat} {x1 : Nat} {x2 : Nat} (h : Sh be (x0) (x1) (x2)) : (∃ (p : Nat), x0 = (0) ∧ x1 = (p) ∧ x2 = (p)) ∨ (∃ (n : Nat) (p : Nat) (m : Nat) (q : Nat) (k : Nat), x0 = (n + 1) ∧ x1 = (p) ∧ x2 = (q) ∧ (be p = (k : Int)) ∧ (Sh be (k) (p + 1) (m)) ∧ (Sh be (n) (m) (q))) := Sh.ind (M := fun x0 x1 x2 => (∃ (p : Nat), x0 = (0) ∧ x1 = (p) ∧ x2 = (p)) ∨ (∃ (n : Nat) (p : Nat) (m : Nat) (q : Nat) (k : Nat), x0 = (n + 1) ∧ x1 = (p) ∧ x2 = (q) ∧ (be p = (k : Int)) ∧ (Sh be (k) (p + 1) (m)) ∧ (Sh be (n) (m) (q)))) (fun p => Or.inl ⟨p, rfl, rfl, rfl⟩) (fun n p m q k hk a _ b _ => Or.inr (⟨n, p, m, q, k, rfl, rfl, rfl, hk, a, b⟩)) h

theorem Sh.le {be : Nat → Int} {n p q : Nat} (h : Sh be n p q) : p + n ≤ q := by
  refine Sh.ind (M := fun n p q => p + n ≤ q) ?_ ?_ h
  · intro p; omega
  · intro n p m q k _ _ i1 _ i2; omega
theorem Sh.zero {be : Nat → Int} {p q : Nat} (h : Sh be 0 p q) : p = q := by
  rcases h.inv with ⟨p', _, rfl, rfl⟩ | ⟨n, p', m, q', k, e, _⟩
  · rfl
  · omega
theorem Sh.suc {be : Nat → Int} {n p q : Nat} (h : Sh be (n + 1) p q) : ∃ k m : Nat, be p = (k : Int) ∧ Sh be k (p + 1) m ∧ Sh be n m q := by
  rcases h.inv with ⟨p', e, _⟩ | ⟨n', p', m, q', k, e, rfl, rfl, hk, a, b⟩
  · omega
  · have : n' = n := by omega
    subst this
    exact ⟨k, m, hk, a, b⟩
theorem Sh.det {be : Nat → Int} {n p q : Nat} (h : Sh be n p q) : ∀ q', Sh be n p q' → q = q' := by
  refine Sh.ind (M := fun n p q => ∀ q', Sh be n p q' → q = q') ?_ ?_ h
  · intro p q' h'; exact h'.zero
  · intro n p m q k hk _ i1 _ i2 q' h'
    obtain ⟨k', m', hk', a, b⟩ := h'.suc
    have e : k = k' := by omega
    subst e
    have e2 := i1 _ a
    subst e2
    exact i2 _ b
theorem Sh.app {be : Nat → Int} {n p m : Nat} (h : Sh be n p m) : ∀ {k q : Nat}, Sh be k m q → Sh be (n + k) p q := by
  refine Sh.ind (M := fun n p m => ∀ {k q : Nat}, Sh be k m q → Sh be (n + k) p q) ?_ ?_ h
  · intro p k q h2; rw [Nat.zero_add]; exact h2
  · intro n p m q k hk a _ _ i2 k2 q2 h2
    have e : n + 1 + k2 = (n + k2) + 1 := by omega
    rw [e]; exact Sh.cons hk a (i2 h2)
theorem Sh.cong {be be' : Nat → Int} {n p q : Nat} (h : Sh be n p q) : (∀ j, p ≤ j → j < q → be' j = be j) → Sh be' n p q := by
  refine Sh.ind (M := fun n p q => (∀ j, p ≤ j → j < q → be' j = be j) → Sh be' n p q) ?_ ?_ h
  · intro p _; exact Sh.nil
  · intro n p m q k hk a i1 b i2 c
    have l1 := a.le
    have l2 := b.le
    exact Sh.cons (by rw [c p (by omega) (by omega)]; exact hk) (i1 (fun j h1 h2 => c j (by omega) (by omega))) (i2 (fun j h1 h2 => c j (by omega) (by omega)))
theorem Sh.one {be : Nat → Int} {n p q : Nat} (h : Sh be (n + 1) p q) : ∃ m, Sh be 1 p m ∧ Sh be n m q := by
  obtain ⟨k, m, hk, a, b⟩ := h.suc
  exact ⟨m, Sh.cons hk a Sh.nil, b⟩
theorem Sh.split {be : Nat → Int} {n : Nat} : ∀ {k p q : Nat}, Sh be (n + k) p q → ∃ m, Sh be n p m ∧ Sh be k m q := by
  induction n with
  | zero => intro k p q h; exact ⟨p, Sh.nil, by rw [Nat.zero_add] at h; exact h⟩
  | succ n ih =>
    intro k p q h
    have e : n + 1 + k = (n + k) + 1 := by omega
    rw [e] at h
    obtain ⟨m, a, b⟩ := h.one
    obtain ⟨m2, c, d⟩ := ih b
    refine ⟨m2, ?_, d⟩
    have := a.app c
    rw [Nat.add_comm] at this
    exact this
/-- at each place within, a thing begins -/
theorem Sh.sub {be : Nat → Int} {n p q : Nat} (h : Sh be n p q) : ∀ r, p ≤ r → r < q → ∃ q', Sh be 1 r q' ∧ q' ≤ q := by
  refine Sh.ind (M := fun n p q => ∀ r, p ≤ r → r < q → ∃ q', Sh be 1 r q' ∧ q' ≤ q) ?_ ?_ h
  · intro p r h1 h2; omega
  · intro n p m q k hk a i1 b i2 r h1 h2
    have l1 := a.le
    have l2 := b.le
    by_cases e : r = p
    · subst e; exact ⟨m, Sh.cons hk a Sh.nil, by omega⟩
    · by_cases e2 : r < m
      · obtain ⟨q', h3, h4⟩ := i1 r (by omega) e2
        exact ⟨q', h3, by omega⟩
      · exact i2 r (by omega) h2
/-- what is done with k values -/
def Kd (t w : Int) (k : Nat) : Prop := (t = 5 ∧ k = 2) ∨ (t = 6 ∧ k = 1 ∧ 0 ≤ w ∧ w < 5) ∨ (t = 2 ∧ k = 2) ∨ (t = 8 ∧ k = 1) ∨ (t = 9 ∧ k = 1 ∧ 0 ≤ w ∧ w < 8) ∨ (t = 10 ∧ k = 0 ∧ 0 ≤ w ∧ w < 8) ∨ (t = 12 ∧ k ≤ 5)
/-- one more var -/
def Sp (S : Nat → Prop) (v : Nat) : Nat → Prop := fun u => S u ∨ u = v
def Fo (th : Nat → Int) (wo : Nat → Int) (be : Nat → Int) (x0 : Nat → Prop) (x1 : Nat) (x2 : Nat) (x3 : Nat) : Prop := ∀ P : (Nat → Prop) → (Nat) → (Nat) → (Nat) → Prop, (∀ (S : Nat → Prop) (p : Nat), P (S) (0) (p) (p)) → (∀ (S : Nat → Prop) (n : Nat) (p : Nat) (q : Nat), (th p = 0 ∨ th p = 1) → (be p = 0) → (P (S) (n) (p + 1) (q)) → P (S) (n + 1) (p) (q)) → (∀ (S : Nat → Prop) (n : Nat) (p : Nat) (q : Nat) (v : Nat), (th p = 4) → (wo p = (v : Int)) → (v < 14) → (S v) → (be p = 0) → (P (S) (n) (p + 1) (q)) → P (S) (n + 1) (p) (q)) → (∀ (S : Nat → Prop) (n : Nat) (p : Nat) (m : Nat) (q : Nat) (k : Nat), (Kd (th p) (wo p) k) → (be p = (k : Int)) → (P (S) (k) (p + 1) (m)) → (P (S) (n) (m) (q)) → P (S) (n + 1) (p) (q)) → (∀ (S : Nat → Prop) (n : Nat) (p : Nat) (m : Nat) (q : Nat), (th p = 7) → (be p = 3) → (P (S) (3) (p + 1) (m)) → (P (S) (n) (m) (q)) → P (S) (n + 1) (p) (q)) → (∀ (S : Nat → Prop) (n : Nat) (p : Nat) (a : Nat) (m : Nat) (q : Nat) (v : Nat), (th p = 11) → (wo p = (v : Int)) → (v < 14) → (be p = 2) → (P (S) (1) (p + 1) (a)) → (P (Sp S v) (1) (a) (m)) → (P (S) (n) (m) (q)) → P (S) (n + 1) (p) (q)) →  P x0 x1 x2 x3
theorem Fo.nil {th : Nat → Int} {wo : Nat → Int} {be : Nat → Int} {S : Nat → Prop} {p : Nat}  : Fo th wo be (S) (0) (p) (p) := fun P h_nil h_num h_var h_op h_cho h_lt => h_nil S p 
theorem Fo.num {th : Nat → Int} {wo : Nat → Int} {be : Nat → Int} {S : Nat → Prop} {n : Nat} {p : Nat} {q : Nat} (ht : th p = 0 ∨ th p = 1) (hb : be p = 0) (a : Fo th wo be (S) (n) (p + 1) (q)) : Fo th wo be (S) (n + 1) (p) (q) := fun P h_nil h_num h_var h_op h_cho h_lt => h_num S n p q ht hb (a P h_nil h_num h_var h_op h_cho h_lt)
theorem Fo.var {th : Nat → Int} {wo : Nat → Int} {be : Nat → Int} {S : Nat → Prop} {n : Nat} {p : Nat} {q : Nat} {v : Nat} (ht : th p = 4) (hw : wo p = (v : Int)) (hv : v < 14) (hs : S v) (hb : be p = 0) (a : Fo th wo be (S) (n) (p + 1) (q)) : Fo th wo be (S) (n + 1) (p) (q) := fun P h_nil h_num h_var h_op h_cho h_lt => h_var S n p q v ht hw hv hs hb (a P h_nil h_num h_var h_op h_cho h_lt)
theorem Fo.op {th : Nat → Int} {wo : Nat → Int} {be : Nat → Int} {S : Nat → Prop} {n : Nat} {p : Nat} {m : Nat} {q : Nat} {k : Nat} (ht : Kd (th p) (wo p) k) (hb : be p = (k : Int)) (a : Fo th wo be (S) (k) (p + 1) (m)) (b : Fo th wo be (S) (n) (m) (q)) : Fo th wo be (S) (n + 1) (p) (q) := fun P h_nil h_num h_var h_op h_cho h_lt => h_op S n p m q k ht hb (a P h_nil h_num h_var h_op h_cho h_lt) (b P h_nil h_num h_var h_op h_cho h_lt)
theorem Fo.cho {th : Nat → Int} {wo : Nat → Int} {be : Nat → Int} {S : Nat → Prop} {n : Nat} {p : Nat} {m : Nat} {q : Nat} (ht : th p = 7) (hb : be p = 3) (a : Fo th wo be (S) (3) (p + 1) (m)) (b : Fo th wo be (S) (n) (m) (q)) : Fo th wo be (S) (n + 1) (p) (q) := fun P h_nil h_num h_var h_op h_cho h_lt => h_cho S n p m q ht hb (a P h_nil h_num h_var h_op h_cho h_lt) (b P h_nil h_num h_var h_op h_cho h_lt)
theorem Fo.lt {th : Nat → Int} {wo : Nat → Int} {be : Nat → Int} {S : Nat → Prop} {n : Nat} {p : Nat} {a : Nat} {m : Nat} {q : Nat} {v : Nat} (ht : th p = 11) (hw : wo p = (v : Int)) (hv : v < 14) (hb : be p = 2) (x : Fo th wo be (S) (1) (p + 1) (a)) (y : Fo th wo be (Sp S v) (1) (a) (m)) (z : Fo th wo be (S) (n) (m) (q)) : Fo th wo be (S) (n + 1) (p) (q) := fun P h_nil h_num h_var h_op h_cho h_lt => h_lt S n p a m q v ht hw hv hb (x P h_nil h_num h_var h_op h_cho h_lt) (y P h_nil h_num h_var h_op h_cho h_lt) (z P h_nil h_num h_var h_op h_cho h_lt)
theorem Fo.ind {th : Nat → Int} {wo : Nat → Int} {be : Nat → Int} {M : (Nat → Prop) → (Nat) → (Nat) → (Nat) → Prop} (c_nil : ∀ (S : Nat → Prop) (p : Nat), M (S) (0) (p) (p)) (c_num : ∀ (S : Nat → Prop) (n : Nat) (p : Nat) (q : Nat), (th p = 0 ∨ th p = 1) → (be p = 0) → (Fo th wo be (S) (n) (p + 1) (q)) → (M (S) (n) (p + 1) (q)) → M (S) (n + 1) (p) (q)) (c_var : ∀ (S : Nat → Prop) (n : Nat) (p : Nat) (q : Nat) (v : Nat), (th p = 4) → (wo p = (v : Int)) → (v < 14) → (S v) → (be p = 0) → (Fo th wo be (S) (n) (p + 1) (q)) → (M (S) (n) (p + 1) (q)) → M (S) (n + 1) (p) (q)) (c_op : ∀ (S : Nat → Prop) (n : Nat) (p : Nat) (m : Nat) (q : Nat) (k : Nat), (Kd (th p) (wo p) k) → (be p = (k : Int)) → (Fo th wo be (S) (k) (p + 1) (m)) → (M (S) (k) (p + 1) (m)) → (Fo th wo be (S) (n) (m) (q)) → (M (S) (n) (m) (q)) → M (S) (n + 1) (p) (q)) (c_cho : ∀ (S : Nat → Prop) (n : Nat) (p : Nat) (m : Nat) (q : Nat), (th p = 7) → (be p = 3) → (Fo th wo be (S) (3) (p + 1) (m)) → (M (S) (3) (p + 1) (m)) → (Fo th wo be (S) (n) (m) (q)) → (M (S) (n) (m) (q)) → M (S) (n + 1) (p) (q)) (c_lt : ∀ (S : Nat → Prop) (n : Nat) (p : Nat) (a : Nat) (m : Nat) (q : Nat) (v : Nat), (th p = 11) → (wo p = (v : Int)) → (v < 14) → (be p = 2) → (Fo th wo be (S) (1) (p + 1) (a)) → (M (S) (1) (p + 1) (a)) → (Fo th wo be (Sp S v) (1) (a) (m)) → (M (Sp S v) (1) (a) (m)) → (Fo th wo be (S) (n) (m) (q)) → (M (S) (n) (m) (q)) → M (S) (n + 1) (p) (q)) {x0 : Nat → Prop} {x1 : Nat} {x2 : Nat} {x3 : Nat} (h : Fo th wo be (x0) (x1) (x2) (x3)) : M (x0) (x1) (x2) (x3) := (h (fun x0 x1 x2 x3 => Fo th wo be (x0) (x1) (x2) (x3) ∧ M (x0) (x1) (x2) (x3)) (fun S p => ⟨Fo.nil , c_nil S p ⟩) (fun S n p q ht hb a => ⟨Fo.num ht hb a.1, c_num S n p q ht hb a.1 a.2⟩) (fun S n p q v ht hw hv hs hb a => ⟨Fo.var ht hw hv hs hb a.1, c_var S n p q v ht hw hv hs hb a.1 a.2⟩) (fun S n p m q k ht hb a b => ⟨Fo.op ht hb a.1 b.1, c_op S n p m q k ht hb a.1 a.2 b.1 b.2⟩) (fun S n p m q ht hb a b => ⟨Fo.cho ht hb a.1 b.1, c_cho S n p m q ht hb a.1 a.2 b.1 b.2⟩) (fun S n p a m q v ht hw hv hb x y z => ⟨Fo.lt ht hw hv hb x.1 y.1 z.1, c_lt S n p a m q v ht hw hv hb x.1 x.2 y.1 y.2 z.1 z.2⟩)).2
theorem Fo.inv {th : Nat → Int} {wo : Nat → Int} {be : Nat → Int} {x0 : Nat → Prop} {x1 : Nat} {x2 : Nat} {x3 : Nat} (h : Fo th wo be (x0) (x1) (x2) (x3)) : (∃ (S : Nat → Prop) (p : Nat), x0 = (S) ∧ x1 = (0) ∧ x2 = (p) ∧ x3 = (p)) ∨ (∃ (S : Nat → Prop) (n : Nat) (p : Nat) (q : Nat), x0 = (S) ∧ x1 = (n + 1) ∧ x2 = (p) ∧ x3 = (q) ∧ (th p = 0 ∨ th p = 1) ∧ (be p = 0) ∧ (Fo th wo be (S) (n) (p + 1) (q))) ∨ (∃ (S : Nat → Prop) (n : Nat) (p : Nat) (q : Nat) (v : Nat), x0 = (S) ∧ x1 = (n + 1) ∧ x2 = (p) ∧ x3 = (q) ∧ (th p = 4) ∧ (wo p = (v : Int)) ∧ (v < 14) ∧ (S v) ∧ (be p = 0) ∧ (Fo th wo be (S) (n) (p + 1) (q))) ∨ (∃ (S : Nat → Prop) (n : Nat) (p : Nat) (m : Nat) (q : Nat) (k : Nat), x0 = (S) ∧ x1 = (n + 1) ∧ x2 = (p) ∧ x3 = (q) ∧ (Kd (th p) (wo p) k) ∧ (be p = (k : Int)) ∧ (Fo th wo be (S) (k) (p + 1) (m)) ∧ (Fo th wo be (S) (n) (m) (q))) ∨ (∃ (S : Nat → Prop) (n : Nat) (p : Nat) (m : Nat) (q : Nat), x0 = (S) ∧ x1 = (n + 1) ∧ x2 = (p) ∧ x3 = (q) ∧ (th p = 7) ∧ (be p = 3) ∧ (Fo th wo be (S) (3) (p + 1) (m)) ∧ (Fo th wo be (S) (n) (m) (q))) ∨ (∃ (S : Nat → Prop) (n : Nat) (p : Nat) (a : Nat) (m : Nat) (q : Nat) (v : Nat), x0 = (S) ∧ x1 = (n + 1) ∧ x2 = (p) ∧ x3 = (q) ∧ (th p = 11) ∧ (wo p = (v : Int)) ∧ (v < 14) ∧ (be p = 2) ∧ (Fo th wo be (S) (1) (p + 1) (a)) ∧ (Fo th wo be (Sp S v) (1) (a) (m)) ∧ (Fo th wo be (S) (n) (m) (q))) := Fo.ind (M := fun x0 x1 x2 x3 => (∃ (S : Nat → Prop) (p : Nat), x0 = (S) ∧ x1 = (0) ∧ x2 = (p) ∧ x3 = (p)) ∨ (∃ (S : Nat → Prop) (n : Nat) (p : Nat) (q : Nat), x0 = (S) ∧ x1 = (n + 1) ∧ x2 = (p) ∧ x3 = (q) ∧ (th p = 0 ∨ th p = 1) ∧ (be p = 0) ∧ (Fo th wo be (S) (n) (p + 1) (q))) ∨ (∃ (S : Nat → Prop) (n : Nat) (p : Nat) (q : Nat) (v : Nat), x0 = (S) ∧ x1 = (n + 1) ∧ x2 = (p) ∧ x3 = (q) ∧ (th p = 4) ∧ (wo p = (v : Int)) ∧ (v < 14) ∧ (S v) ∧ (be p = 0) ∧ (Fo th wo be (S) (n) (p + 1) (q))) ∨ (∃ (S : Nat → Prop) (n : Nat) (p : Nat) (m : Nat) (q : Nat) (k : Nat), x0 = (S) ∧ x1 = (n + 1) ∧ x2 = (p) ∧ x3 = (q) ∧ (Kd (th p) (wo p) k) ∧ (be p = (k : Int)) ∧ (Fo th wo be (S) (k) (p + 1) (m)) ∧ (Fo th wo be (S) (n) (m) (q))) ∨ (∃ (S : Nat → Prop) (n : Nat) (p : Nat) (m : Nat) (q : Nat), x0 = (S) ∧ x1 = (n + 1) ∧ x2 = (p) ∧ x3 = (q) ∧ (th p = 7) ∧ (be p = 3) ∧ (Fo th wo be (S) (3) (p + 1) (m)) ∧ (Fo th wo be (S) (n) (m) (q))) ∨ (∃ (S : Nat → Prop) (n : Nat) (p : Nat) (a : Nat) (m : Nat) (q : Nat) (v : Nat), x0 = (S) ∧ x1 = (n + 1) ∧ x2 = (p) ∧ x3 = (q) ∧ (th p = 11) ∧ (wo p = (v : Int)) ∧ (v < 14) ∧ (be p = 2) ∧ (Fo th wo be (S) (1) (p + 1) (a)) ∧ (Fo th wo be (Sp S v) (1) (a) (m)) ∧ (Fo th wo be (S) (n) (m) (q)))) (fun S p => Or.inl ⟨S, p, rfl, rfl, rfl, rfl⟩) (fun S n p q ht hb a _ => Or.inr (Or.inl ⟨S, n, p, q, rfl, rfl, rfl, rfl, ht, hb, a⟩)) (fun S n p q v ht hw hv hs hb a _ => Or.inr (Or.inr (Or.inl ⟨S, n, p, q, v, rfl, rfl, rfl, rfl, ht, hw, hv, hs, hb, a⟩))) (fun S n p m q k ht hb a _ b _ => Or.inr (Or.inr (Or.inr (Or.inl ⟨S, n, p, m, q, k, rfl, rfl, rfl, rfl, ht, hb, a, b⟩)))) (fun S n p m q ht hb a _ b _ => Or.inr (Or.inr (Or.inr (Or.inr (Or.inl ⟨S, n, p, m, q, rfl, rfl, rfl, rfl, ht, hb, a, b⟩))))) (fun S n p a m q v ht hw hv hb x _ y _ z _ => Or.inr (Or.inr (Or.inr (Or.inr (Or.inr (⟨S, n, p, a, m, q, v, rfl, rfl, rfl, rfl, ht, hw, hv, hb, x, y, z⟩)))))) h

theorem Fo.sh {th wo be : Nat → Int} {S : Nat → Prop} {n p q : Nat} (h : Fo th wo be S n p q) : Sh be n p q := by
  refine Fo.ind (M := fun S n p q => Sh be n p q) ?_ ?_ ?_ ?_ ?_ ?_ h
  · intro S p; exact Sh.nil
  · intro S n p q _ hb _ i; exact Sh.cons (k := 0) hb Sh.nil i
  · intro S n p q v _ _ _ _ hb _ i; exact Sh.cons (k := 0) hb Sh.nil i
  · intro S n p m q k _ hb _ i1 _ i2; exact Sh.cons hb i1 i2
  · intro S n p m q _ hb _ i1 _ i2; exact Sh.cons (k := 3) hb i1 i2
  · intro S n p a m q v _ _ _ hb _ i1 _ i2 _ i3; exact Sh.cons (k := 2) hb (i1.app i2) i3

theorem Fo.le {th wo be : Nat → Int} {S : Nat → Prop} {n p q : Nat} (h : Fo th wo be S n p q) : p + n ≤ q := h.sh.le
theorem Fo.mono {th wo be : Nat → Int} {S : Nat → Prop} {n p q : Nat} (h : Fo th wo be S n p q) : ∀ S2 : Nat → Prop, (∀ u, S u → S2 u) → Fo th wo be S2 n p q := by
  refine Fo.ind (M := fun S n p q => ∀ S2 : Nat → Prop, (∀ u, S u → S2 u) → Fo th wo be S2 n p q) ?_ ?_ ?_ ?_ ?_ ?_ h
  · intro S p S2 _; exact Fo.nil
  · intro S n p q a hb _ i S2 c; exact Fo.num a hb (i S2 c)
  · intro S n p q v a b d e hb _ i S2 c; exact Fo.var a b d (c v e) hb (i S2 c)
  · intro S n p m q k a hb _ i1 _ i2 S2 c; exact Fo.op a hb (i1 S2 c) (i2 S2 c)
  · intro S n p m q a hb _ i1 _ i2 S2 c; exact Fo.cho a hb (i1 S2 c) (i2 S2 c)
  · intro S n p a m q v ht b d hb _ i1 _ i2 _ i3 S2 c
    exact Fo.lt ht b d hb (i1 S2 c) (i2 _ (fun u hu => hu.imp (c u) id)) (i3 S2 c)

theorem Fo.app {th wo be : Nat → Int} {S : Nat → Prop} {n p q : Nat} (h : Fo th wo be S n p q) : ∀ {k r : Nat}, Fo th wo be S k q r → Fo th wo be S (n + k) p r := by
  refine Fo.ind (M := fun S n p q => ∀ {k r : Nat}, Fo th wo be S k q r → Fo th wo be S (n + k) p r) ?_ ?_ ?_ ?_ ?_ ?_ h
  · intro S p k r h2; rw [Nat.zero_add]; exact h2
  · intro S n p q a hb _ i k2 r h2
    have e : n + 1 + k2 = (n + k2) + 1 := by omega
    rw [e]; exact Fo.num a hb (i h2)
  · intro S n p q v a b d e2 hb _ i k2 r h2
    have e : n + 1 + k2 = (n + k2) + 1 := by omega
    rw [e]; exact Fo.var a b d e2 hb (i h2)
  · intro S n p m q k a hb x _ _ i2 k2 r h2
    have e : n + 1 + k2 = (n + k2) + 1 := by omega
    rw [e]; exact Fo.op a hb x (i2 h2)
  · intro S n p m q a hb x _ _ i2 k2 r h2
    have e : n + 1 + k2 = (n + k2) + 1 := by omega
    rw [e]; exact Fo.cho a hb x (i2 h2)
  · intro S n p a m q v ht b d hb x _ y _ _ i3 k2 r h2
    have e : n + 1 + k2 = (n + k2) + 1 := by omega
    rw [e]; exact Fo.lt ht b d hb x y (i3 h2)

theorem Fo.cong {th wo be th2 wo2 be2 : Nat → Int} {S : Nat → Prop} {n p q : Nat} (h : Fo th wo be S n p q) : (∀ j, p ≤ j → j < q → th2 j = th j ∧ wo2 j = wo j ∧ be2 j = be j) → Fo th2 wo2 be2 S n p q := by
  refine Fo.ind (M := fun S n p q => (∀ j, p ≤ j → j < q → th2 j = th j ∧ wo2 j = wo j ∧ be2 j = be j) → Fo th2 wo2 be2 S n p q) ?_ ?_ ?_ ?_ ?_ ?_ h
  · intro S p _; exact Fo.nil
  · intro S n p q a hb x i c
    have l := x.le
    obtain ⟨c1, c2, c3⟩ := c p (by omega) (by omega)
    exact Fo.num (by rw [c1]; exact a) (by rw [c3]; exact hb) (i (fun j h1 h2 => c j (by omega) (by omega)))
  · intro S n p q v a b d e hb x i c
    have l := x.le
    obtain ⟨c1, c2, c3⟩ := c p (by omega) (by omega)
    exact Fo.var (by rw [c1]; exact a) (by rw [c2]; exact b) d e (by rw [c3]; exact hb) (i (fun j h1 h2 => c j (by omega) (by omega)))
  · intro S n p m q k a hb x i1 y i2 c
    have l := x.le
    have l2 := y.le
    obtain ⟨c1, c2, c3⟩ := c p (by omega) (by omega)
    exact Fo.op (by rw [c1, c2]; exact a) (by rw [c3]; exact hb) (i1 (fun j h1 h2 => c j (by omega) (by omega))) (i2 (fun j h1 h2 => c j (by omega) (by omega)))
  · intro S n p m q a hb x i1 y i2 c
    have l := x.le
    have l2 := y.le
    obtain ⟨c1, c2, c3⟩ := c p (by omega) (by omega)
    exact Fo.cho (by rw [c1]; exact a) (by rw [c3]; exact hb) (i1 (fun j h1 h2 => c j (by omega) (by omega))) (i2 (fun j h1 h2 => c j (by omega) (by omega)))
  · intro S n p a m q v a1 b d hb x i1 y i2 z i3 c
    have l := x.le
    have l2 := y.le
    have l3 := z.le
    obtain ⟨c1, c2, c3⟩ := c p (by omega) (by omega)
    exact Fo.lt (by rw [c1]; exact a1) (by rw [c2]; exact b) d (by rw [c3]; exact hb) (i1 (fun j h1 h2 => c j (by omega) (by omega))) (i2 (fun j h1 h2 => c j (by omega) (by omega))) (i3 (fun j h1 h2 => c j (by omega) (by omega)))

/-- the first of some, and the rest -/
theorem Fo.one {th wo be : Nat → Int} {S : Nat → Prop} {n p q : Nat} (h : Fo th wo be S (n + 1) p q) : ∃ m, Fo th wo be S 1 p m ∧ Fo th wo be S n m q := by
  rcases h.inv with ⟨S', p', _, e, _⟩ | ⟨S', n', p', q', rfl, e, rfl, rfl, a, hb, x⟩ | ⟨S', n', p', q', v, rfl, e, rfl, rfl, a, b, c, d, hb, x⟩ | ⟨S', n', p', m, q', k, rfl, e, rfl, rfl, a, hb, x, y⟩ | ⟨S', n', p', m, q', rfl, e, rfl, rfl, a, hb, x, y⟩ | ⟨S', n', p', a, m, q', v, rfl, e, rfl, rfl, ht, b, c, hb, x, y, z⟩
  · omega
  all_goals (have e2 : n' = n := by omega); subst e2
  · exact ⟨_, Fo.num a hb Fo.nil, x⟩
  · exact ⟨_, Fo.var a b c d hb Fo.nil, x⟩
  · exact ⟨_, Fo.op a hb x Fo.nil, y⟩
  · exact ⟨_, Fo.cho a hb x Fo.nil, y⟩
  · exact ⟨_, Fo.lt ht b c hb x y Fo.nil, z⟩
