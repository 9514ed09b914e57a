/-! THINGS ONE BEHIND ANOTHER: what a told program is made of -/
theorem tn_of {x : Int32} {n : Nat} (h : x.toInt = (n : Int)) : x.toNatClampNeg = n := by
  have h1 := ti_nat (a := x) (by omega)
  omega
theorem ok_get {α : Type} {o : Option α} {P : α → Prop} (h : ok o P) {r : α} (e : o = some r) : P r := by
  obtain ⟨z, hz, hp⟩ := h
  have : z = r := Option.some.inj (hz.symm.trans e)
  rw [← this]; exact hp
theorem ok_and {α : Type} {o : Option α} {P Q : α → Prop} (h : ok o P) (hq : ∀ r, o = some r → P r → Q r) : ok o Q := by
  obtain ⟨z, hz, hp⟩ := h
  exact ⟨z, hz, hq z hz hp⟩
theorem some_pair {α β : Type} {a b : α} {c d : β} (h : some (a, c) = some (b, d)) : a = b ∧ c = d := by
  have := Option.some.inj h
  exact ⟨congrArg Prod.fst this, congrArg Prod.snd this⟩
/-- n things by their numbers of things below -/
inductive Sh (be : Nat → Int32) : Nat → Nat → Nat → Prop
  | nil {p : Nat} : Sh be 0 p p
  | cons {n p m q : Nat} (k : Nat) : (be p).toInt = (k : Int) → Sh be k (p + 1) m → Sh be n m q → Sh be (n + 1) p q
theorem Sh.le {be : Nat → Int32} {n p q : Nat} (h : Sh be n p q) : p + n ≤ q := by
  induction h with
  | nil => omega
  | cons k _ _ _ i1 i2 => omega
theorem Sh.zero {be : Nat → Int32} {p q : Nat} (h : Sh be 0 p q) : p = q := by
  cases h; rfl
theorem Sh.det {be : Nat → Int32} {n p q q' : Nat} (h : Sh be n p q) (h' : Sh be n p q') : q = q' := by
  induction h generalizing q' with
  | nil => exact h'.zero
  | cons k hk _ _ i1 i2 =>
    cases h' with
    | cons k' hk' a b =>
      have e : k = k' := by omega
      subst e
      have e2 := i1 a
      subst e2
      exact i2 b
theorem Sh.app {be : Nat → Int32} {n k p m q : Nat} (h : Sh be n p m) (h2 : Sh be k m q) : Sh be (n + k) p q := by
  induction h with
  | nil => rw [Nat.zero_add]; exact h2
  | @cons n p m' q' k' hk a _ _ i2 =>
    have e : n + 1 + k = (n + k) + 1 := by omega
    rw [e]; exact Sh.cons k' hk a (i2 h2)
theorem Sh.cong {be be' : Nat → Int32} {n p q : Nat} (h : Sh be n p q) : (∀ j, p ≤ j → j < q → be' j = be j) → Sh be' n p q := by
  induction h with
  | nil => intro _; exact Sh.nil
  | @cons n p m q k hk a b i1 i2 =>
    intro c
    have l1 := a.le
    have l2 := b.le
    exact Sh.cons k (by rw [c p (by omega) (by omega)]; exact hk) (i1 (fun j h1 h2 => c j (by omega) (by omega))) (i2 (fun j h1 h2 => c j (by omega) (by omega)))
theorem Sh.one {be : Nat → Int32} {n p q : Nat} (h : Sh be (n + 1) p q) : ∃ m, Sh be 1 p m ∧ Sh be n m q := by
  cases h with
  | @cons n p m q k hk a b => exact ⟨m, Sh.cons k hk a Sh.nil, b⟩
/-- at each place within, a thing begins -/
theorem Sh.sub {be : Nat → Int32} {n p q : Nat} (h : Sh be n p q) : ∀ r, p ≤ r → r < q → ∃ q', Sh be 1 r q' ∧ q' ≤ q := by
  induction h with
  | nil => intro r h1 h2; omega
  | @cons n p m q k hk a b i1 i2 =>
    intro r h1 h2
    have l1 := a.le
    have l2 := b.le
    by_cases e : r = p
    · subst e; exact ⟨m, Sh.cons k hk a Sh.nil, by omega⟩
    · by_cases e2 : r < m
      · obtain ⟨q', h3, h4⟩ := i1 r (by omega) e2
        exact ⟨q', h3, by omega⟩
      · exact i2 r (by omega) h2
/-- what is done with k values -/
def Kd (t w : Int) (k : Nat) : Prop := (t = 5 ∧ k = 2) ∨ (t = 6 ∧ k = 1 ∧ 0 ≤ w ∧ w < 5) ∨ (t = 2 ∧ k = 2) ∨ (t = 8 ∧ k = 1) ∨ (t = 9 ∧ k = 1 ∧ 0 ≤ w ∧ w < 8) ∨ (t = 10 ∧ k = 0 ∧ 0 ≤ w ∧ w < 8) ∨ (t = 12 ∧ k ≤ 5)
/-- n whole things, from p to q, where the vars of S are told -/
inductive Fo (th wo be : Nat → Int32) : (Nat → Prop) → Nat → Nat → Nat → Prop
  | nil {S : Nat → Prop} {p : Nat} : Fo th wo be S 0 p p
  | num {S : Nat → Prop} {n p q : Nat} : ((th p).toInt = 0 ∨ (th p).toInt = 1) → (be p).toInt = 0 → Fo th wo be S n (p + 1) q → Fo th wo be S (n + 1) p q
  | var {S : Nat → Prop} {n p q : Nat} (v : Nat) : (th p).toInt = 4 → (wo p).toInt = (v : Int) → v < 14 → S v → (be p).toInt = 0 → Fo th wo be S n (p + 1) q → Fo th wo be S (n + 1) p q
  | op {S : Nat → Prop} {n p m q : Nat} (k : Nat) : Kd (th p).toInt (wo p).toInt k → (be p).toInt = (k : Int) → Fo th wo be S k (p + 1) m → Fo th wo be S n m q → Fo th wo be S (n + 1) p q
  | cho {S : Nat → Prop} {n p m q : Nat} : (th p).toInt = 7 → (be p).toInt = 3 → Fo th wo be S 3 (p + 1) m → Fo th wo be S n m q → Fo th wo be S (n + 1) p q
  | let {S : Nat → Prop} {n p a m q : Nat} (v : Nat) : (th p).toInt = 11 → (wo p).toInt = (v : Int) → v < 14 → (be p).toInt = 2 → Fo th wo be S 1 (p + 1) a → Fo th wo be (fun u => S u ∨ u = v) 1 a m → Fo th wo be S n m q → Fo th wo be S (n + 1) p q
theorem Fo.sh {th wo be : Nat → Int32} {S : Nat → Prop} {n p q : Nat} (h : Fo th wo be S n p q) : Sh be n p q := by
  induction h with
  | nil => exact Sh.nil
  | num _ hb _ i => exact Sh.cons 0 hb Sh.nil i
  | var v _ _ _ _ hb _ i => exact Sh.cons 0 hb Sh.nil i
  | op k _ hb _ _ i1 i2 => exact Sh.cons k hb i1 i2
  | cho _ hb _ _ i1 i2 => exact Sh.cons 3 hb i1 i2
  | «let» v _ _ _ hb _ _ _ i1 i2 i3 => exact Sh.cons 2 hb (i1.app i2) i3
theorem Fo.le {th wo be : Nat → Int32} {S : Nat → Prop} {n p q : Nat} (h : Fo th wo be S n p q) : p + n ≤ q := h.sh.le
theorem Fo.mono {th wo be : Nat → Int32} {S : Nat → Prop} {n p q : Nat} (h : Fo th wo be S n p q) : ∀ S' : Nat → Prop, (∀ u, S u → S' u) → Fo th wo be S' n p q := by
  induction h with
  | nil => intro _ _; exact Fo.nil
  | num a hb _ i => intro S' c; exact Fo.num a hb (i S' c)
  | var v a b d e hb _ i => intro S' c; exact Fo.var v a b d (c v e) hb (i S' c)
  | op k a hb _ _ i1 i2 => intro S' c; exact Fo.op k a hb (i1 S' c) (i2 S' c)
  | cho a hb _ _ i1 i2 => intro S' c; exact Fo.cho a hb (i1 S' c) (i2 S' c)
  | «let» v a b d hb _ _ _ i1 i2 i3 =>
    intro S' c
    exact Fo.let v a b d hb (i1 S' c) (i2 _ (fun u hu => hu.imp (c u) id)) (i3 S' c)
theorem Fo.app {th wo be : Nat → Int32} {S : Nat → Prop} {n p m : Nat} (h : Fo th wo be S n p m) : ∀ {k q : Nat}, Fo th wo be S k m q → Fo th wo be S (n + k) p q := by
  induction h with
  | nil => intro k q h2; rw [Nat.zero_add]; exact h2
  | @num S n p q a hb _ i =>
    intro k q h2
    have e : n + 1 + k = (n + k) + 1 := by omega
    rw [e]; exact Fo.num a hb (i h2)
  | @var S n p q v a b d e' hb _ i =>
    intro k q h2
    have e : n + 1 + k = (n + k) + 1 := by omega
    rw [e]; exact Fo.var v a b d e' hb (i h2)
  | @op S n p m q k' a hb x _ _ i2 =>
    intro k q h2
    have e : n + 1 + k = (n + k) + 1 := by omega
    rw [e]; exact Fo.op k' a hb x (i2 h2)
  | @cho S n p m q a hb x _ _ i2 =>
    intro k q h2
    have e : n + 1 + k = (n + k) + 1 := by omega
    rw [e]; exact Fo.cho a hb x (i2 h2)
  | @«let» S n p a m q v a1 b d hb x y _ _ _ i3 =>
    intro k q h2
    have e : n + 1 + k = (n + k) + 1 := by omega
    rw [e]; exact Fo.let v a1 b d hb x y (i3 h2)
theorem Fo.cong {th wo be th' wo' be' : Nat → Int32} {S : Nat → Prop} {n p q : Nat} (h : Fo th wo be S n p q) : (∀ j, p ≤ j → j < q → th' j = th j ∧ wo' j = wo j ∧ be' j = be j) → Fo th' wo' be' S n p q := by
  induction h with
  | nil => intro _; exact Fo.nil
  | @num S n p q a hb x i =>
    intro c
    have l := x.le
    obtain ⟨c1, c2, c3⟩ := c p (by omega) (by omega)
    exact Fo.num (by rw [c1]; exact a) (by rw [c3]; exact hb) (i (fun j h1 h2 => c j (by omega) (by omega)))
  | @var S n p q v a b d e hb x i =>
    intro c
    have l := x.le
    obtain ⟨c1, c2, c3⟩ := c p (by omega) (by omega)
    exact Fo.var v (by rw [c1]; exact a) (by rw [c2]; exact b) d e (by rw [c3]; exact hb) (i (fun j h1 h2 => c j (by omega) (by omega)))
  | @op S n p m q k a hb x y i1 i2 =>
    intro c
    have l := x.le
    have l2 := y.le
    obtain ⟨c1, c2, c3⟩ := c p (by omega) (by omega)
    exact Fo.op k (by rw [c1, c2]; exact a) (by rw [c3]; exact hb) (i1 (fun j h1 h2 => c j (by omega) (by omega))) (i2 (fun j h1 h2 => c j (by omega) (by omega)))
  | @cho S n p m q a hb x y i1 i2 =>
    intro c
    have l := x.le
    have l2 := y.le
    obtain ⟨c1, c2, c3⟩ := c p (by omega) (by omega)
    exact Fo.cho (by rw [c1]; exact a) (by rw [c3]; exact hb) (i1 (fun j h1 h2 => c j (by omega) (by omega))) (i2 (fun j h1 h2 => c j (by omega) (by omega)))
  | @«let» S n p a m q v a1 b d hb x y z i1 i2 i3 =>
    intro c
    have l := x.le
    have l2 := y.le
    have l3 := z.le
    obtain ⟨c1, c2, c3⟩ := c p (by omega) (by omega)
    exact Fo.let v (by rw [c1]; exact a1) (by rw [c2]; exact b) d (by rw [c3]; exact hb) (i1 (fun j h1 h2 => c j (by omega) (by omega))) (i2 (fun j h1 h2 => c j (by omega) (by omega))) (i3 (fun j h1 h2 => c j (by omega) (by omega)))
/-- one more var is told -/
def inc (N : Nat → Int) (v : Nat) : Nat → Int := fun u => if u = v then N u + 1 else N u
/-- the levels of what is being read: N how often a var is told at the uppermost, m where the next thing begins -/
inductive Lv (μ : Mem) (N0 : Nat → Int) (nb : Nat) : Nat → (Nat → Int) → Nat → Prop
  | zero : Lv μ N0 nb 0 N0 nb
  | op {j o m : Nat} {N : Nat → Int} (k : Nat) : Lv μ N0 nb j N o → (μ.1 19 j).toInt = (o : Int) → (μ.1 20 j).toInt = (k : Int) → (Kd (μ.1 16 o).toInt (μ.1 17 o).toInt (μ.1 18 o).toInt.toNat ∧ (μ.1 16 o).toInt ≠ 12 ∧ (μ.1 18 o).toInt = ((μ.1 18 o).toInt.toNat : Int) ∧ k < (μ.1 18 o).toInt.toNat ∨ (μ.1 16 o).toInt = 12 ∧ k < 5 ∨ (μ.1 16 o).toInt = 7 ∧ (μ.1 18 o).toInt = 3 ∧ k < 3) → Fo (μ.1 16) (μ.1 17) (μ.1 18) (fun u => N u ≠ 0) k (o + 1) m → Lv μ N0 nb (j + 1) N m
  | let0 {j o : Nat} {N : Nat → Int} (v : Nat) : Lv μ N0 nb j N o → (μ.1 19 j).toInt = (o : Int) → (μ.1 20 j).toInt = 0 → (μ.1 16 o).toInt = 11 → (μ.1 17 o).toInt = (v : Int) → v < 14 → (μ.1 18 o).toInt = 2 → Lv μ N0 nb (j + 1) N (o + 1)
  | let1 {j o m : Nat} {N : Nat → Int} (v : Nat) : Lv μ N0 nb j N o → (μ.1 19 j).toInt = (o : Int) → (μ.1 20 j).toInt = 1 → (μ.1 16 o).toInt = 11 → (μ.1 17 o).toInt = (v : Int) → v < 14 → (μ.1 18 o).toInt = 2 → Fo (μ.1 16) (μ.1 17) (μ.1 18) (fun u => N u ≠ 0) 1 (o + 1) m → Lv μ N0 nb (j + 1) (inc N v) m
theorem Lv.le {μ : Mem} {N0 N : Nat → Int} {nb j m : Nat} (h : Lv μ N0 nb j N m) : nb + j ≤ m := by
  induction h with
  | zero => omega
  | op k _ _ _ _ f i => have := f.le; omega
  | let0 v _ _ _ _ _ _ _ i => omega
  | let1 v _ _ _ _ _ _ _ f i => have := f.le; omega
theorem Lv.rng {μ : Mem} {N0 N : Nat → Int} {nb j m : Nat} (h : Lv μ N0 nb j N m) (h0 : ∀ v, 0 ≤ N0 v ∧ N0 v ≤ 1) : ∀ v, 0 ≤ N v ∧ N v ≤ 1 + j := by
  induction h with
  | zero => intro v; have := h0 v; omega
  | op k _ _ _ _ f i => intro v; have := i v; omega
  | let0 v _ _ _ _ _ _ _ i => intro v; have := i v; omega
  | let1 v _ _ _ _ _ _ _ f i =>
    intro u
    have := i u
    show 0 ≤ (if u = v then _ else _) ∧ (if u = v then _ else _) ≤ _
    by_cases e : u = v
    · rw [if_pos e]; omega
    · rw [if_neg e]; omega
theorem Lv.cong {μ μ' : Mem} {N0 N : Nat → Int} {nb j m : Nat} (h : Lv μ N0 nb j N m) : (∀ k, k < j → μ'.1 19 k = μ.1 19 k ∧ μ'.1 20 k = μ.1 20 k) → (∀ k, k < m → μ'.1 16 k = μ.1 16 k ∧ μ'.1 17 k = μ.1 17 k ∧ μ'.1 18 k = μ.1 18 k) → Lv μ' N0 nb j N m := by
  induction h with
  | zero => intro _ _; exact Lv.zero
  | @op j o m N k x h1 h2 h3 f i =>
    intro c d
    have l := f.le
    obtain ⟨c1, c2⟩ := c j (by omega)
    obtain ⟨d1, d2, d3⟩ := d o (by omega)
    exact Lv.op k (i (fun k hk => c k (by omega)) (fun k hk => d k (by omega))) (by rw [c1]; exact h1) (by rw [c2]; exact h2) (by rw [d1, d2, d3]; exact h3) (f.cong (fun z h4 h5 => d z (by omega)))
  | @let0 j o N v x h1 h2 h3 h4 h5 h6 i =>
    intro c d
    obtain ⟨c1, c2⟩ := c j (by omega)
    obtain ⟨d1, d2, d3⟩ := d o (by omega)
    exact Lv.let0 v (i (fun k hk => c k (by omega)) (fun k hk => d k (by omega))) (by rw [c1]; exact h1) (by rw [c2]; exact h2) (by rw [d1]; exact h3) (by rw [d2]; exact h4) h5 (by rw [d3]; exact h6)
  | @let1 j o m N v x h1 h2 h3 h4 h5 h6 f i =>
    intro c d
    have l := f.le
    obtain ⟨c1, c2⟩ := c j (by omega)
    obtain ⟨d1, d2, d3⟩ := d o (by omega)
    exact Lv.let1 v (i (fun k hk => c k (by omega)) (fun k hk => d k (by omega))) (by rw [c1]; exact h1) (by rw [c2]; exact h2) (by rw [d1]; exact h3) (by rw [d2]; exact h4) h5 (by rw [d3]; exact h6) (f.cong (fun z h7 h8 => d z (by omega)))
