/-! A STEP OF THE MACHINE -/
def Sw (be : Nat → Int) : Nat → Nat → Nat → Prop
  | 0, p, q => p = q
  | n + 1, p, q => ∃ m, Sh be 1 p m ∧ m ≤ p + 40 ∧ Sw be n m q
theorem Sw.sh {be : Nat → Int} : ∀ {n p q : Nat}, Sw be n p q → Sh be n p q := by
  intro n
  induction n with
  | zero => intro p q h; have h : p = q := h; rw [h]; exact Sh.nil
  | succ n ih =>
    intro p q h
    obtain ⟨m, h1, _, h3⟩ := h
    have := h1.app (ih h3)
    rw [Nat.add_comm] at this; exact this
theorem Sw.cong {be b2 : Nat → Int} : ∀ {n p q : Nat}, Sw be n p q → (∀ j, p ≤ j → j < q → b2 j = be j) → Sw b2 n p q := by
  intro n
  induction n with
  | zero => intro p q h _; exact h
  | succ n ih =>
    intro p q h c
    obtain ⟨m, h1, h2, h3⟩ := h
    have l1 := h1.le
    have l3 := h3.sh.le
    exact ⟨m, h1.cong (fun j q1 q2 => c j q1 (by omega)), h2, ih h3 (fun j q1 q2 => c j (by omega) q2)⟩
/-- the PATTERN of variant v -/
def Pt (μ : Mem) (v : Nat) : Prop := ∃ f n : Nat, iv μ 57 v = (f : Int) ∧ f < nv μ 17 ∧ iv μ 58 v = (n : Int) ∧ n ≤ 200 ∧ Sw (bp (fun p => iv μ 60 (210 * v + p))) (iv μ 3 f).toNat 0 n ∧ (∀ p, p < n → 0 ≤ iv μ 60 (210 * v + p) ∧ iv μ 60 (210 * v + p) ≤ 3) ∧ iv μ 59 v = (c3 (fun p => iv μ 60 (210 * v + p)) n : Int) ∧ c3 (fun p => iv μ 60 (210 * v + p)) n ≤ 8 ∧ (iv μ 66 v = -1 ∨ ∃ w : Nat, w < v ∧ iv μ 66 v = (w : Int))
def VP (μ : Mem) : Prop := ∀ v, v < nv μ 110 → Pt μ v
def nV (F : List (Nat × Nat × Nat)) : Bool := na F 57 && na F 58 && na F 59 && na F 60 && na F 66 && na F 3 && nf F 17 && nf F 110
theorem VP.fr {F : List (Nat × Nat × Nat)} {bb : Bool} {μ μ' : Mem} (h : VP μ) (f : Fr F bb μ μ') (n : nV F = true) : VP μ' := by
  unfold nV at n
  simp only [Bool.and_eq_true] at n
  obtain ⟨⟨⟨⟨⟨⟨⟨n57, n58⟩, n59⟩, n60⟩, n66⟩, n3⟩, n17⟩, n110⟩ := n
  intro v hv
  rw [f.n n110] at hv
  unfold Pt
  rw [f.fe n57, f.fe n58, f.fe n59, f.fe n60, f.fe n66, f.fe n3, f.n n17]
  exact h v hv
def PA (th wo be bh : Nat → Int) (N : Nat) (μ : Mem) : Prop := iv μ 7 = th ∧ iv μ 8 = wo ∧ iv μ 9 = be ∧ iv μ 10 = bh ∧ nv μ 18 = N ∧ PW μ ∧ 0 ≤ iv μ 29 0 ∧ iv μ 29 0 ≤ 12
def nP (F : List (Nat × Nat × Nat)) : Bool := na F 2 && na F 3 && na F 4 && na F 5 && na F 6 && na F 7 && na F 8 && na F 9 && na F 10 && na F 29 && nf F 17 && nf F 18
theorem PW.fr {F : List (Nat × Nat × Nat)} {bb : Bool} {μ μ' : Mem} (h : PW μ) (f : Fr F bb μ μ') (n : nP F = true) : PW μ' := by
  unfold nP at n
  simp only [Bool.and_eq_true] at n
  obtain ⟨⟨⟨⟨⟨⟨⟨⟨⟨⟨⟨n2, n3⟩, n4⟩, n5⟩, n6⟩, n7⟩, n8⟩, n9⟩, n10⟩, n29⟩, n17⟩, n18⟩ := n
  unfold PW Bh
  rw [f.fe n2, f.fe n3, f.fe n4, f.fe n5, f.fe n6, f.fe n7, f.fe n8, f.fe n9, f.fe n10, f.n n17, f.n n18]
  exact h
theorem PA.fr {F : List (Nat × Nat × Nat)} {bb : Bool} {th wo be bh : Nat → Int} {N : Nat} {μ μ' : Mem} (h : PA th wo be bh N μ) (f : Fr F bb μ μ') (n : nP F = true) : PA th wo be bh N μ' := by
  have n' := n
  unfold nP at n
  simp only [Bool.and_eq_true] at n
  obtain ⟨⟨⟨⟨⟨⟨⟨⟨⟨⟨⟨n2, n3⟩, n4⟩, n5⟩, n6⟩, n7⟩, n8⟩, n9⟩, n10⟩, n29⟩, n17⟩, n18⟩ := n
  obtain ⟨h1, h2, h3, h4, h5, h6, h7⟩ := h
  unfold PA
  rw [f.fe n7, f.fe n8, f.fe n9, f.fe n10, f.n n18, f.fe n29]
  exact ⟨h1, h2, h3, h4, h5, h6.fr f n', h7⟩
/-- how deep, how many calls -/
def Dp (t : Bool) (μ : Mem) (R : List Fm) : Prop := (∃ f : Fm, R.getLast? = some f ∧ f.2 = 0) ∧ (t = true → (μ.1 0 92).toInt + 1 = (R.length : Int) ∧ R.length ≤ 13 ∧ 0 ≤ (μ.1 0 91).toInt ∧ (μ.1 0 91).toInt ≤ 200 ∧ VP μ ∧ 0 ≤ (μ.1 0 111).toInt ∧ (μ.1 0 111).toInt < (nv μ 110 : Int)) ∧ (t = false → (μ.1 0 76).toInt + 1 = (R.length : Int) ∧ R.length ≤ 31 ∧ 0 ≤ (μ.1 0 75).toInt ∧ (μ.1 0 75).toInt ≤ 100)
def nD (F : List (Nat × Nat × Nat)) : Bool := nf F 92 && nf F 91 && nf F 76 && nf F 75 && nf F 111 && nV F
theorem Dp.fr {F : List (Nat × Nat × Nat)} {bb : Bool} {t : Bool} {μ μ' : Mem} {R : List Fm} (h : Dp t μ R) (f : Fr F bb μ μ') (n : nD F = true) : Dp t μ' R := by
  unfold nD at n
  simp only [Bool.and_eq_true] at n
  obtain ⟨⟨⟨⟨⟨n92, n91⟩, n76⟩, n75⟩, n111⟩, nv'⟩ := n
  obtain ⟨h1, h2, h3⟩ := h
  unfold Dp
  rw [f.v n92, f.v n91, f.v n76, f.v n75, f.v n111]
  refine ⟨h1, fun ht => ?_, h3⟩
  obtain ⟨a, b, c, d, e, g, i⟩ := h2 ht
  have n110 : nf F 110 = true := by unfold nV at nv'; simp only [Bool.and_eq_true] at nv'; exact nv'.2
  exact ⟨a, b, c, d, e.fr f nv', g, by rw [f.n n110]; exact i⟩
/-- calls that may begin yet -/
def cl (t : Bool) (μ : Mem) : Nat := if t then 200 - nv μ 91 else 100 - nv μ 75
theorem cl_fr {F : List (Nat × Nat × Nat)} {bb : Bool} {t : Bool} {μ μ' : Mem} (f : Fr F bb μ μ') (n : nD F = true) : cl t μ' = cl t μ := by
  unfold nD at n
  simp only [Bool.and_eq_true] at n
  obtain ⟨⟨⟨⟨⟨n92, n91⟩, n76⟩, n75⟩, n111⟩, nv'⟩ := n
  unfold cl
  rw [f.n n91, f.n n75]
def fgR : List (Nat × Nat × Nat) := fdR ++ frPu ++ [(0, 0, 67), (1, 41, 0), (1, 45, 0), (0, 0, 75), (0, 0, 76), (0, 0, 77)]
def fgT : List (Nat × Nat × Nat) := fdT ++ frPu ++ [(0, 0, 67), (1, 41, 0), (1, 45, 0), (0, 0, 90), (0, 0, 91), (0, 0, 92), (1, 49, 0), (1, 50, 0), (0, 0, 96), (0, 0, 97), (0, 0, 110), (0, 0, 118), (1, 57, 0), (1, 58, 0), (1, 59, 0), (1, 60, 0), (1, 61, 0), (1, 66, 0), (1, 67, 0), (1, 68, 0), (1, 69, 0), (1, 70, 0), (1, 71, 0), (1, 72, 0)]
def fg (t : Bool) : List (Nat × Nat × Nat) := if t then fgT else fgR
theorem fg_mono {F : List (Nat × Nat × Nat)} {μ μ' : Mem} (f : Fr F true μ μ') (h : (F.all (fun x => fgT.contains x) && F.all (fun x => fgR.contains x)) = true) (t : Bool) : Fr (fg t) true μ μ' := by
  simp only [Bool.and_eq_true] at h
  cases t
  · exact Fr.mono f h.2 (fun h => h)
  · exact Fr.mono f h.1 (fun h => h)
theorem fd_fg {t : Bool} {μ μ' : Mem} (f : Fr (fd t) true μ μ') : Fr (fg t) true μ μ' := by
  cases t
  · exact Fr.mono f (by decide +kernel) (fun h => h)
  · exact Fr.mono f (by decide +kernel) (fun h => h)
/-- how much may be written -/
def c73 (t : Bool) : Int := if t then 900000 else 500000
theorem c73_le (t : Bool) : c73 t ≤ 900000 := by cases t <;> decide
/-- all that holds between two steps; T: what is left -/
def Ix (t : Bool) (b : Nat) (Vb : Nat → Prop) (ve : Nat) (th wo be bh : Nat → Int) (N : Nat) (μ : Mem) (L : List Act) (cs : List Nat) (R : List Fm) (Zs : List Zc) (V : Nat → Prop) (T : Nat) : Prop :=
  Mx t b Vb ve μ L cs R Zs V ∧ Ok th wo be N μ L R cs Zs V ∧ Bd bh L 0 R cs.length ∧ PA th wo be bh N μ ∧ Dp t μ R ∧ T = Sp4 bh L + 330 * cl t μ ∧ nv μ 56 + T + 302 ≤ 100000 + nv μ 89 ∧ 0 ≤ (μ.1 0 73).toInt ∧ (μ.1 0 73).toInt + (T : Int) ≤ c73 t
/-- the same, the uppermost act taken -/
def Jx (t : Bool) (b : Nat) (Vb : Nat → Prop) (ve : Nat) (th wo be bh : Nat → Int) (N : Nat) (μ : Mem) (A : Act) (L : List Act) (cs : List Nat) (R : List Fm) (Zs : List Zc) (V : Nat → Prop) (T : Nat) : Prop :=
  Mx t b Vb ve μ L cs R Zs V ∧ Ok th wo be N μ (A :: L) R cs Zs V ∧ Bd bh (A :: L) 0 R cs.length ∧ PA th wo be bh N μ ∧ Dp t μ R ∧ T = Sp4 bh (A :: L) + 330 * cl t μ ∧ nv μ 56 + T + 302 ≤ 100000 + nv μ 89 ∧ 0 ≤ (μ.1 0 73).toInt ∧ (μ.1 0 73).toInt + (T : Int) ≤ c73 t ∧ iv μ 39 L.length = A.2.2
def Sx (t : Bool) (b : Nat) (Vb : Nat → Prop) (ve : Nat) (th wo be bh : Nat → Int) (N : Nat) (μ : Mem) (T : Nat) (q : Mem) : Prop :=
  IM q ∧ Fr (fg t) true μ q ∧ (Ov t μ q ∨ ∃ L cs R Zs V T2, Ix t b Vb ve th wo be bh N q L cs R Zs V T2 ∧ T2 < T)
/-- room of the stacks -/
theorem Jx.room {t : Bool} {b : Nat} {Vb : Nat → Prop} {ve : Nat} {th wo be bh : Nat → Int} {N : Nat} {μ : Mem} {A : Act} {L : List Act} {cs : List Nat} {R : List Fm} {Zs : List Zc} {V : Nat → Prop} {T : Nat} (h : Jx t b Vb ve th wo be bh N μ A L cs R Zs V T) : L.length + cs.length ≤ 2550 ∧ Rm μ cs ∧ R.length ≤ 31 := by
  obtain ⟨h1, h2, h3, h4, h5, h6, h7, h8, h9, h10⟩ := h
  obtain ⟨f, f1, f2, f3⟩ := h3.len
  obtain ⟨⟨f', g1, g2⟩, _⟩ := h5
  have hR := h1.1.2.2.2.2.2.1
  have h73 := c73_le t
  rw [f3] at g1
  have : f = f' := Option.some.inj g1
  rw [this, g2] at f2
  simp only [List.length_cons] at f2
  exact ⟨by omega, ⟨by omega, by omega, h8, by omega⟩, hR⟩
/-- a deed is a step -/
theorem sx_po {t : Bool} {b : Nat} {Vb : Nat → Prop} {ve : Nat} {th wo be bh : Nat → Int} {N : Nat} {μ : Mem} {A : Act} {L : List Act} {cs : List Nat} {R : List Fm} {Zs : List Zc} {V : Nat → Prop} {T : Nat} (h : Jx t b Vb ve th wo be bh N μ A L cs R Zs V T) (h5 : A.1 ≠ 5) {cs2 : List Nat} (hO : ∀ x, Ok th wo be N μ L R (x :: cs2) Zs V) (hl : cs2.length + 1 ≤ cs.length + pot bh A) (hs : 1 ≤ stp bh A) {q : Mem} (hq : Po t b Vb ve μ L cs2 R Zs V q) : Sx t b Vb ve th wo be bh N μ T q := by
  obtain ⟨h1, h2, h3, h4, h5', h6, h7, h8, h9, h10⟩ := h
  obtain ⟨q1, q2, q3⟩ := hq
  refine ⟨q1, fd_fg q2, ?_⟩
  rcases q3 with q3 | ⟨z, V2, hVV, m, g, b1, b2, w1, w2⟩
  · exact Or.inl q3
  have nd : nD (fd t) = true := by cases t <;> decide +kernel
  have np : nP (fd t) = true := by cases t <;> decide +kernel
  have hS : Sp4 bh (A :: L) = stp bh A + Sp4 bh L := rfl
  have ecl := cl_fr (t := t) q2 nd
  refine Or.inr ⟨L, z :: cs2, R, Zs, V2, Sp4 bh L + 330 * cl t q, ⟨m, Ok.gr g _ _ _ _ _ (Ok.mono _ _ _ _ _ _ hVV (hO z)), ?_, h4.fr q2 np, h5'.fr q2 nd, rfl, by rw [ecl]; omega, w1, by rw [ecl]; omega⟩, by rw [ecl]; omega⟩
  cases R with
  | nil => exact h3.elim
  | cons f R =>
    refine (h3.head h5).mono ?_
    simp only [List.length_cons]; omega
