abbrev Fw := Nat × Int32 × Int32 × Nat × List Int32
def fwo (f : Fw) : Nat := f.1
def fwt (f : Fw) : Int32 := f.2.1
def fwn (f : Fw) : Int32 := f.2.2.1
def fwh (f : Fw) : Nat := f.2.2.2.1
def fwN (f : Fw) : List Int32 := f.2.2.2.2
def kf (t : Nat → Int32) (n r : Nat) (th w : Int32) (h : Nat) (N : List Int32) (o : Rd (Nat × Nat)) : Rd (Nat × Nat) :=
  if th = 5 then (if h = 0 then tk t n 41 (bnd (tc t n isSg o) (re t n r N)) else tk t n 41 o)
  else if th = 2 then (if h = 0 then tk t n 93 (bnd (tk t n 44 o) (re t n r N)) else tk t n 93 o)
  else if th = 7 then (if h = 0 then tk t n 41 (bnd (tk t n 44 (bnd (tk t n 44 o) (re t n r N))) (re t n r N)) else if h = 1 then tk t n 41 (bnd (tk t n 44 o) (re t n r N)) else tk t n 41 o)
  else if th = 11 then (if h = 0 then bnd (tk t n 44 o) (re t n r (w :: N)) else o)
  else if th = 12 then tk t n 41 (mos t n (re t n r N) (4 - h) o)
  else o
def ck (t : Nat → Int32) (n : Nat) : List Fw → Rd (Nat × Nat) → Rd (Nat × Nat)
  | [], o => o
  | f :: S, o => ck t n S (kf t n (19 - S.length) (fwt f) (fwn f) (fwh f) (fwN f) o)
theorem bnd_l {α β : Type} {x : Nat} {f : α → Rd β} : bnd (.inl x) f = .inl x := rfl
theorem kf_l {t : Nat → Int32} {n r f : Nat} {th w : Int32} {h : Nat} {N : List Int32} : kf t n r th w h N (.inl f) = .inl f := by
  unfold kf
  split
  · split <;> rfl
  split
  · split <;> rfl
  split
  · split
    · rfl
    · split <;> rfl
  split
  · split <;> rfl
  split
  · rw [mos_l]; rfl
  · rfl
theorem ck_l {t : Nat → Int32} {n f : Nat} : ∀ S : List Fw, ck t n S (.inl f) = .inl f := by
  intro S
  induction S with
  | nil => rfl
  | cons a S ih => show ck t n S (kf t n _ _ _ _ _ (.inl f)) = _; rw [kf_l]; exact ih
def cur (N0 : List Int32) : List Fw → List Int32
  | [] => N0
  | f :: _ => if fwt f = 11 ∧ fwh f = 1 then fwn f :: fwN f else fwN f
def bel (th : Int32) : Int32 := if th = 5 then 2 else if th = 2 then 2 else if th = 7 then 3 else if th = 11 then 2 else if th = 12 then 0 else 1
def thk (th : Int32) : Prop := th = 5 ∨ th = 2 ∨ th = 7 ∨ th = 11 ∨ th = 12 ∨ th = 6 ∨ th = 8 ∨ th = 9
def hmx (th : Int32) : Nat := if th = 7 then 2 else if th = 12 then 4 else if th = 5 ∨ th = 2 ∨ th = 11 then 1 else 0
def Sk (N0 : List Int32) (μ : Mem) : Nat → List Fw → Prop
  | _, [] => True
  | top, f :: S => fwo f < top ∧ (μ.1 19 S.length).toInt = (fwo f : Int) ∧ (μ.1 20 S.length).toInt = (fwh f : Int) ∧ μ.1 16 (fwo f) = fwt f ∧ thk (fwt f) ∧ (fwt f = 11 → isVa (fwn f) = true ∧ μ.1 17 (fwo f) = fwn f - 109) ∧ (fwt f ≠ 12 → μ.1 18 (fwo f) = bel (fwt f)) ∧ fwh f ≤ hmx (fwt f) ∧ fwN f = cur N0 S ∧ Sk N0 μ (fwo f) S
theorem Sk.cong {N0 : List Int32} {μ q : Mem} : ∀ {S : List Fw} {top : Nat}, Sk N0 μ top S → (∀ i, i < top → q.1 16 i = μ.1 16 i ∧ q.1 17 i = μ.1 17 i ∧ q.1 18 i = μ.1 18 i) → (∀ j, j < S.length → q.1 19 j = μ.1 19 j ∧ q.1 20 j = μ.1 20 j) → Sk N0 q top S := by
  intro S
  induction S with
  | nil => intro top _ _ _; trivial
  | cons f S ih =>
    rintro top ⟨a1, a2, a3, a4, a5, a6, a7, a8, a9, a10⟩ c1 c2
    have d := c2 S.length (by simp)
    have e := c1 (fwo f) a1
    exact ⟨a1, by rw [d.1]; exact a2, by rw [d.2]; exact a3, by rw [e.1]; exact a4, a5, fun h => ⟨(a6 h).1, by rw [e.2.1]; exact (a6 h).2⟩, fun h => by rw [e.2.2]; exact a7 h, a8, a9, ih a10 (fun i hi => c1 i (by omega)) (fun j hj => c2 j (by simp; omega))⟩
theorem Sk.up {N0 : List Int32} {μ : Mem} {S : List Fw} {top top2 : Nat} (h : Sk N0 μ top S) (hle : top ≤ top2) : Sk N0 μ top2 S := by
  cases S with
  | nil => trivial
  | cons f S => exact ⟨by have := h.1; omega, h.2⟩
def Tl (μ : Mem) (N : List Int32) : Prop := ∀ a, isVa a = true → (μ.1 21 (a - 109).toNatClampNeg).toInt = (N.count a : Int)
theorem isVa_r {c : Int32} (h : isVa c = true) : 109 ≤ c.toInt ∧ c.toInt ≤ 122 := by
  have e1 : (109 : Int32).toInt = 109 := by decide
  have e2 : (122 : Int32).toInt = 122 := by decide
  unfold isVa at h
  by_cases h1 : c < 109
  · rw [decide_eq_true h1] at h; cases h
  · by_cases h2 : 122 < c
    · rw [decide_eq_true h2] at h; simp at h
    · rw [ti_lt, e1] at h1
      rw [ti_lt, e2] at h2
      omega
theorem va_ix {c : Int32} (h : isVa c = true) : (c - 109).toInt = c.toInt - 109 ∧ ((c - 109).toNatClampNeg : Int) = c.toInt - 109 := by
  have e1 : (109 : Int32).toInt = 109 := by decide
  have r := isVa_r h
  have a : (c - 109).toInt = c.toInt - 109 := by rw [ti_sub (by omega) (by omega), e1]
  exact ⟨a, by rw [ti_nat (by omega), a]⟩
theorem va_inj {a b : Int32} (ha : isVa a = true) (hb : isVa b = true) (h : (a - 109).toNatClampNeg = (b - 109).toNatClampNeg) : a = b := by
  have x := (va_ix ha).2
  have y := (va_ix hb).2
  exact ti_eq.mpr (by omega)
def Mx4 (t : Nat → Int32) (n F b : Nat) (N0 : List Int32) (S : List Fw) (v : Nat × Nat) (μ : Mem) : Prop := MwT t n v.1 μ ∧ ((μ.1 0 27).toInt = (F : Int) ∧ (μ.1 14 F).toInt = (b : Int) ∧ b ≤ 100000) ∧ ((μ.1 0 28).toInt = ((b + v.2 : Nat) : Int) ∧ v.2 ≤ 80) ∧ (μ.1 0 32).toInt = (S.length : Int) ∧ S.length ≤ 20 ∧ Sk N0 μ (b + v.2) S ∧ Tl μ (cur N0 S)
