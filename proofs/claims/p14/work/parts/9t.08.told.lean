abbrev Th3 := Int32 × Int32 × Int32
abbrev Py := List Th3 × List Th3
def tkP {α : Type} (t : Nat → Int32) (n : Nat) (c : Int32) (o : Rd (Nat × α)) : Rd (Nat × α) := bnd o (fun v => if hr t n v.1 = c then .inr (v.1 + 1, v.2) else .inl v.1)
def adC (x : Th3) (o : Rd (Nat × Py)) : Rd (Nat × Py) := bnd o (fun v => .inr (v.1, v.2.1, v.2.2 ++ [x]))
def slt : List Int32 → Int32 → Nat
  | [], _ => 0
  | b :: N, a => if b = a then N.length else slt N a
def agP (t : Nat → Int32) (n : Nat) (fin : Nat → Nat × Py → Rd (Nat × Py)) (e : Nat × Py → Rd (Nat × Py)) : Nat → Nat → Rd (Nat × Py) → Rd (Nat × Py)
  | 0, j, o => bnd o (fin j)
  | k + 1, j, o => bnd o (fun v => if hr t n v.1 = 44 then agP t n fin e k (j + 1) (e (v.1 + 1, v.2)) else fin j v)
def cfin (t : Nat → Int32) (n : Nat) (l : Int32) (i j : Nat) (v : Nat × Py) : Rd (Nat × Py) := if hr t n v.1 = 41 then .inr (v.1 + 1, v.2.1.set i (12, l - 97 + 1, Int32.ofNat j), v.2.2 ++ [(13, (l - 97) * 6 + Int32.ofNat j, Int32.ofNat j)]) else .inl v.1
def callP (t : Nat → Int32) (n : Nat) (e : Nat × Py → Rd (Nat × Py)) (l : Int32) (p : Nat) (v : Py) : Rd (Nat × Py) :=
  bnd (tkP t n 40 (.inr (p + 1, v.1 ++ [(12, l - 97 + 1, 0)], v.2))) (fun w => if hr t n w.1 = 41 then cfin t n l v.1.length 0 w else agP t n (cfin t n l v.1.length) e 4 1 (e w))
def signP (t : Nat → Int32) (n : Nat) (e : Nat × Py → Rd (Nat × Py)) (p : Nat) (v : Py) : Rd (Nat × Py) :=
  bnd (e (p + 1, v.1 ++ [(5, 0, 2)], v.2)) (fun w => if isSg (hr t n w.1) = true then adC (2, hr t n w.1, 0) (tkP t n 41 (e (w.1 + 1, w.2.1.set v.1.length (5, hr t n w.1, 2), w.2.2))) else .inl w.1)
def letP (t : Nat → Int32) (n : Nat) (e : List Int32 → Nat × Py → Rd (Nat × Py)) (N : List Int32) (p : Nat) (v : Py) : Rd (Nat × Py) :=
  if isVa (hr t n (p + 1)) = true then bnd (tkP t n 44 (bnd (tkP t n 61 (.inr (p + 2, v.1 ++ [(11, hr t n (p + 1) - 109, 2)], v.2))) (e N))) (fun w => e (hr t n (p + 1) :: N) (w.1, w.2.1, w.2.2 ++ [(12, Int32.ofNat N.length, 0)])) else .inl (p + 1)
def choP (t : Nat → Int32) (n : Nat) (e : Nat × Py → Rd (Nat × Py)) (p : Nat) (v : Py) : Rd (Nat × Py) :=
  bnd (tkP t n 44 (bnd (tkP t n 40 (.inr (p + 1, v.1 ++ [(7, 0, 3)], v.2))) e)) (fun w =>
    bnd (tkP t n 44 (e (w.1, w.2.1, w.2.2 ++ [(6, 0, 0)]))) (fun x =>
      bnd (tkP t n 41 (e (x.1, x.2.1, (x.2.2 ++ [(7, 0, 0)]).set w.2.2.length (6, Int32.ofNat (x.2.2.length + 1), 0)))) (fun y =>
        .inr (y.1, y.2.1, (y.2.2 ++ [(8, 0, 0)]).set x.2.2.length (7, Int32.ofNat (y.2.2.length + 1), 0)))))
def pairP (t : Nat → Int32) (n : Nat) (e : Nat × Py → Rd (Nat × Py)) (p : Nat) (v : Py) : Rd (Nat × Py) := adC (5, 0, 0) (tkP t n 93 (bnd (tkP t n 44 (e (p + 1, v.1 ++ [(2, 0, 2)], v.2))) e))
def putP (t : Nat → Int32) (n : Nat) (e : Nat × Py → Rd (Nat × Py)) (p : Nat) (v : Py) : Rd (Nat × Py) := if isPl (hr t n (p + 1)) = true then adC (10, hr t n (p + 1) - 48, 0) (e (p + 2, v.1 ++ [(9, hr t n (p + 1) - 48, 1)], v.2)) else .inl (p + 1)
def getP (t : Nat → Int32) (n : Nat) (p : Nat) (v : Py) : Rd (Nat × Py) := if isPl (hr t n (p + 1)) = true then .inr (p + 2, v.1 ++ [(10, hr t n (p + 1) - 48, 0)], v.2 ++ [(11, hr t n (p + 1) - 48, 0)]) else .inl (p + 1)
def oneT (h : Int32) : Th3 := if h = 33 then (8, 0, 1) else if h = 36 then (6, 0, 1) else if h = 94 then (6, 1, 1) else if h = 35 then (6, 2, 1) else if h = 64 then (6, 3, 1) else (6, 4, 1)
def oneC (h : Int32) : Th3 := if h = 33 then (9, 0, 0) else if h = 64 ∨ h = 126 then (4, h, 0) else (3, h, 0)
def rsP (t : Nat → Int32) (n : Nat) (e : List Int32 → Nat × Py → Rd (Nat × Py)) (N : List Int32) (h : Int32) (p : Nat) (v : Py) : Rd (Nat × Py) :=
  if isT1 h = true then adC (oneC h) (e N (p + 1, v.1 ++ [oneT h], v.2))
  else if h = 38 then putP t n (e N) p v
  else if h = 40 then signP t n (e N) p v
  else if h = 58 then letP t n e N p v
  else if h = 63 then choP t n (e N) p v
  else if h = 91 then pairP t n (e N) p v
  else if h = 95 then getP t n p v
  else .inl p
noncomputable def reP (t : Nat → Int32) (n : Nat) : Nat → List Int32 → Nat × Py → Rd (Nat × Py)
  | 0, _, v => .inl v.1
  | r + 1, N, v =>
    if 80 ≤ v.2.1.length then .inl v.1
    else if hr t n v.1 = 45 ∨ isD (hr t n v.1) = true then bnd (rn t n v.1) (fun q => .inr (q, v.2.1 ++ [((nvl t n v.1).1, (nvl t n v.1).2, 0)], v.2.2 ++ [(0, (nvl t n v.1).1, (nvl t n v.1).2)]))
    else if isVa (hr t n v.1) = true then (if hr t n v.1 ∈ N then .inr (v.1 + 1, v.2.1 ++ [(4, hr t n v.1 - 109, 0)], v.2.2 ++ [(1, Int32.ofNat (slt N (hr t n v.1)), 0)]) else .inl v.1)
    else if isL (hr t n v.1) = true then callP t n (reP t n r N) (hr t n v.1) v.1 v.2
    else rsP t n (reP t n r) N (hr t n v.1) v.1 v.2
def Gw (p : Nat) (T C : List Th3) (v : Nat × Py) : Prop := p ≤ v.1 ∧ (∃ S, v.2.1 = T ++ S) ∧ (∃ D, v.2.2 = C ++ D) ∧ v.2.2.length + 3 * p ≤ C.length + 3 * v.1
def GwO (p : Nat) (T C : List Th3) (o : Rd (Nat × Py)) : Prop := match o with | .inl _ => True | .inr v => Gw p T C v
theorem Gw.rf (p : Nat) (T C : List Th3) : Gw p T C (p, T, C) := ⟨Nat.le_refl _, ⟨[], by simp⟩, ⟨[], by simp⟩, by simp⟩
theorem Gw.tr {p : Nat} {T C : List Th3} {v w : Nat × Py} (h : Gw p T C v) (h2 : Gw v.1 v.2.1 v.2.2 w) : Gw p T C w := by
  obtain ⟨a1, ⟨S, a2⟩, ⟨D, a3⟩, a4⟩ := h
  obtain ⟨b1, ⟨S2, b2⟩, ⟨D2, b3⟩, b4⟩ := h2
  exact ⟨by omega, ⟨S ++ S2, by rw [b2, a2, List.append_assoc]⟩, ⟨D ++ D2, by rw [b3, a3, List.append_assoc]⟩, by omega⟩
theorem GwO.b {p : Nat} {T C : List Th3} {o : Rd (Nat × Py)} {e : Nat × Py → Rd (Nat × Py)} (h : GwO p T C o) (he : ∀ v, Gw p T C v → GwO p T C (e v)) : GwO p T C (bnd o e) := by
  cases o with
  | inl f => trivial
  | inr v => exact he v h
theorem GwO.tk {t : Nat → Int32} {n : Nat} {c : Int32} {p : Nat} {T C : List Th3} {o : Rd (Nat × Py)} (h : GwO p T C o) : GwO p T C (tkP t n c o) := h.b (fun v hv => by
  by_cases c1 : hr t n v.1 = c
  · rw [if_pos c1]; exact ⟨by show p ≤ v.1 + 1; have := hv.1; omega, hv.2.1, hv.2.2.1, by have := hv.2.2.2; show v.2.2.length + 3 * p ≤ C.length + 3 * (v.1 + 1); omega⟩
  · rw [if_neg c1]; trivial)
def Gd4 (p d : Nat) (T C : List Th3) (v : Nat × Py) : Prop := p + 1 ≤ v.1 ∧ (∃ S, v.2.1 = T ++ S) ∧ (∃ D, v.2.2 = C ++ D) ∧ v.2.2.length + d + 3 * p ≤ C.length + 3 * v.1
def GdO (p d : Nat) (T C : List Th3) (o : Rd (Nat × Py)) : Prop := match o with | .inl _ => True | .inr v => Gd4 p d T C v
theorem GdO.b {p d d2 : Nat} {T C : List Th3} {o : Rd (Nat × Py)} {e : Nat × Py → Rd (Nat × Py)} (h : GdO p d T C o) (he : ∀ v, Gd4 p d T C v → GdO p d2 T C (e v)) : GdO p d2 T C (bnd o e) := by
  cases o with
  | inl f => trivial
  | inr v => exact he v h
theorem GdO.tk {t : Nat → Int32} {n : Nat} {c : Int32} {p d : Nat} {T C : List Th3} {o : Rd (Nat × Py)} (h : GdO p d T C o) : GdO p d T C (tkP t n c o) := h.b (fun v hv => by
  by_cases c1 : hr t n v.1 = c
  · rw [if_pos c1]; exact ⟨by show p + 1 ≤ v.1 + 1; have := hv.1; omega, hv.2.1, hv.2.2.1, by have := hv.2.2.2; show v.2.2.length + d + 3 * p ≤ C.length + 3 * (v.1 + 1); omega⟩
  · rw [if_neg c1]; trivial)
theorem Gd4.ad {p d : Nat} {T C : List Th3} {v : Nat × Py} (h : Gd4 p (d + 1) T C v) (x : Th3) : Gd4 p d T C (v.1, v.2.1, v.2.2 ++ [x]) := by
  obtain ⟨a1, a2, ⟨D, a3⟩, a4⟩ := h
  refine ⟨a1, a2, ⟨D ++ [x], by show v.2.2 ++ [x] = _; rw [a3, List.append_assoc]⟩, ?_⟩
  show (v.2.2 ++ [x]).length + d + 3 * p ≤ _
  rw [List.length_append]; show v.2.2.length + 1 + d + 3 * p ≤ C.length + 3 * v.1; omega
theorem GdO.ad {p d : Nat} {T C : List Th3} {o : Rd (Nat × Py)} (h : GdO p (d + 1) T C o) (x : Th3) : GdO p d T C (adC x o) := h.b (fun v hv => hv.ad x)
theorem Gd4.w {p d : Nat} {T C : List Th3} {v : Nat × Py} (h : Gd4 p d T C v) : Gw p T C v := ⟨by have := h.1; omega, h.2.1, h.2.2.1, by have := h.2.2.2; omega⟩
theorem GdO.dn {p d d2 : Nat} {T C : List Th3} {o : Rd (Nat × Py)} (h : GdO p d T C o) (hd : d2 ≤ d) : GdO p d2 T C o := by
  cases o with
  | inl f => trivial
  | inr v => exact ⟨h.1, h.2.1, h.2.2.1, by have := h.2.2.2; omega⟩
theorem Gd4.of {p p1 d : Nat} {T C : List Th3} {x : Th3} {v : Nat × Py} (hp : p + 1 ≤ p1) (hd : d + 3 * p ≤ 3 * p1) (h : Gw p1 (T ++ [x]) C v) : Gd4 p d T C v := by
  obtain ⟨a1, ⟨S, a2⟩, a3, a4⟩ := h
  exact ⟨by omega, ⟨x :: S, by rw [a2, List.append_assoc]; rfl⟩, a3, by omega⟩
theorem GdO.of {p p1 d : Nat} {T C : List Th3} {x : Th3} {o : Rd (Nat × Py)} (hp : p + 1 ≤ p1) (hd : d + 3 * p ≤ 3 * p1) (h : GwO p1 (T ++ [x]) C o) : GdO p d T C o := by
  cases o with
  | inl f => trivial
  | inr v => exact Gd4.of hp hd h
theorem GdO.go {p d : Nat} {T C : List Th3} {o : Rd (Nat × Py)} {e : Nat × Py → Rd (Nat × Py)} (he : ∀ v, GwO v.1 v.2.1 v.2.2 (e v)) (h : GdO p d T C o) : GdO p d T C (bnd o e) := h.b (fun v hv => by
  have h2 := he v
  cases e2 : e v with
  | inl f => trivial
  | inr w =>
    rw [e2] at h2
    obtain ⟨a1, ⟨S, a2⟩, ⟨D, a3⟩, a4⟩ := hv
    obtain ⟨b1, ⟨S2, b2⟩, ⟨D2, b3⟩, b4⟩ : Gw v.1 v.2.1 v.2.2 w := h2
    exact ⟨by omega, ⟨S ++ S2, by rw [b2, a2, List.append_assoc]⟩, ⟨D ++ D2, by rw [b3, a3, List.append_assoc]⟩, by omega⟩)
theorem set_app {T S : List Th3} {x y : Th3} : (T ++ y :: S).set T.length x = T ++ x :: S := by rw [List.set_append_right _ _ (Nat.le_refl _), Nat.sub_self]; rfl
