abbrev Nl := Nat × List Int32
def nm1 (t : Nat → Int32) (n : Nat) (v : Nl) : Rd Nl := if isVa (hr t n v.1) = true ∧ ¬ hr t n v.1 ∈ v.2 then .inr (v.1 + 1, hr t n v.1 :: v.2) else .inl v.1
def nms (t : Nat → Int32) (n : Nat) : Nat → Rd Nl → Rd Nl
  | 0, o => o
  | k + 1, o => nms t n k (bnd o (fun v => if hr t n v.1 = 44 then nm1 t n (v.1 + 1, v.2) else .inr v))
def tkn (t : Nat → Int32) (n : Nat) (c : Int32) (o : Rd Nl) : Rd Nl := bnd o (fun v => if hr t n v.1 = c then .inr (v.1 + 1, v.2) else .inl v.1)
def rnl (t : Nat → Int32) (n : Nat) (o : Rd Nl) : Rd Nl := bnd o (fun v => if hr t n v.1 = 41 then .inr v else nms t n 4 (nm1 t n v))
abbrev Ky := Int32 × Nat
def rfe (t : Nat → Int32) (n : Nat) (K : List Ky) (p : Nat) (v : Nl) : Rd (Nat × List Ky) :=
  if hr t n v.1 = 61 then (if (hr t n p, v.2.length) ∈ K then .inl p else bnd (tk t n 59 (re t n 20 v.2 (v.1 + 1, 0))) (fun w => .inr (w.1, (hr t n p, v.2.length) :: K))) else .inl v.1
def rf (t : Nat → Int32) (n : Nat) (K : List Ky) (p : Nat) : Rd (Nat × List Ky) :=
  if isL (hr t n p) = true then bnd (tkn t n 41 (rnl t n (tkn t n 40 (.inr (p + 1, []))))) (rfe t n K p) else .inl p
def rpg (t : Nat → Int32) (n : Nat) : Nat → Nat × List Ky → Rd Nat
  | 0, v => .inl v.1
  | f + 1, v => if n ≤ v.1 then .inr v.2.length else bnd (rf t n v.2 v.1) (rpg t n f)
def Mn {α : Type} (p : Nat) (o : Rd (Nat × α)) : Prop := match o with | .inl _ => True | .inr v => p ≤ v.1
theorem Mn.b {α β : Type} {p : Nat} {o : Rd (Nat × α)} {e : Nat × α → Rd (Nat × β)} (h : Mn p o) (he : ∀ v, Mn v.1 (e v)) : Mn p (bnd o e) := by
  cases o with
  | inl f => trivial
  | inr v =>
    have h : p ≤ v.1 := h
    have := he v
    show Mn p (e v)
    cases e2 : e v with
    | inl f => trivial
    | inr w => rw [e2] at this; exact Nat.le_trans h this
theorem Mn.k {α : Type} {p q : Nat} {o : Rd (Nat × α)} (h : Mn q o) (hq : p ≤ q) : Mn p o := by
  cases o with
  | inl f => trivial
  | inr v => exact Nat.le_trans hq h
theorem Mn.tk {t : Nat → Int32} {n p : Nat} {c : Int32} {o : Rd (Nat × Nat)} (h : Mn p o) : Mn p (tk t n c o) := h.b (fun v => by
  by_cases c1 : hr t n v.1 = c
  · rw [if_pos c1]; exact Nat.le_succ _
  · rw [if_neg c1]; trivial)
theorem Mn.tc {t : Nat → Int32} {n p : Nat} {f : Int32 → Bool} {o : Rd (Nat × Nat)} (h : Mn p o) : Mn p (tc t n f o) := h.b (fun v => by
  by_cases c1 : f (hr t n v.1) = true
  · rw [if_pos c1]; exact Nat.le_succ _
  · rw [if_neg c1]; trivial)
theorem Mn.mos {t : Nat → Int32} {n p : Nat} {e : Nat × Nat → Rd (Nat × Nat)} (he : ∀ v, Mn v.1 (e v)) : ∀ (k : Nat) {o : Rd (Nat × Nat)}, Mn p o → Mn p (mos t n e k o) := by
  intro k
  induction k with
  | zero => intro o h; exact h
  | succ k ih =>
    intro o h
    refine ih (h.b (fun v => ?_))
    by_cases c1 : hr t n v.1 = 44
    · rw [if_pos c1]; exact (he (v.1 + 1, v.2)).k (Nat.le_succ _)
    · rw [if_neg c1]; exact Nat.le_refl _
theorem rn_mono {t : Nat → Int32} {n p q : Nat} (h : rn t n p = .inr q) : p ≤ q := by
  have hp : p ≤ (if hr t n p = 45 then p + 1 else p) := by split <;> omega
  revert h
  unfold rn
  dsimp only
  generalize (if hr t n p = 45 then p + 1 else p) = p1 at hp ⊢
  have h5 := dg_le t n 5 p1
  have h3 := dg_le t n 3 (dg t n 5 p1 + 1)
  by_cases c1 : dg t n 5 p1 = p1
  · rw [if_pos c1]; intro h; cases h
  rw [if_neg c1]
  by_cases c2 : hr t n (dg t n 5 p1) = 46
  · rw [if_pos c2]
    by_cases c3 : dg t n 3 (dg t n 5 p1 + 1) = dg t n 5 p1 + 1
    · rw [if_pos c3]; intro h; cases h
    · rw [if_neg c3]; intro h; cases h; omega
  · rw [if_neg c2]; intro h; cases h; omega
theorem re_mono {t : Nat → Int32} {n : Nat} : ∀ (r : Nat) (N : List Int32) (v : Nat × Nat), Mn v.1 (re t n r N v) := by
  intro r
  induction r with
  | zero => intro N v; trivial
  | succ r ih =>
    intro N v
    obtain ⟨p, c⟩ := v
    have b1 : Mn p (.inr (p + 1, c + 1) : Rd (Nat × Nat)) := Nat.le_succ _
    have e1 : ∀ N, Mn p (re t n r N (p + 1, c + 1)) := fun N => (ih N (p + 1, c + 1)).k (Nat.le_succ _)
    show Mn p (if 80 ≤ c then .inl p else if hr t n p = 45 ∨ isD (hr t n p) = true then bnd (rn t n p) (fun q => .inr (q, c + 1)) else if isVa (hr t n p) = true then (if hr t n p ∈ N then .inr (p + 1, c + 1) else .inl p) else if isL (hr t n p) = true then ag t n (re t n r N) (tk t n 40 (.inr (p + 1, c + 1))) else rsg t n (re t n r) N (hr t n p) p (c + 1))
    split
    · trivial
    split
    · cases e : rn t n p with
      | inl f => trivial
      | inr q => exact rn_mono e
    split
    · split
      · exact b1
      · trivial
    split
    · refine b1.tk.b (fun v => ?_)
      split
      · exact Nat.le_succ _
      · exact (Mn.mos (ih N) 4 (ih N v)).tk
    · unfold rsg
      split
      · exact e1 N
      split
      · exact b1.tc.b (ih N)
      split
      · exact ((e1 N).tc.b (ih N)).tk
      split
      · exact ((b1.tc.tk.b (ih N)).tk).b (ih _)
      split
      · exact ((((((b1.tk).b (ih N)).tk).b (ih N)).tk).b (ih N)).tk
      split
      · exact (((e1 N).tk).b (ih N)).tk
      split
      · exact b1.tc
      · trivial
theorem nm1_mono {t : Nat → Int32} {n : Nat} (v : Nl) : Mn v.1 (nm1 t n v) := by
  unfold nm1; split
  · exact Nat.le_succ _
  · trivial
theorem nms_mono {t : Nat → Int32} {n p : Nat} : ∀ (k : Nat) {o : Rd Nl}, Mn p o → Mn p (nms t n k o) := by
  intro k
  induction k with
  | zero => intro o h; exact h
  | succ k ih =>
    intro o h
    refine ih (h.b (fun v => ?_))
    split
    · exact (nm1_mono (v.1 + 1, v.2)).k (Nat.le_succ _)
    · exact Nat.le_refl _
theorem Mn.tkn {t : Nat → Int32} {n p : Nat} {c : Int32} {o : Rd Nl} (h : Mn p o) : Mn p (tkn t n c o) := h.b (fun v => by
  by_cases c1 : hr t n v.1 = c
  · rw [if_pos c1]; exact Nat.le_succ _
  · rw [if_neg c1]; trivial)
theorem rf_mono {t : Nat → Int32} {n : Nat} {K : List Ky} {p : Nat} : Mn (p + 1) (rf t n K p) := by
  unfold rf; split
  · have b1 : Mn (p + 1) (.inr (p + 1, []) : Rd Nl) := Nat.le_refl _
    refine Mn.b (Mn.tkn (b1.tkn.b (fun v => ?_))) (fun v => ?_)
    · split
      · exact Nat.le_refl _
      · exact nms_mono 4 (nm1_mono v)
    · unfold rfe; split
      · split
        · trivial
        · exact (((re_mono 20 v.2 (v.1 + 1, 0)).tk).k (Nat.le_succ _)).b (fun w => Nat.le_refl _)
      · trivial
  · trivial
