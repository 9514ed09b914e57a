abbrev Fw5 := Nat × Int32 × Int32 × Nat × List Int32 × Nat
def fvi (f : Fw5) : Nat := f.1
def fvt (f : Fw5) : Int32 := f.2.1
def fvw (f : Fw5) : Int32 := f.2.2.1
def fvh (f : Fw5) : Nat := f.2.2.2.1
def fvN (f : Fw5) : List Int32 := f.2.2.2.2.1
def fvg (f : Fw5) : Nat := f.2.2.2.2.2
noncomputable def sgK (t : Nat → Int32) (n r i : Nat) (N : List Int32) (v : Nat × Py) : Rd (Nat × Py) := if isSg (hr t n v.1) = true then adC (2, hr t n v.1, 0) (tkP t n 41 (reP t n r N (v.1 + 1, v.2.1.set i (5, hr t n v.1, 2), v.2.2))) else .inl v.1
def chC (g : Nat) (y : Nat × Py) : Rd (Nat × Py) := .inr (y.1, y.2.1, (y.2.2 ++ [(8, 0, 0)]).set g (7, Int32.ofNat (y.2.2.length + 1), 0))
noncomputable def chB (t : Nat → Int32) (n r : Nat) (N : List Int32) (g : Nat) (x : Nat × Py) : Rd (Nat × Py) := bnd (tkP t n 41 (reP t n r N (x.1, x.2.1, (x.2.2 ++ [(7, 0, 0)]).set g (6, Int32.ofNat (x.2.2.length + 1), 0)))) (chC x.2.2.length)
noncomputable def chA (t : Nat → Int32) (n r : Nat) (N : List Int32) (v : Nat × Py) : Rd (Nat × Py) := bnd (tkP t n 44 (reP t n r N (v.1, v.2.1, v.2.2 ++ [(6, 0, 0)]))) (chB t n r N v.2.2.length)
noncomputable def leK (t : Nat → Int32) (n r : Nat) (w : Int32) (N : List Int32) (v : Nat × Py) : Rd (Nat × Py) := reP t n r (w :: N) (v.1, v.2.1, v.2.2 ++ [(12, Int32.ofNat N.length, 0)])
noncomputable def kfP (t : Nat → Int32) (n r i : Nat) (th w : Int32) (h : Nat) (N : List Int32) (g : Nat) (o : Rd (Nat × Py)) : Rd (Nat × Py) :=
  if th = 5 then (if h = 0 then bnd o (sgK t n r i N) else adC (2, w, 0) (tkP t n 41 o))
  else if th = 2 then (if h = 0 then adC (5, 0, 0) (tkP t n 93 (bnd (tkP t n 44 o) (reP t n r N))) else adC (5, 0, 0) (tkP t n 93 o))
  else if th = 7 then (if h = 0 then bnd (tkP t n 44 o) (chA t n r N) else if h = 1 then bnd (tkP t n 44 o) (chB t n r N g) else bnd (tkP t n 41 o) (chC g))
  else if th = 11 then (if h = 0 then bnd (tkP t n 44 o) (leK t n r w N) else o)
  else if th = 12 then agP t n (cfin t n w i) (reP t n r N) (4 - h) (h + 1) o
  else if th = 9 then adC (10, w, 0) o
  else adC (oneC w) o
noncomputable def kfv (t : Nat → Int32) (n r : Nat) (f : Fw5) (o : Rd (Nat × Py)) : Rd (Nat × Py) := kfP t n r (fvi f) (fvt f) (fvw f) (fvh f) (fvN f) (fvg f) o
noncomputable def ckP (t : Nat → Int32) (n : Nat) : List Fw5 → Rd (Nat × Py) → Rd (Nat × Py)
  | [], o => o
  | f :: S, o => ckP t n S (kfv t n (19 - S.length) f o)
theorem kfP_l {t : Nat → Int32} {n r x i : Nat} {th w : Int32} {h : Nat} {N : List Int32} {g : Nat} : kfP t n r i th w h N g (.inl x) = .inl x := by
  unfold kfP
  split
  · split <;> rfl
  split
  · split <;> rfl
  split
  · split
    · rfl
    · split <;> rfl
  split
  · split <;> rfl
  split
  · exact agP_l _ _
  split
  · rfl
  · rfl
theorem ckP_l {t : Nat → Int32} {n x : Nat} : ∀ S : List Fw5, ckP t n S (.inl x) = .inl x := by
  intro S
  induction S with
  | nil => rfl
  | cons a S ih => show ckP t n S (kfv t n _ _ (.inl x)) = _; unfold kfv; rw [kfP_l]; exact ih
def cur5 (N0 : List Int32) : List Fw5 → List Int32
  | [] => N0
  | f :: _ => if fvt f = 11 ∧ fvh f = 1 then fvw f :: fvN f else fvN f
def Tc (b : Nat) (T : List Th3) (μ : Mem) : Prop := ∀ j x, T[j]? = some x → μ.1 16 (b + j) = x.1 ∧ μ.1 17 (b + j) = x.2.1 ∧ μ.1 18 (b + j) = x.2.2
theorem Tc.cong {b : Nat} {T : List Th3} {μ q : Mem} (h : Tc b T μ) (c : ∀ i, i < b + T.length → q.1 16 i = μ.1 16 i ∧ q.1 17 i = μ.1 17 i ∧ q.1 18 i = μ.1 18 i) : Tc b T q := by
  intro j x hx
  have hj : j < T.length := by
    rcases Nat.lt_or_ge j T.length with e | e
    · exact e
    · rw [List.getElem?_eq_none e] at hx; cases hx
  obtain ⟨a, b', d⟩ := c (b + j) (by omega)
  rw [a, b', d]; exact h j x hx
def Sk5 (N0 : List Int32) (b : Nat) (T : List Th3) (μ : Mem) : Nat → List Fw5 → Prop
  | _, [] => True
  | top, f :: S => fvi f < top ∧ (μ.1 19 S.length).toInt = ((b + fvi f : Nat) : Int) ∧ (μ.1 20 S.length).toInt = (fvh f : Int) ∧ thk (fvt f) ∧ (∃ x, T[fvi f]? = some x ∧ x.1 = fvt f ∧ (fvt f = 11 → isVa (fvw f) = true ∧ x.2.1 = fvw f - 109) ∧ (fvt f = 12 → x.2.1 = fvw f - 97 + 1) ∧ (fvt f ≠ 12 → x.2.2 = bel (fvt f))) ∧ fvh f ≤ hmx (fvt f) ∧ fvN f = cur5 N0 S ∧ Sk5 N0 b T μ (fvi f) S
theorem Sk5.cong {N0 : List Int32} {b : Nat} {T T2 : List Th3} {μ q : Mem} : ∀ {S : List Fw5} {top : Nat}, Sk5 N0 b T μ top S → (∀ i, i < top → T2[i]? = T[i]?) → (∀ j, j < S.length → q.1 19 j = μ.1 19 j ∧ q.1 20 j = μ.1 20 j) → Sk5 N0 b T2 q top S := by
  intro S
  induction S with
  | nil => intro top _ _ _; trivial
  | cons f S ih =>
    rintro top ⟨a1, a2, a3, a4, a5, a6, a7, a8⟩ c1 c2
    have d := c2 S.length (by simp)
    exact ⟨a1, by rw [d.1]; exact a2, by rw [d.2]; exact a3, a4, by rw [c1 _ a1]; exact a5, a6, a7, ih a8 (fun i hi => c1 i (by omega)) (fun j hj => c2 j (by simp; omega))⟩
theorem Sk5.up {N0 : List Int32} {b : Nat} {T : List Th3} {μ : Mem} {S : List Fw5} {top top2 : Nat} (h : Sk5 N0 b T μ top S) (hle : top ≤ top2) : Sk5 N0 b T μ top2 S := by
  cases S with
  | nil => trivial
  | cons f S => exact ⟨by have := h.1; omega, h.2⟩
def Mx5 (t : Nat → Int32) (n F b : Nat) (N0 : List Int32) (S : List Fw5) (v : Nat × Py) (μ : Mem) : Prop := MwT t n v.1 μ ∧ ((μ.1 0 27).toInt = (F : Int) ∧ (μ.1 14 F).toInt = (b : Int) ∧ b ≤ 100000) ∧ ((μ.1 0 28).toInt = ((b + v.2.1.length : Nat) : Int) ∧ v.2.1.length ≤ 80) ∧ (μ.1 0 32).toInt = (S.length : Int) ∧ S.length ≤ 20 ∧ Sk5 N0 b v.2.1 μ v.2.1.length S ∧ Tl μ (cur5 N0 S) ∧ Tc b v.2.1 μ
def Mh5 (b : Nat) (μ q : Mem) : Prop := (∀ i k, i ≠ 0 → i < 16 → q.1 i k = μ.1 i k) ∧ ∀ k, k < b → q.1 16 k = μ.1 16 k ∧ q.1 17 k = μ.1 17 k ∧ q.1 18 k = μ.1 18 k
theorem Mh5.rf {b : Nat} {μ : Mem} : Mh5 b μ μ := ⟨fun _ _ _ _ => rfl, fun _ _ => ⟨rfl, rfl, rfl⟩⟩
theorem Mh5.tr {b : Nat} {μ q z : Mem} (h : Mh5 b μ q) (h2 : Mh5 b q z) : Mh5 b μ z := ⟨fun i k x y => (h2.1 i k x y).trans (h.1 i k x y), fun k hk => ⟨((h2.2 k hk).1).trans (h.2 k hk).1, ((h2.2 k hk).2.1).trans (h.2 k hk).2.1, ((h2.2 k hk).2.2).trans (h.2 k hk).2.2⟩⟩
theorem Me.mh5 {b : Nat} {μ q : Mem} (h : Me μ q) : Mh5 b μ q := ⟨fun i k a _ => h i k (fun e => a e.1), fun k _ => ⟨h 16 k (by omega), h 17 k (by omega), h 18 k (by omega)⟩⟩
theorem mx5_me {t : Nat → Int32} {n F b : Nat} {N0 : List Int32} {S : List Fw5} {v : Nat × Py} {μ q : Mem} {p : Nat} (h : Mx5 t n F b N0 S v μ) (e : Me μ q) (hw : MwT t n p q) : Mx5 t n F b N0 S (p, v.2) q := by
  obtain ⟨_, ⟨h1, h2, h3⟩, ⟨h4, h5⟩, h6, h7, h8, h9, h10⟩ := h
  exact ⟨hw, ⟨by rw [e 0 27 (by omega)]; exact h1, by rw [e 14 F (by omega)]; exact h2, h3⟩, ⟨by rw [e 0 28 (by omega)]; exact h4, h5⟩, by rw [e 0 32 (by omega)]; exact h6, h7, h8.cong (fun i _ => rfl) (fun j _ => ⟨e _ _ (by omega), e _ _ (by omega)⟩), fun a ha => by rw [e 21 _ (by omega)]; exact h9 a ha, h10.cong (fun i _ => ⟨e _ _ (by omega), e _ _ (by omega), e _ _ (by omega)⟩)⟩
theorem Mx5.c {t : Nat → Int32} {n F b : Nat} {N0 : List Int32} {S : List Fw5} {p : Nat} {T C C2 : List Th3} {μ : Mem} (h : Mx5 t n F b N0 S (p, T, C) μ) : Mx5 t n F b N0 S (p, T, C2) μ := h
theorem app_lt {T : List Th3} {x : Th3} {i : Nat} (h : i < T.length) : (T ++ [x])[i]? = T[i]? := List.getElem?_append_left h
theorem mx5_ly {t : Nat → Int32} {n F b : Nat} {N0 : List Int32} {S : List Fw5} {p : Nat} {T C : List Th3} {μ : Mem} (s w k : Int32) (h : Mx5 t n F b N0 S (p, T, C) μ) (hc : T.length < 80) : Mx5 t n F b N0 S (p, T ++ [(s, w, k)], C) (Ly μ s w k) ∧ Mh5 b μ (Ly μ s w k) := by
  have e1 : (1 : Int32).toInt = 1 := by decide
  obtain ⟨hw, ⟨h1, h2, h3⟩, ⟨h4, h5⟩, h6, h7, h8, h9, h10⟩ := h
  have h4 : (μ.1 0 28).toInt = ((b + T.length : Nat) : Int) := h4
  have h10 : Tc b T μ := h10
  have h8 : Sk5 N0 b T μ T.length S := h8
  have tn := tn_of h4
  have el : (T ++ [(s, w, k)]).length = T.length + 1 := by rw [List.length_append]; rfl
  have g0 : ∀ k', k' ≠ 28 → (Ly μ s w k).1 0 k' = μ.1 0 k' := by
    intro k' hk; unfold Ly; rw [sF_1, if_pos rfl, if_neg hk, sF_i (by decide), sF_i (by decide), sF_i (by decide)]
  have g : ∀ i k', i ≠ 0 → i ≠ 16 → i ≠ 17 → i ≠ 18 → (Ly μ s w k).1 i k' = μ.1 i k' := by
    intro i k' a0 a1 a2 a3; unfold Ly; rw [sF_i a0, sF_i a3, sF_i a2, sF_i a1]
  have g16 : ∀ j, (Ly μ s w k).1 16 j = if j = b + T.length then s else μ.1 16 j := by
    intro j; unfold Ly; rw [sF_i (by decide), sF_i (by decide), sF_i (by decide), sF_1, if_pos rfl, tn]
  have g17 : ∀ j, (Ly μ s w k).1 17 j = if j = b + T.length then w else μ.1 17 j := by
    intro j; unfold Ly; rw [sF_i (by decide), sF_i (by decide), sF_1, if_pos rfl, tn, sF_i (by decide)]
  have g18 : ∀ j, (Ly μ s w k).1 18 j = if j = b + T.length then k else μ.1 18 j := by
    intro j; unfold Ly; rw [sF_i (by decide), sF_1, if_pos rfl, tn, sF_i (by decide), sF_i (by decide)]
  have g28 : ((Ly μ s w k).1 0 28).toInt = ((b + (T.length + 1) : Nat) : Int) := by
    rw [ly_28, ti_add (by omega) (by omega), h4, e1]; omega
  refine ⟨⟨mw_of hw (g0 3 (by decide)) (g0 4 (by decide)) (g0 5 (by decide)) (fun j => g 1 j (by decide) (by decide) (by decide) (by decide)), ⟨by rw [g0 27 (by decide)]; exact h1, by rw [g 14 F (by decide) (by decide) (by decide) (by decide)]; exact h2, h3⟩, ⟨by show _ = ((b + (T ++ [(s, w, k)]).length : Nat) : Int); rw [el]; exact g28, by show (T ++ [(s, w, k)]).length ≤ 80; omega⟩, by rw [g0 32 (by decide)]; exact h6, h7, ?_, fun a ha => by rw [g 21 _ (by decide) (by decide) (by decide) (by decide)]; exact h9 a ha, fun j x hx => ?_⟩, fun i k' a0 a1 => g i k' a0 (by omega) (by omega) (by omega), fun j hj => ⟨by rw [g16, if_neg (by omega)], by rw [g17, if_neg (by omega)], by rw [g18, if_neg (by omega)]⟩⟩
  · show Sk5 N0 b (T ++ [(s, w, k)]) _ (T ++ [(s, w, k)]).length S
    rw [el]
    exact (h8.cong (fun i hi => app_lt hi) (fun j _ => ⟨g 19 j (by decide) (by decide) (by decide) (by decide), g 20 j (by decide) (by decide) (by decide) (by decide)⟩)).up (Nat.le_succ _)
  · have hx : (T ++ [(s, w, k)])[j]? = some x := hx
    rw [g16, g17, g18]
    by_cases cj : j = T.length
    · rw [cj, List.getElem?_append_right (Nat.le_refl _), Nat.sub_self] at hx
      have hx : (s, w, k) = x := Option.some.inj hx
      rw [if_pos (by omega), if_pos (by omega), if_pos (by omega), ← hx]; exact ⟨rfl, rfl, rfl⟩
    · rw [if_neg (by omega), if_neg (by omega), if_neg (by omega)]
      by_cases c2 : j < T.length
      · rw [app_lt c2] at hx; exact h10 j x hx
      · rw [List.getElem?_eq_none (by omega)] at hx; cases hx
theorem cur5_new {i : Nat} {s x : Int32} {N0 : List Int32} {S : List Fw5} {g : Nat} : cur5 N0 ((i, s, x, 0, cur5 N0 S, g) :: S) = cur5 N0 S := if_neg (fun e => absurd (show (0 : Nat) = 1 from e.2) (by decide))
theorem mx5_open {t : Nat → Int32} {n F b : Nat} {N0 : List Int32} {S : List Fw5} {p : Nat} {T C : List Th3} {μ : Mem} {s w x k : Int32} {g : Nat} (h : Mx5 t n F b N0 S (p, T, C) μ) (hp : p < n) (hc : T.length < 80) (hS : S.length < 20) (ht : thk s) (hk : s ≠ 12 → k = bel s) (hx : s = 11 → isVa x = true ∧ w = x - 109) (hy : s = 12 → w = x - 97 + 1) : pk (p_X12_layOpen s w k μ) (fun r => r.1 = 1 ∧ Mh5 b μ r.2 ∧ Mx5 t n F b N0 ((T.length, s, x, 0, cur5 N0 S, g) :: S) (p + 1, T ++ [(s, w, k)], C) r.2) := by
  have e1 : (1 : Int32).toInt = 1 := by decide
  refine pk_mono (q_layOpen s w k μ) (fun r hr => ?_)
  obtain ⟨e, _, _⟩ := hr
  subst e
  refine ⟨rfl, ?_⟩
  have hE : Me μ (sF μ 0 4 (μ.1 0 4 + 1)) := Me.put (by omega) _
  have h1 := mx5_me h hE (mw_next h.1 hp)
  obtain ⟨h2, hM⟩ := mx5_ly s w k h1 hc
  generalize Ly (sF μ 0 4 (μ.1 0 4 + 1)) s w k = z at h2 hM ⊢
  obtain ⟨hw, ⟨k1, k2, k3⟩, ⟨k4, k5⟩, k6, k7, k8, k9, k10⟩ := h2
  have el : (T ++ [(s, w, k)]).length = T.length + 1 := by rw [List.length_append]; rfl
  have k4 : (z.1 0 28).toInt = ((b + (T ++ [(s, w, k)]).length : Nat) : Int) := k4
  have t32 := tn_of k6
  have g0 : ∀ k', k' ≠ 32 → (Opn z).1 0 k' = z.1 0 k' := by
    intro k' hk; unfold Opn; rw [sF_1, if_pos rfl, if_neg hk, sF_i (by decide), sF_i (by decide)]
  have gg : ∀ i k', i ≠ 0 → i ≠ 19 → i ≠ 20 → (Opn z).1 i k' = z.1 i k' := by
    intro i k' a0 a1 a2; unfold Opn; rw [sF_i a0, sF_i a2, sF_i a1]
  have g19 : ∀ j, (Opn z).1 19 j = if j = S.length then z.1 0 28 - 1 else z.1 19 j := by
    intro j; unfold Opn; rw [sF_i (by decide), sF_i (by decide), sF_1, if_pos rfl, t32]
  have g20 : ∀ j, (Opn z).1 20 j = if j = S.length then 0 else z.1 20 j := by
    intro j; unfold Opn; rw [sF_i (by decide), sF_1, if_pos rfl, sF_i (by decide)]
    show (if j = (z.1 0 32).toNatClampNeg then _ else _) = _
    rw [t32]
  refine ⟨(hE.mh5.tr hM).tr ⟨fun i k' a0 a1 => gg i k' a0 (by omega) (by omega), fun j _ => ⟨gg _ _ (by decide) (by decide) (by decide), gg _ _ (by decide) (by decide) (by decide), gg _ _ (by decide) (by decide) (by decide)⟩⟩, mw_of hw (g0 3 (by decide)) (g0 4 (by decide)) (g0 5 (by decide)) (fun j => gg 1 j (by decide) (by decide) (by decide)), ⟨by rw [g0 27 (by decide)]; exact k1, by rw [gg 14 F (by decide) (by decide) (by decide)]; exact k2, k3⟩, ⟨by rw [g0 28 (by decide)]; exact k4, k5⟩, ?_, by simp; omega, ?_, ?_, k10.cong (fun i _ => ⟨gg _ _ (by decide) (by decide) (by decide), gg _ _ (by decide) (by decide) (by decide), gg _ _ (by decide) (by decide) (by decide)⟩)⟩
  · rw [opn_32, ti_add (by omega) (by omega), k6, e1]; simp
  · show Sk5 N0 b (T ++ [(s, w, k)]) (Opn z) (T ++ [(s, w, k)]).length _
    refine ⟨by show T.length < (T ++ [(s, w, k)]).length; omega, ?_, ?_, ht, ⟨(s, w, k), ?_, rfl, hx, hy, hk⟩, Nat.zero_le _, rfl, ?_⟩
    · rw [g19, if_pos rfl, ti_sub (by omega) (by omega), k4, e1]
      show _ = ((b + T.length : Nat) : Int); omega
    · rw [g20, if_pos rfl]; rfl
    · show (T ++ [(s, w, k)])[T.length]? = _
      rw [List.getElem?_append_right (Nat.le_refl _), Nat.sub_self]; rfl
    · have h8 : Sk5 N0 b T μ T.length S := h.2.2.2.2.2.1
      have k8' : Sk5 N0 b (T ++ [(s, w, k)]) z (T ++ [(s, w, k)]).length S := k8
      cases S with
      | nil => trivial
      | cons f S =>
        have kk : Sk5 N0 b (T ++ [(s, w, k)]) z T.length (f :: S) := ⟨h8.1, k8'.2⟩
        exact kk.cong (fun i _ => rfl) (fun j hj => ⟨by rw [g19, if_neg (by omega)], by rw [g20, if_neg (by omega)]⟩)
  · rw [cur5_new]
    intro a ha
    rw [gg 21 _ (by decide) (by decide) (by decide)]; exact k9 a ha
theorem mx5_shut {t : Nat → Int32} {n F b : Nat} {N0 : List Int32} {S : List Fw5} {fr : Fw5} {v : Nat × Py} {μ : Mem} (h : Mx5 t n F b N0 (fr :: S) v μ) (hT : Tl μ (cur5 N0 S)) : Mx5 t n F b N0 S v (sF μ 0 32 (μ.1 0 32 - 1)) ∧ Mh5 b μ (sF μ 0 32 (μ.1 0 32 - 1)) := by
  have e1 : (1 : Int32).toInt = 1 := by decide
  obtain ⟨hw, ⟨h1, h2, h3⟩, ⟨h4, h5⟩, h6, h7, h8, _, h10⟩ := h
  have h6 : (μ.1 0 32).toInt = (S.length : Int) + 1 := by rw [h6]; simp
  have h7 : S.length + 1 ≤ 20 := h7
  have g0 : ∀ k, k ≠ 32 → (sF μ 0 32 (μ.1 0 32 - 1)).1 0 k = μ.1 0 k := fun k hk => by rw [sF_k hk]
  have g : ∀ i k, i ≠ 0 → (sF μ 0 32 (μ.1 0 32 - 1)).1 i k = μ.1 i k := fun i k hi => by rw [sF_i hi]
  refine ⟨⟨mw_of hw (g0 3 (by decide)) (g0 4 (by decide)) (g0 5 (by decide)) (fun j => g 1 j (by decide)), ⟨by rw [g0 27 (by decide)]; exact h1, by rw [g 14 F (by decide)]; exact h2, h3⟩, ⟨by rw [g0 28 (by decide)]; exact h4, h5⟩, by rw [sF_v, ti_sub (by omega) (by omega), h6, e1]; omega, by omega, ?_, fun a ha => by rw [g 21 _ (by decide)]; exact hT a ha, h10.cong (fun i _ => ⟨g _ _ (by decide), g _ _ (by decide), g _ _ (by decide)⟩)⟩, fun i k a0 _ => g i k a0, fun k _ => ⟨g _ _ (by decide), g _ _ (by decide), g _ _ (by decide)⟩⟩
  have hs : Sk5 N0 b v.2.1 μ (fvi fr) S := h8.2.2.2.2.2.2.2
  exact (hs.up (Nat.le_of_lt h8.1)).cong (fun i _ => rfl) (fun j _ => ⟨g _ _ (by decide), g _ _ (by decide)⟩)
