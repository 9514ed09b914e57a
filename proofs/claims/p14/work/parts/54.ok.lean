/-! THE MACHINE: what is to be done, what has come, vars; what holds of them together -/
abbrev Act := Nat × Nat × Int
abbrev Evn := Nat → Option Nat
abbrev Fm := Evn × Nat
abbrev Zc := Nat × (Nat → Prop) × Bool
def Dm (ρ : Evn) : Nat → Prop := fun u => ∃ x, ρ u = some x
def ud (ρ : Evn) (v : Nat) (o : Option Nat) : Evn := fun u => if u = v then o else ρ u
/-- good for V: its registers of V, not above 40 -/
def Gd (μ : Mem) (V : Nat → Prop) (x : Nat) : Prop := Vl μ V x ∧ iv μ 33 x ≤ 40
theorem Gd.gr {μ μ' : Mem} {V : Nat → Prop} {x : Nat} (h : Gd μ V x) (g : Gr μ μ') : Gd μ' V x := ⟨h.1.gr g, by rw [(g.2 x h.1.lt).2.2.2]; exact h.2⟩
theorem Gd.mono {μ : Mem} {V W : Nat → Prop} {x : Nat} (h : Gd μ V x) (hw : ∀ u, V u → W u) : Gd μ W x := ⟨h.1.mono hw, h.2⟩
def Lv (μ : Mem) (V : Nat → Prop) (cs : List Nat) (R : List Fm) : Prop := (∀ x, x ∈ cs → Gd μ V x) ∧ (∀ e, e ∈ R → ∀ u x, e.1 u = some x → Gd μ V x)
theorem Lv.gr {μ μ' : Mem} {V : Nat → Prop} {cs : List Nat} {R : List Fm} (h : Lv μ V cs R) (g : Gr μ μ') : Lv μ' V cs R := ⟨fun x hx => (h.1 x hx).gr g, fun e he u x hu => (h.2 e he u x hu).gr g⟩
theorem Lv.mono {μ : Mem} {V W : Nat → Prop} {cs : List Nat} {R : List Fm} (h : Lv μ V cs R) (hw : ∀ u, V u → W u) : Lv μ W cs R := ⟨fun x hx => (h.1 x hx).mono hw, fun e he u x hu => (h.2 e he u x hu).mono hw⟩
theorem Lv.cons {μ : Mem} {V : Nat → Prop} {cs : List Nat} {R : List Fm} {x : Nat} (h : Lv μ V cs R) (hx : Gd μ V x) : Lv μ V (x :: cs) R := by
  refine ⟨fun y hy => ?_, h.2⟩
  rcases List.mem_cons.mp hy with e | e
  · rw [e]; exact hx
  · exact h.1 y e
theorem Lv.drop {μ : Mem} {V : Nat → Prop} {cs : List Nat} {R : List Fm} (h : Lv μ V cs R) (k : Nat) : Lv μ V (cs.drop k) R := ⟨fun x hx => h.1 x (List.mem_of_mem_drop hx), h.2⟩
/-- the acts that are left can be done -/
def Ok (th wo be : Nat → Int) (N : Nat) (μ : Mem) : List Act → List Fm → List Nat → List Zc → (Nat → Prop) → Prop
  | [], R, cs, Zs, _ => (∃ f, R = [f] ∧ cs.length = f.2 + 1) ∧ Zs = []
  | (_, _, _) :: _, [], _, _, _ => False
  | (w, a, b) :: L, (ρ, c0) :: R, cs, Zs, V => c0 ≤ cs.length ∧ (
      (w = 0 ∧ ∃ q, q ≤ N ∧ Fo th wo be (Dm ρ) 1 a q ∧ ∀ x, Ok th wo be N μ L ((ρ, c0) :: R) (x :: cs) Zs V)
    ∨ (w = 1 ∧ a < N ∧ ∃ k : Nat, Kd (th a) (wo a) k ∧ be a = (k : Int) ∧ c0 + k ≤ cs.length ∧ ∀ x, Ok th wo be N μ L ((ρ, c0) :: R) (x :: cs.drop k) Zs V)
    ∨ (w = 2 ∧ th a = 7 ∧ (∃ q, q ≤ N ∧ be a = 3 ∧ Fo th wo be (Dm ρ) 3 (a + 1) q) ∧ c0 + 1 ≤ cs.length ∧ ∀ x, Ok th wo be N μ L ((ρ, c0) :: R) (x :: cs.drop 1) Zs V)
    ∨ (w = 3 ∧ (∃ v m q : Nat, th a = 11 ∧ be a = 2 ∧ wo a = (v : Int) ∧ v < 14 ∧ q ≤ N ∧ Fo th wo be (Dm ρ) 1 (a + 1) m ∧ Fo th wo be (Sp (Dm ρ) v) 1 m q) ∧ c0 + 1 ≤ cs.length ∧ ∀ x, Ok th wo be N μ L ((ρ, c0) :: R) (x :: cs.drop 1) Zs V)
    ∨ (w = 4 ∧ a < 14 ∧ ∃ o : Option Nat, (o = none ∨ ∃ y : Nat, o = some y ∧ b = (y : Int) ∧ Gd μ V y) ∧ Ok th wo be N μ L ((ud ρ a o, c0) :: R) cs Zs V)
    ∨ (w = 5 ∧ Zs = [] ∧ R ≠ [] ∧ cs.length = c0 + 1 ∧ Ok th wo be N μ L R cs [] V)
    ∨ (w = 6 ∧ ∃ (V0 : Nat → Prop) (Z : List Zc) (p q : Nat), b = (p : Int) ∧ Zs = (a, V0, false) :: Z ∧ q ≤ N ∧ Fo th wo be (Dm ρ) 1 p q ∧ c0 + 1 ≤ cs.length ∧ Lv μ V0 (cs.drop 1) ((ρ, c0) :: R) ∧ ∀ x, Ok th wo be N μ L ((ρ, c0) :: R) (x :: cs.drop 1) Z V0)
    ∨ (w = 7 ∧ ∃ (V0 : Nat → Prop) (Z : List Zc) (y : Nat), b = (y : Int) ∧ Zs = (a, V0, true) :: Z ∧ y < nv μ 56 ∧ iv μ 30 y ≠ 2 ∧ c0 + 1 ≤ cs.length ∧ Lv μ V0 (cs.drop 1) ((ρ, c0) :: R) ∧ ∀ x, Ok th wo be N μ L ((ρ, c0) :: R) (x :: cs.drop 1) Z V0))
theorem Ok.gr {th wo be : Nat → Int} {N : Nat} {μ μ' : Mem} (g : Gr μ μ') : ∀ (L : List Act) (R : List Fm) (cs : List Nat) (Zs : List Zc) (V : Nat → Prop), Ok th wo be N μ L R cs Zs V → Ok th wo be N μ' L R cs Zs V := by
  intro L
  induction L with
  | nil => intro R cs Zs V h; exact h
  | cons t L ih =>
    obtain ⟨w, a, b⟩ := t
    intro R cs Zs V h
    cases R with
    | nil => exact h
    | cons f R =>
      obtain ⟨ρ, c0⟩ := f
      obtain ⟨hc, h⟩ := h
      refine ⟨hc, ?_⟩
      rcases h with ⟨h1, q, h2, h3, h4⟩ | ⟨h1, h2, k, h3, h4, h5, h6⟩ | ⟨h1, h2, h3, h4, h5⟩ | ⟨h1, h2, h3, h4⟩ | ⟨h1, h2, o, h3, h4⟩ | ⟨h1, h2, h3, h4, h5⟩ | ⟨h1, V0, Z, p, q, h2, h3, h4, h5, h6, h7, h8⟩ | ⟨h1, V0, Z, y, h2, h3, h4, h5, h6, h7, h8⟩
      · exact Or.inl ⟨h1, q, h2, h3, fun x => ih _ _ _ _ (h4 x)⟩
      · exact Or.inr (Or.inl ⟨h1, h2, k, h3, h4, h5, fun x => ih _ _ _ _ (h6 x)⟩)
      · exact Or.inr (Or.inr (Or.inl ⟨h1, h2, h3, h4, fun x => ih _ _ _ _ (h5 x)⟩))
      · exact Or.inr (Or.inr (Or.inr (Or.inl ⟨h1, h2, h3, fun x => ih _ _ _ _ (h4 x)⟩)))
      · exact Or.inr (Or.inr (Or.inr (Or.inr (Or.inl ⟨h1, h2, o, h3.imp id (fun ⟨y, y1, y2, y3⟩ => ⟨y, y1, y2, y3.gr g⟩), ih _ _ _ _ h4⟩))))
      · exact Or.inr (Or.inr (Or.inr (Or.inr (Or.inr (Or.inl ⟨h1, h2, h3, h4, ih _ _ _ _ h5⟩)))))
      · exact Or.inr (Or.inr (Or.inr (Or.inr (Or.inr (Or.inr (Or.inl ⟨h1, V0, Z, p, q, h2, h3, h4, h5, h6, h7.gr g, fun x => ih _ _ _ _ (h8 x)⟩))))))
      · exact Or.inr (Or.inr (Or.inr (Or.inr (Or.inr (Or.inr (Or.inr ⟨h1, V0, Z, y, h2, h3, Nat.lt_of_lt_of_le h4 g.1, by rw [(g.2 y h4).1]; exact h5, h6, h7.gr g, fun x => ih _ _ _ _ (h8 x)⟩))))))
theorem Ok.mono {th wo be : Nat → Int} {N : Nat} {μ : Mem} : ∀ (L : List Act) (R : List Fm) (cs : List Nat) (Zs : List Zc) (V W : Nat → Prop), (∀ u, V u → W u) → Ok th wo be N μ L R cs Zs V → Ok th wo be N μ L R cs Zs W := by
  intro L
  induction L with
  | nil => intro R cs Zs V W _ h; exact h
  | cons t L ih =>
    obtain ⟨w, a, b⟩ := t
    intro R cs Zs V W hw h
    cases R with
    | nil => exact h
    | cons f R =>
      obtain ⟨ρ, c0⟩ := f
      obtain ⟨hc, h⟩ := h
      refine ⟨hc, ?_⟩
      rcases h with ⟨h1, q, h2, h3, h4⟩ | ⟨h1, h2, k, h3, h4, h5, h6⟩ | ⟨h1, h2, h3, h4, h5⟩ | ⟨h1, h2, h3, h4⟩ | ⟨h1, h2, o, h3, h4⟩ | ⟨h1, h2, h3, h4, h5⟩ | h | h
      · exact Or.inl ⟨h1, q, h2, h3, fun x => ih _ _ _ _ _ hw (h4 x)⟩
      · exact Or.inr (Or.inl ⟨h1, h2, k, h3, h4, h5, fun x => ih _ _ _ _ _ hw (h6 x)⟩)
      · exact Or.inr (Or.inr (Or.inl ⟨h1, h2, h3, h4, fun x => ih _ _ _ _ _ hw (h5 x)⟩))
      · exact Or.inr (Or.inr (Or.inr (Or.inl ⟨h1, h2, h3, fun x => ih _ _ _ _ _ hw (h4 x)⟩)))
      · exact Or.inr (Or.inr (Or.inr (Or.inr (Or.inl ⟨h1, h2, o, h3.imp id (fun ⟨y, y1, y2, y3⟩ => ⟨y, y1, y2, y3.mono hw⟩), ih _ _ _ _ _ hw h4⟩))))
      · exact Or.inr (Or.inr (Or.inr (Or.inr (Or.inr (Or.inl ⟨h1, h2, h3, h4, ih _ _ _ _ _ hw h5⟩)))))
      · exact Or.inr (Or.inr (Or.inr (Or.inr (Or.inr (Or.inr (Or.inl h))))))
      · exact Or.inr (Or.inr (Or.inr (Or.inr (Or.inr (Or.inr (Or.inr h))))))
/-- the kids of a thing: where they begin -/
def kids (bh : Nat → Int) : Nat → Nat → List Nat
  | _, 0 => []
  | p, k + 1 => p :: kids bh (bh p).toNat k
theorem kids_len (bh : Nat → Int) : ∀ (k p : Nat), (kids bh p k).length = k := by
  intro k
  induction k with
  | zero => intro p; rfl
  | succ k ih => intro p; simp [kids, ih]
def wk (p : Nat) : Act := (0, p, 0)
/-- what is behind each thing is known -/
def Bq (be bh : Nat → Int) (N : Nat) : Prop := ∀ r, r < N → ∃ q, Sh be 1 r q ∧ bh r = (q : Int) ∧ q ≤ N
theorem Bq.at {be bh : Nat → Int} {N p q : Nat} (h : Bq be bh N) (s : Sh be 1 p q) (hq : q ≤ N) : bh p = (q : Int) := by
  have := s.le
  obtain ⟨q2, h1, h2, _⟩ := h p (by omega)
  rw [h2, s.det _ h1]
theorem ok_kids {th wo be bh : Nat → Int} {N : Nat} {μ : Mem} (hB : Bq be bh N) {ρ : Evn} {c0 : Nat} {R : List Fm} {Zs : List Zc} {V : Nat → Prop} {L : List Act} : ∀ (k p q : Nat) (cs : List Nat), q ≤ N → c0 ≤ cs.length → Fo th wo be (Dm ρ) k p q → (∀ ys : List Nat, ys.length = k → Ok th wo be N μ L ((ρ, c0) :: R) (ys ++ cs) Zs V) → Ok th wo be N μ ((kids bh p k).map wk ++ L) ((ρ, c0) :: R) cs Zs V := by
  intro k
  induction k with
  | zero => intro p q cs _ _ _ h; exact h [] rfl
  | succ k ih =>
    intro p q cs hq hc f h
    obtain ⟨m, f1, f2⟩ := f.one
    have l2 := f2.le
    have e := hB.at f1.sh (by omega)
    refine ⟨hc, Or.inl ⟨rfl, m, by omega, f1, fun x => ?_⟩⟩
    rw [e]
    refine ih m q (x :: cs) hq (by simp; omega) f2 (fun ys hy => ?_)
    have := h (ys ++ [x]) (by simp [hy])
    rw [List.append_assoc] at this
    exact this
def sz (bh : Nat → Int) (a : Nat) : Nat := 1 + (bh a - (a : Int) - 1).toNat
def pot (bh : Nat → Int) (t : Act) : Nat := if t.1 = 0 then sz bh t.2.1 else if t.1 = 2 then 1 + (bh t.2.1 - bh (t.2.1 + 1)).toNat else if t.1 = 3 then 1 + (bh t.2.1 - bh (t.2.1 + 1)).toNat else if t.1 = 6 then 2 + sz bh t.2.2.toNat else if t.1 = 7 then 3 else 1
def stp (bh : Nat → Int) (t : Act) : Nat := if t.1 = 0 then 4 * sz bh t.2.1 else if t.1 = 2 then 3 + 4 * (bh t.2.1 - bh (t.2.1 + 1)).toNat else if t.1 = 3 then 2 + 4 * (bh t.2.1 - bh (t.2.1 + 1)).toNat else if t.1 = 6 then 2 + 4 * sz bh t.2.2.toNat else 1
def Sp4 (bh : Nat → Int) : List Act → Nat
  | [] => 0
  | t :: L => stp bh t + Sp4 bh L
/-- no function's acts and values are above 81 -/
def Bd (bh : Nat → Int) : List Act → Nat → List Fm → Nat → Prop
  | [], acc, R, c => ∃ f, R = [f] ∧ acc + c ≤ 81 + f.2
  | _ :: _, _, [], _ => False
  | t :: L, acc, f :: R, c => if t.1 = 5 then acc + c ≤ 81 + f.2 ∧ Bd bh L 1 R f.2 else Bd bh L (acc + pot bh t) (f :: R) c
theorem pot_1 (bh : Nat → Int) (t : Act) : 1 ≤ pot bh t := by
  unfold pot sz
  split
  · omega
  · split
    · omega
    · split
      · omega
      · split
        · omega
        · split <;> omega
theorem Bd.len {bh : Nat → Int} : ∀ {L : List Act} {acc : Nat} {R : List Fm} {c : Nat}, Bd bh L acc R c → ∃ f, f ∈ R ∧ acc + L.length + c ≤ 82 * R.length + f.2 ∧ R.getLast? = some f := by
  intro L
  induction L with
  | nil =>
    intro acc R c h
    obtain ⟨f, rfl, h⟩ := h
    exact ⟨f, by simp, by simp; omega, rfl⟩
  | cons t L ih =>
    intro acc R c h
    cases R with
    | nil => exact h.elim
    | cons f R =>
      have h : (if t.1 = 5 then acc + c ≤ 81 + f.2 ∧ Bd bh L 1 R f.2 else Bd bh L (acc + pot bh t) (f :: R) c) := h
      by_cases e : t.1 = 5
      · rw [if_pos e] at h
        obtain ⟨h1, h2⟩ := h
        obtain ⟨g, g1, g2, g3⟩ := ih h2
        refine ⟨g, by simp [g1], by simp; omega, ?_⟩
        cases R with
        | nil => simp at g1
        | cons f2 R => rw [List.getLast?_cons_cons]; exact g3
      · rw [if_neg e] at h
        obtain ⟨g, g1, g2, g3⟩ := ih h
        have := pot_1 bh t
        exact ⟨g, g1, by simp at g2 ⊢; omega, g3⟩
theorem Bd.mono {bh : Nat → Int} : ∀ {L : List Act} {acc acc2 : Nat} {R : List Fm} {c c2 : Nat}, Bd bh L acc R c → acc2 + c2 ≤ acc + c → Bd bh L acc2 R c2 := by
  intro L
  induction L with
  | nil => intro acc acc2 R c c2 h hle; obtain ⟨f, e, h⟩ := h; exact ⟨f, e, by omega⟩
  | cons t L ih =>
    intro acc acc2 R c c2 h hle
    cases R with
    | nil => exact h.elim
    | cons f R =>
      have h : (if t.1 = 5 then acc + c ≤ 81 + f.2 ∧ Bd bh L 1 R f.2 else Bd bh L (acc + pot bh t) (f :: R) c) := h
      show (if t.1 = 5 then acc2 + c2 ≤ 81 + f.2 ∧ Bd bh L 1 R f.2 else Bd bh L (acc2 + pot bh t) (f :: R) c2)
      by_cases e : t.1 = 5
      · rw [if_pos e] at h ⊢
        exact ⟨by omega, h.2⟩
      · rw [if_neg e] at h ⊢
        exact ih h (by omega)
/-- acts ahead of others, none of them a leaving -/
theorem Bd.app {bh : Nat → Int} {L : List Act} {f : Fm} {R : List Fm} : ∀ {A : List Act} {acc c : Nat}, (∀ t, t ∈ A → t.1 ≠ 5) → Bd bh L (acc + (A.map (pot bh)).sum) (f :: R) c → Bd bh (A ++ L) acc (f :: R) c := by
  intro A
  induction A with
  | nil => intro acc c _ h; simpa using h
  | cons t A ih =>
    intro acc c hA h
    show (if t.1 = 5 then acc + c ≤ 81 + f.2 ∧ Bd bh (A ++ L) 1 R f.2 else Bd bh (A ++ L) (acc + pot bh t) (f :: R) c)
    rw [if_neg (hA t (by simp))]
    refine ih (fun t ht => hA t (by simp [ht])) ?_
    simp only [List.map_cons, List.sum_cons] at h
    rw [Nat.add_assoc]; exact h
theorem Bd.head {bh : Nat → Int} {t : Act} {L : List Act} {f : Fm} {R : List Fm} {acc c : Nat} (h : Bd bh (t :: L) acc (f :: R) c) (ht : t.1 ≠ 5) : Bd bh L (acc + pot bh t) (f :: R) c := by
  have h : (if t.1 = 5 then acc + c ≤ 81 + f.2 ∧ Bd bh L 1 R f.2 else Bd bh L (acc + pot bh t) (f :: R) c) := h
  rw [if_neg ht] at h; exact h
theorem kids_pot {th wo be bh : Nat → Int} {N : Nat} (hB : Bq be bh N) {S : Nat → Prop} : ∀ (k p q : Nat), q ≤ N → Fo th wo be S k p q → (((kids bh p k).map wk).map (pot bh)).sum = q - p ∧ Sp4 bh ((kids bh p k).map wk) = 4 * (q - p) := by
  intro k
  induction k with
  | zero =>
    intro p q _ f
    have := f.sh.zero
    subst this
    exact ⟨by simp [kids], by simp [kids, Sp4]⟩
  | succ k ih =>
    intro p q hq f
    obtain ⟨m, f1, f2⟩ := f.one
    have l1 := f1.le
    have l2 := f2.le
    have e := hB.at f1.sh (by omega)
    obtain ⟨i1, i2⟩ := ih m q hq f2
    have hsz : sz bh p = m - p := by unfold sz; rw [e]; omega
    have em : ((m : Int)).toNat = m := rfl
    constructor
    · simp only [kids, List.map_cons, List.sum_cons, e, em]
      have : pot bh (wk p) = m - p := by unfold pot wk; rw [if_pos rfl]; exact hsz
      rw [this, i1]; omega
    · simp only [kids, List.map_cons, Sp4, e, em]
      have : stp bh (wk p) = 4 * (m - p) := by unfold stp wk; rw [if_pos rfl]; simp only [hsz]
      rw [this, i2]; omega
theorem Sp4_app (bh : Nat → Int) : ∀ (A L : List Act), Sp4 bh (A ++ L) = Sp4 bh A + Sp4 bh L := by
  intro A
  induction A with
  | nil => intro L; simp [Sp4]
  | cons t A ih => intro L; simp only [List.cons_append, Sp4, ih]; omega
/-- not more blocks than the acts allow -/
theorem blk_27 {th wo be bh : Nat → Int} {N : Nat} {μ : Mem} : ∀ (L : List Act) (R : List Fm) (cs : List Nat) (Zs : List Zc) (V : Nat → Prop) (acc : Nat), Ok th wo be N μ L R cs Zs V → (∃ c, Bd bh L acc R c ∧ ∀ f, R.head? = some f → f.2 ≤ c) → 3 * Zs.length + acc ≤ 81 := by
  intro L
  induction L with
  | nil =>
    rintro R cs Zs V acc ⟨⟨f, hf, _⟩, hz⟩ ⟨c, hb, hc⟩
    obtain ⟨f2, hf2, hb⟩ := hb
    have := hc f2 (by rw [hf2]; rfl)
    rw [hz]; simp; omega
  | cons t L ih =>
    obtain ⟨w, a, b⟩ := t
    rintro R cs Zs V acc ho ⟨c, hb, hc⟩
    cases R with
    | nil => exact ho.elim
    | cons f R =>
      obtain ⟨ρ, c0⟩ := f
      obtain ⟨_, h⟩ := ho
      have hc0 : c0 ≤ c := hc (ρ, c0) rfl
      have hd : ∀ g : Fm, g.2 = c0 → ∀ f, (g :: R).head? = some f → f.2 ≤ c := by
        intro g hg f hf
        have : g = f := by simpa using hf
        rw [← this, hg]; exact hc0
      rcases h with ⟨rfl, q, h2, h3, h4⟩ | ⟨rfl, h2, k, h3, h4, h5, h6⟩ | ⟨rfl, h2, h3, h4, h5⟩ | ⟨rfl, h2, h3, h4⟩ | ⟨rfl, h2, o, h3, h4⟩ | ⟨rfl, h2, h3, h4, h5⟩ | ⟨rfl, V0, Z, p, q, h2, h3, h4, h5, h6, h7, h8⟩ | ⟨rfl, V0, Z, y, h2, h3, h4, h5, h6, h7, h8⟩
      · have := ih _ _ _ _ _ (h4 0) ⟨c, hb.head (by simp), hd _ rfl⟩; omega
      · have := ih _ _ _ _ _ (h6 0) ⟨c, hb.head (by simp), hd _ rfl⟩; omega
      · have := ih _ _ _ _ _ (h5 0) ⟨c, hb.head (by simp), hd _ rfl⟩; omega
      · have := ih _ _ _ _ _ (h4 0) ⟨c, hb.head (by simp), hd _ rfl⟩; omega
      · have hb2 := hb.head (by simp)
        have hb3 : Bd bh L (acc + pot bh (4, a, b)) ((ud ρ a o, c0) :: R) c := by
          have gen : ∀ (L : List Act) (x c : Nat) (f g : Fm), f.2 = g.2 → Bd bh L x (f :: R) c → Bd bh L x (g :: R) c := by
            intro L
            induction L with
            | nil =>
              rintro x c f g e ⟨f2, e2, h⟩
              have : R = [] ∧ f = f2 := by simpa [and_comm] using e2
              refine ⟨g, by rw [this.1], ?_⟩
              rw [← this.2, e] at h; exact h
            | cons t L ih2 =>
              intro x c f g e h
              have h : (if t.1 = 5 then x + c ≤ 81 + f.2 ∧ Bd bh L 1 R f.2 else Bd bh L (x + pot bh t) (f :: R) c) := h
              show (if t.1 = 5 then x + c ≤ 81 + g.2 ∧ Bd bh L 1 R g.2 else Bd bh L (x + pot bh t) (g :: R) c)
              by_cases e5 : t.1 = 5
              · rw [if_pos e5] at h ⊢; rw [← e]; exact h
              · rw [if_neg e5] at h ⊢; exact ih2 _ _ _ _ e h
          exact gen L _ _ (ρ, c0) (ud ρ a o, c0) rfl hb2
        have := ih _ _ _ _ _ h4 ⟨c, hb3, hd _ rfl⟩; omega
      · have h : (if (5, a, b).1 = 5 then acc + c ≤ 81 + c0 ∧ Bd bh L 1 R c0 else Bd bh L (acc + pot bh (5, a, b)) ((ρ, c0) :: R) c) := hb
        rw [if_pos rfl] at h
        rw [h2]; simp; omega
      · have := ih _ _ _ _ _ (h8 0) ⟨c, hb.head (by simp), hd _ rfl⟩
        have hp : 3 ≤ pot bh (6, a, b) := by unfold pot sz; simp; omega
        rw [h3]; simp; omega
      · have := ih _ _ _ _ _ (h8 0) ⟨c, hb.head (by simp), hd _ rfl⟩
        have hp : 3 ≤ pot bh (7, a, b) := by unfold pot; simp
        rw [h3]; simp; omega
theorem Bd.env {bh : Nat → Int} {R : List Fm} : ∀ (L : List Act) (x c : Nat) (f g : Fm), f.2 = g.2 → Bd bh L x (f :: R) c → Bd bh L x (g :: R) c := by
  intro L
  induction L with
  | nil =>
    rintro x c f g e ⟨f2, e2, h⟩
    have : R = [] ∧ f = f2 := by simpa [and_comm] using e2
    refine ⟨g, by rw [this.1], ?_⟩
    rw [← this.2, e] at h; exact h
  | cons t L ih2 =>
    intro x c f g e h
    have h : (if t.1 = 5 then x + c ≤ 81 + f.2 ∧ Bd bh L 1 R f.2 else Bd bh L (x + pot bh t) (f :: R) c) := h
    show (if t.1 = 5 then x + c ≤ 81 + g.2 ∧ Bd bh L 1 R g.2 else Bd bh L (x + pot bh t) (g :: R) c)
    by_cases e5 : t.1 = 5
    · rw [if_pos e5] at h ⊢; rw [← e]; exact h
    · rw [if_neg e5] at h ⊢; exact ih2 _ _ _ _ e h
