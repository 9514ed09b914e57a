/-! WHAT HOLDS IF IT ENDS (if at all), and the reader's steps -/
def pk {α : Type} (o : Option α) (Q : α → Prop) : Prop := ∀ r, o = some r → Q r
theorem pk_some {α : Type} {r : α} {Q : α → Prop} (h : Q r) : pk (some r) Q := fun z e => by rw [← Option.some.inj e]; exact h
theorem pk_gd {α : Type} {c : Bool} {x : Option α} {Q : α → Prop} (h : c = true → pk x Q) : pk (gd c x) Q := by
  intro r e
  unfold gd at e
  by_cases hc : c = true
  · rw [if_pos hc] at e; exact h hc r e
  · rw [if_neg hc] at e; exact absurd e (by simp)
theorem pk_bv {α β : Type} {x : α} {f : α → Option β} {Q : β → Prop} (h : pk (f x) Q) : pk (bv x f) Q := h
theorem pk_bd {α β : Type} {x : Option (α × Mem)} {f : α → Mem → Option β} {P : α × Mem → Prop} {Q : β → Prop} (hx : pk x P) (h : ∀ a μ, P (a, μ) → pk (f a μ) Q) : pk (bd x f) Q := by
  intro r e
  unfold bd at e
  cases hq : x with
  | none => rw [hq] at e; exact absurd e (by simp)
  | some q => rw [hq] at e; exact h q.1 q.2 (hx q hq) r e
theorem pk_bw {β : Type} {x : Option Mem} {f : Mem → Option β} {P : Mem → Prop} {Q : β → Prop} (hx : pk x P) (h : ∀ μ, P μ → pk (f μ) Q) : pk (bw x f) Q := by
  intro r e
  unfold bw at e
  cases hq : x with
  | none => rw [hq] at e; exact absurd e (by simp)
  | some q => rw [hq] at e; exact h q (hx q hq) r e
theorem pk_ite {α : Type} {c : Prop} [Decidable c] {x y : Option α} {Q : α → Prop} (h1 : c → pk x Q) (h2 : ¬ c → pk y Q) : pk (if c then x else y) Q := by
  by_cases e : c
  · rw [if_pos e]; exact h1 e
  · rw [if_neg e]; exact h2 e
theorem pk_mono {α : Type} {o : Option α} {P Q : α → Prop} (h : pk o P) (hq : ∀ r, P r → Q r) : pk o Q := fun r e => hq r (h r e)
theorem pk_ok {α : Type} {o : Option α} {P : α → Prop} (h : ok o P) : pk o P := fun _ e => ok_get h e
theorem ok_pk {α : Type} {o : Option α} {P Q : α → Prop} (h : ok o P) (h2 : pk o Q) : ok o (fun r => P r ∧ Q r) := by
  obtain ⟨z, hz, hp⟩ := h
  exact ⟨z, hz, hp, h2 z hz⟩
theorem i32_0 {x : Int32} (h : ¬ x = 0) : x.toInt ≠ 0 := fun e => h (ti_eq.mpr (by rw [e]; decide))
/-- what stands at the place at hand -/
def hv (μ : Mem) : Int32 := if μ.1 0 3 ≤ μ.1 0 4 then -1 else (μ.1 1 (μ.1 0 4).toNatClampNeg) &&& 255
theorem q_here (μ : Mem) : pk (p_X12_here μ) (fun q => q = (hv μ, μ)) := by
  rw [p_X12_here_eq]
  refine pk_ite (fun h => pk_some ?_) (fun h => pk_gd fun _ => pk_some ?_)
  · unfold hv; rw [if_pos h]
  · unfold hv; rw [if_neg h]
theorem q_fails (a : Int32) (μ : Mem) : pk (p_X12_fails a μ) (fun q => q = (0, sF μ 0 5 a)) := by
  rw [p_X12_fails_eq]; exact pk_some rfl
theorem q_takes (a : Int32) (μ : Mem) : pk (p_X12_takes a μ) (fun q => (q = (1, sF μ 0 4 (μ.1 0 4 + 1)) ∧ hv μ = a) ∨ q = (0, sF μ 0 5 (μ.1 0 4))) := by
  rw [p_X12_takes_eq]
  refine pk_bd (q_here μ) ?_
  rintro r μ1 e
  obtain ⟨rfl, rfl⟩ := Prod.mk.inj e
  refine pk_ite (fun h => pk_some (Or.inl ⟨rfl, h⟩)) (fun _ => pk_bd (q_fails _ _) ?_)
  rintro r2 μ2 e2
  obtain ⟨rfl, rfl⟩ := Prod.mk.inj e2
  exact pk_gd fun _ => pk_some (Or.inr rfl)
/-- a thing is laid -/
def Ly (μ : Mem) (s v k : Int32) : Mem := sF (sF (sF (sF μ 16 (μ.1 0 28).toNatClampNeg s) 17 (μ.1 0 28).toNatClampNeg v) 18 (μ.1 0 28).toNatClampNeg k) 0 28 (μ.1 0 28 + 1)
/-- it is begun -/
def Opn (μ : Mem) : Mem := sF (sF (sF μ 19 (μ.1 0 32).toNatClampNeg (μ.1 0 28 - 1)) 20 (μ.1 0 32).toNatClampNeg 0) 0 32 (μ.1 0 32 + 1)
theorem q_lay (s v k : Int32) (μ : Mem) : pk (p_X12_lay s v k μ) (fun q => q = (1, Ly μ s v k) ∧ inb (μ.1 0 28) 800 = true) := by
  rw [p_X12_lay_eq]
  refine pk_gd fun h => pk_bv (pk_gd fun _ => pk_bv (pk_gd fun _ => pk_bv (pk_bv (pk_some ⟨rfl, h⟩))))
theorem q_openThing (μ : Mem) : pk (p_X12_openThing μ) (fun q => q = Opn μ ∧ inb (μ.1 0 32) 20 = true) := by
  rw [p_X12_openThing_eq]
  refine pk_gd fun h => pk_bv (pk_gd fun _ => pk_bv (pk_bv (pk_some ⟨rfl, h⟩)))
theorem q_layOpen (s v k : Int32) (μ : Mem) : pk (p_X12_layOpen s v k μ) (fun q => q = (1, Opn (Ly (sF μ 0 4 (μ.1 0 4 + 1)) s v k)) ∧ inb (μ.1 0 28) 800 = true ∧ inb (μ.1 0 32) 20 = true) := by
  rw [p_X12_layOpen_eq]
  refine pk_bv (pk_bd (q_lay _ _ _ _) ?_)
  rintro r μ1 ⟨e, h1⟩
  obtain ⟨rfl, rfl⟩ := Prod.mk.inj e
  refine pk_bw (q_openThing _) ?_
  rintro μ2 ⟨rfl, h2⟩
  exact pk_gd fun _ => pk_some ⟨rfl, h1, h2⟩
/-- nothing but where it reads, the fault, the number read -/
def Fs (μ μ' : Mem) : Prop := Fr [(0, 0, 4), (0, 0, 5), (0, 0, 6), (0, 0, 7)] true μ μ'
theorem Fs.rf {μ : Mem} : Fs μ μ := Fr.rf
theorem Fs.tr {μ μ1 μ2 : Mem} (h : Fs μ μ1) (h2 : Fs μ1 μ2) : Fs μ μ2 := Fr.trans h h2
theorem Fs.s4 {μ : Mem} (v : Int32) : Fs μ (sF μ 0 4 v) := Fr.put Fr.rf (by decide +kernel)
theorem Fs.s5 {μ : Mem} (v : Int32) : Fs μ (sF μ 0 5 v) := Fr.put Fr.rf (by decide +kernel)
theorem Fs.a {μ μ' : Mem} (h : Fs μ μ') {c : Nat} (hc : c ≠ 0) (k : Nat) : μ'.1 c k = μ.1 c k := h.1 c k (by simp [hit, hc])
theorem Fs.f {μ μ' : Mem} (h : Fs μ μ') {k : Nat} (h4 : k ≠ 4) (h5 : k ≠ 5) (h6 : k ≠ 6) (h7 : k ≠ 7) : μ'.1 0 k = μ.1 0 k := h.1 0 k (by simp [hit, h4, h5, h6, h7])
theorem sF_c {μ μ' : Mem} {L : List (Nat × Nat × Nat)} {b : Bool} (h : Fr L b μ μ') (i k : Nat) (v : Int32) : Fr L b (sF μ i k v) (sF μ' i k v) := by
  refine ⟨fun j q hj => ?_, fun hb => h.2 hb⟩
  rw [sF_1, sF_1]
  by_cases e : j = i
  · rw [if_pos e, if_pos e]
    by_cases e2 : q = k
    · rw [if_pos e2, if_pos e2]
    · rw [if_neg e2, if_neg e2, ← e]; exact h.1 j q hj
  · rw [if_neg e, if_neg e]; exact h.1 j q hj
theorem Fs.ly {μ μ' : Mem} (h : Fs μ μ') (s v k : Int32) : Fs (Ly μ s v k) (Ly μ' s v k) := by
  have e : μ'.1 0 28 = μ.1 0 28 := h.f (by decide) (by decide) (by decide) (by decide)
  unfold Ly
  rw [e]
  exact sF_c (sF_c (sF_c (sF_c h _ _ _) _ _ _) _ _ _) _ _ _
theorem Fs.op {μ μ' : Mem} (h : Fs μ μ') : Fs (Opn μ) (Opn μ') := by
  have e : μ'.1 0 28 = μ.1 0 28 := h.f (by decide) (by decide) (by decide) (by decide)
  have e2 : μ'.1 0 32 = μ.1 0 32 := h.f (by decide) (by decide) (by decide) (by decide)
  unfold Opn
  rw [e, e2]
  exact sF_c (sF_c (sF_c h _ _ _) _ _ _) _ _ _
/-- a thing without others below -/
def Lf (μ : Mem) (s v k : Int32) : Prop := k = 0 ∧ (s.toInt = 0 ∨ s.toInt = 1 ∨ (s = 4 ∧ 0 ≤ v.toInt ∧ v.toInt < 14 ∧ μ.1 21 v.toNatClampNeg ≠ 0) ∨ (s = 10 ∧ 0 ≤ v.toInt ∧ v.toInt < 8))
/-- a thing with others below -/
def Of (s v k : Int32) : Prop := (s = 8 ∧ k = 1) ∨ (s = 9 ∧ k = 1 ∧ 0 ≤ v.toInt ∧ v.toInt < 8) ∨ (s = 5 ∧ k = 2) ∨ (s = 11 ∧ k = 2 ∧ 0 ≤ v.toInt ∧ v.toInt < 14) ∨ (s = 7 ∧ k = 3) ∨ (s = 2 ∧ k = 2) ∨ (s = 6 ∧ k = 1 ∧ 0 ≤ v.toInt ∧ v.toInt < 5) ∨ (s = 12 ∧ k = 0)
/-- what a thing's beginning leaves -/
def Rt (μ : Mem) (r : Int32 × Mem) : Prop := r.1 = 0 ∨ (r.1 = 1 ∧ inb (μ.1 0 28) 800 = true ∧ ∃ s v k : Int32, (Lf μ s v k ∧ Fs (Ly μ s v k) r.2) ∨ (inb (μ.1 0 32) 20 = true ∧ Of s v k ∧ Fs (Opn (Ly μ s v k)) r.2) ∨ (inb (μ.1 0 32) 20 = true ∧ s = 12 ∧ k = 0 ∧ Fs (sF (Opn (Ly μ s v k)) 0 32 (μ.1 0 32 + 1 - 1)) r.2))
theorem rt_l {μ μ' : Mem} {s v k : Int32} (hi : inb (μ.1 0 28) 800 = true) (h : Lf μ s v k) (hF : Fs (Ly μ s v k) μ') : Rt μ (1, μ') := Or.inr ⟨rfl, hi, s, v, k, Or.inl ⟨h, hF⟩⟩
theorem rt_o {μ μ' : Mem} {s v k : Int32} (hi : inb (μ.1 0 28) 800 = true) (hj : inb (μ.1 0 32) 20 = true) (h : Of s v k) (hF : Fs (Opn (Ly μ s v k)) μ') : Rt μ (1, μ') := Or.inr ⟨rfl, hi, s, v, k, Or.inr (Or.inl ⟨hj, h, hF⟩)⟩
theorem rt_c {μ μ' : Mem} {v : Int32} (hi : inb (μ.1 0 28) 800 = true) (hj : inb (μ.1 0 32) 20 = true) (hF : Fs (sF (Opn (Ly μ 12 v 0)) 0 32 (μ.1 0 32 + 1 - 1)) μ') : Rt μ (1, μ') := Or.inr ⟨rfl, hi, 12, v, 0, Or.inr (Or.inr ⟨hj, rfl, rfl, hF⟩)⟩
theorem q_readPlace (μ : Mem) : pk (p_X12_readPlace μ) (fun q => q.1 = 0 ∨ (q = (1, sF μ 0 4 (μ.1 0 4 + 1)) ∧ 48 ≤ (hv (sF μ 0 4 (μ.1 0 4 + 1))).toInt ∧ (hv (sF μ 0 4 (μ.1 0 4 + 1))).toInt ≤ 55)) := by
  rw [p_X12_readPlace_eq]
  refine pk_bv (pk_bd (q_here _) ?_)
  rintro r μ1 e
  obtain ⟨rfl, rfl⟩ := Prod.mk.inj e
  refine pk_ite (fun _ => pk_bd (q_fails _ _) ?_) (fun h => pk_some (Or.inr ⟨rfl, ?_⟩))
  · rintro r2 μ2 e2
    obtain ⟨rfl, rfl⟩ := Prod.mk.inj e2
    exact pk_ite (fun _ => pk_some (Or.inl rfl)) (fun h => absurd rfl h)
  · have e1 : (48 : Int32).toInt = 48 := by decide
    have e2 : (55 : Int32).toInt = 55 := by decide
    have h0 := i32_0 h
    have h1 := tf_isIn (hv (sF μ 0 4 (μ.1 0 4 + 1))) 48 55
    omega
theorem q_readLet (μ : Mem) : pk (p_X12_readLet μ) (Rt μ) := by
  rw [p_X12_readLet_eq]
  refine pk_bv (pk_bd (q_here _) ?_)
  rintro r μ1 e
  obtain ⟨rfl, rfl⟩ := Prod.mk.inj e
  refine pk_ite (fun _ => pk_bd (q_fails _ _) ?_) (fun h => pk_bd (q_here _) ?_)
  · rintro r2 μ2 e2
    obtain ⟨rfl, rfl⟩ := Prod.mk.inj e2
    exact pk_gd fun _ => pk_some (Or.inl rfl)
  · rintro r μ1 e
    obtain ⟨rfl, rfl⟩ := Prod.mk.inj e
    refine pk_bv (pk_bd (q_layOpen _ _ _ _) ?_)
    rintro r2 μ2 ⟨e2, hi, hj⟩
    obtain ⟨rfl, rfl⟩ := Prod.mk.inj e2
    refine pk_ite (fun h => absurd h (by decide)) (fun _ => pk_bd (q_takes _ _) ?_)
    have h0 := i32_0 h
    have h1 := tf_isVarLetter (hv (sF μ 0 4 (μ.1 0 4 + 1)))
    have e109 : (109 : Int32).toInt = 109 := by decide
    have e3 : (hv (sF μ 0 4 (μ.1 0 4 + 1)) - 109).toInt = (hv (sF μ 0 4 (μ.1 0 4 + 1))).toInt - 109 := by
      rw [ti_sub (by omega) (by omega), e109]
    rintro r3 μ3 (⟨e4, _⟩ | e4)
    · obtain ⟨rfl, rfl⟩ := Prod.mk.inj e4
      exact pk_ite (fun h => absurd h (by decide)) (fun _ => pk_some (rt_o hi hj (Or.inr (Or.inr (Or.inr (Or.inl ⟨rfl, rfl, by omega, by omega⟩)))) ((((Fs.s4 _).tr (Fs.s4 _)).ly _ _ _).op.tr (Fs.s4 _))))
    · obtain ⟨rfl, rfl⟩ := Prod.mk.inj e4
      exact pk_ite (fun _ => pk_some (Or.inl rfl)) (fun h => absurd rfl h)
theorem q_readCall (a : Int32) (μ : Mem) : pk (p_X12_readCall a μ) (Rt μ) := by
  rw [p_X12_readCall_eq]
  refine pk_bd (q_layOpen _ _ _ _) ?_
  rintro r2 μ2 ⟨e2, hi, hj⟩
  obtain ⟨rfl, rfl⟩ := Prod.mk.inj e2
  refine pk_ite (fun h => absurd h (by decide)) (fun _ => pk_bd (q_takes _ _) ?_)
  rintro r3 μ3 (⟨e4, _⟩ | e4)
  · obtain ⟨rfl, rfl⟩ := Prod.mk.inj e4
    refine pk_ite (fun h => absurd h (by decide)) (fun _ => ?_)
    rw [p_X12_readCall_b30_eq]
    refine pk_ite (fun h => absurd h (by decide)) (fun _ => pk_bd (q_here _) ?_)
    rintro r μ1 e
    obtain ⟨rfl, rfl⟩ := Prod.mk.inj e
    exact pk_ite (fun _ => pk_bv (pk_bv (pk_gd fun _ => pk_some (rt_c (v := (a - 97) + 1) hi hj (sF_c ((((Fs.s4 _).ly _ _ _).op).tr ((Fs.s4 _).tr (Fs.s4 _))) _ _ _))))) (fun _ => pk_gd fun _ => pk_some (rt_o hi hj (Or.inr (Or.inr (Or.inr (Or.inr (Or.inr (Or.inr (Or.inr ⟨rfl, rfl⟩))))))) (((Fs.s4 _).ly _ _ _).op.tr (Fs.s4 _))))
  · obtain ⟨rfl, rfl⟩ := Prod.mk.inj e4
    refine pk_ite (fun _ => ?_) (fun h => absurd rfl h)
    rw [p_X12_readCall_b29_eq, p_X12_readCall_b30_eq]
    exact pk_ite (fun _ => pk_gd fun _ => pk_some (Or.inl rfl)) (fun h => absurd rfl h)
theorem q_beginsNumber (μ : Mem) : pk (p_X12_beginsNumber μ) (fun q => q.2 = μ) := by
  rw [p_X12_beginsNumber_eq]
  refine pk_bd (q_here _) ?_
  rintro r μ1 e
  obtain ⟨rfl, rfl⟩ := Prod.mk.inj e
  refine pk_ite (fun _ => pk_bd (q_here _) ?_) (fun _ => pk_some rfl)
  rintro r μ1 e
  obtain ⟨rfl, rfl⟩ := Prod.mk.inj e
  exact pk_ite (fun _ => pk_some rfl) (fun _ => pk_some rfl)
theorem rt_fail {μ μ1 : Mem} {a : Int32} : pk (bd (p_X12_fails a μ1) (fun r9 μ8 => gd (isB r9) (some (r9, μ8)))) (Rt μ) := by
  refine pk_bd (q_fails _ _) ?_
  rintro r2 μ2 e2
  obtain ⟨rfl, rfl⟩ := Prod.mk.inj e2
  exact pk_gd fun _ => pk_some (Or.inl rfl)
theorem rt_open {μ : Mem} {s v k : Int32} (h : Of s v k) : pk (bd (p_X12_layOpen s v k μ) (fun r9 μ8 => gd (isB r9) (some (r9, μ8)))) (Rt μ) := by
  refine pk_bd (q_layOpen _ _ _ _) ?_
  rintro r2 μ2 ⟨e2, hi, hj⟩
  obtain ⟨rfl, rfl⟩ := Prod.mk.inj e2
  exact pk_gd fun _ => pk_some (Or.inr ⟨rfl, hi, s, v, k, Or.inr (Or.inl ⟨hj, h, ((Fs.s4 _).ly _ _ _).op⟩)⟩)
theorem q_readThing_b86 (a1 a2 k0 : Int32) (μ : Mem) (hI : IM μ) : pk (p_X12_readThing_b86 a1 a2 k0 μ) (Rt μ) := by
  rw [p_X12_readThing_b86_eq]
  refine pk_ite (fun _ => rt_fail) (fun _ => pk_gd fun _ => pk_ite (fun _ => rt_fail) (fun _ => pk_ite (fun _ => rt_fail) (fun _ => pk_bd (q_beginsNumber _) ?_)))
  rintro r μ1 e
  obtain rfl : μ1 = μ := e
  have e0 : (0 : Int32).toInt = 0 := by decide
  have e48 : (48 : Int32).toInt = 48 := by decide
  refine pk_ite (fun _ => pk_ite (fun _ => pk_ite (fun _ => ?_) (fun h => rt_open ?_)) (fun _ => pk_gd fun hi => pk_ite (fun _ => rt_fail) (fun h => pk_bv (pk_bd (q_lay _ _ _ _) ?_)))) (fun _ => ?_)
  · refine pk_ite (fun _ => rt_open (Or.inl ⟨rfl, rfl⟩)) (fun _ => pk_ite (fun _ => pk_bd (q_readPlace _) ?_) (fun _ => pk_ite (fun _ => rt_open (Or.inr (Or.inr (Or.inl ⟨rfl, rfl⟩)))) (fun _ => pk_ite (fun _ => pk_bd (q_readLet _) ?_) (fun _ => pk_ite (fun _ => pk_bd (q_layOpen _ _ _ _) ?_) (fun _ => pk_ite (fun _ => rt_open (Or.inr (Or.inr (Or.inr (Or.inr (Or.inr (Or.inl ⟨rfl, rfl⟩))))))) (fun _ => pk_ite (fun _ => pk_bd (q_readPlace _) ?_) (fun _ => pk_bd (q_readCall _ _) ?_)))))))
    · rintro r2 μ2 hq
      refine pk_ite (fun _ => pk_some (Or.inl rfl)) (fun h => ?_)
      rcases hq with hq | ⟨hq, h8, h9⟩
      · exact absurd hq h
      obtain ⟨rfl, rfl⟩ := Prod.mk.inj hq
      refine pk_bd (q_here _) ?_
      rintro r3 μ3 e3
      obtain ⟨rfl, rfl⟩ := Prod.mk.inj e3
      refine pk_bd (q_layOpen _ _ _ _) ?_
      rintro r2 μ2 ⟨e2, hi, hj⟩
      obtain ⟨rfl, rfl⟩ := Prod.mk.inj e2
      refine pk_ite (fun h => absurd h (by decide)) (fun _ => pk_some (rt_o hi hj (Or.inr (Or.inl ⟨rfl, rfl, ?_⟩)) (((Fs.s4 _).tr (Fs.s4 _)).ly _ _ _).op))
      rw [ti_sub (by omega) (by omega), e48]; omega
    · rintro r2 μ2 h
      exact pk_gd fun _ => pk_some h
    · rintro r2 μ2 ⟨e2, hi, hj⟩
      obtain ⟨rfl, rfl⟩ := Prod.mk.inj e2
      refine pk_ite (fun h => absurd h (by decide)) (fun _ => pk_bd (q_takes _ _) ?_)
      rintro r3 μ3 (⟨e4, _⟩ | e4)
      · obtain ⟨rfl, rfl⟩ := Prod.mk.inj e4
        exact pk_ite (fun h => absurd h (by decide)) (fun _ => pk_some (rt_o hi hj (Or.inr (Or.inr (Or.inr (Or.inr (Or.inl ⟨rfl, rfl⟩))))) (((Fs.s4 _).ly _ _ _).op.tr (Fs.s4 _))))
      · obtain ⟨rfl, rfl⟩ := Prod.mk.inj e4
        exact pk_ite (fun _ => pk_some (Or.inl rfl)) (fun h => absurd rfl h)
    · rintro r2 μ2 hq
      refine pk_ite (fun _ => pk_some (Or.inl rfl)) (fun h => ?_)
      rcases hq with hq | ⟨hq, h8, h9⟩
      · exact absurd hq h
      obtain ⟨rfl, rfl⟩ := Prod.mk.inj hq
      refine pk_bd (q_here _) ?_
      rintro r3 μ3 e3
      obtain ⟨rfl, rfl⟩ := Prod.mk.inj e3
      refine pk_bd (q_lay _ _ _ _) ?_
      rintro r2 μ2 ⟨e2, hi⟩
      obtain ⟨rfl, rfl⟩ := Prod.mk.inj e2
      refine pk_ite (fun h => absurd h (by decide)) (fun _ => pk_bd (q_here _) ?_)
      rintro r3 μ3 e3
      obtain ⟨rfl, rfl⟩ := Prod.mk.inj e3
      refine pk_bd (q_takes _ _) ?_
      rintro r3 μ3 (⟨e4, _⟩ | e4)
      · obtain ⟨rfl, rfl⟩ := Prod.mk.inj e4
        refine pk_ite (fun h => absurd h (by decide)) (fun _ => pk_some (rt_l hi ⟨rfl, Or.inr (Or.inr (Or.inr ⟨rfl, ?_⟩))⟩ (((Fs.s4 _).ly _ _ _).tr (Fs.s4 _))))
        rw [ti_sub (by omega) (by omega), e48]; omega
      · obtain ⟨rfl, rfl⟩ := Prod.mk.inj e4
        exact pk_ite (fun _ => pk_some (Or.inl rfl)) (fun h => absurd rfl h)
    · rintro r2 μ2 h
      exact pk_gd fun _ => pk_some h
  · have h1 := tf_signOf a1
    have h2 : (s_X12_signOf a1).toInt ≠ -1 := fun e => h (ti_eq.mpr (by rw [e]; decide))
    refine Or.inr (Or.inr (Or.inr (Or.inr (Or.inr (Or.inr (Or.inl ⟨rfl, rfl, ?_⟩))))))
    omega
  · rintro r2 μ2 ⟨e2, hi2⟩
    obtain ⟨rfl, rfl⟩ := Prod.mk.inj e2
    have h3 := inb_iff.mp hi
    exact pk_gd fun _ => pk_some (rt_l hi2 ⟨rfl, Or.inr (Or.inr (Or.inl ⟨rfl, by omega, by omega, h⟩))⟩ ((Fs.s4 _).ly _ _ _))
  · refine pk_bd (pk_ok (k_X12_readNumber _ hI)) ?_
    rintro r2 μ2 ⟨hI2, hF2, _⟩
    refine pk_ite (fun _ => pk_some (Or.inl rfl)) (fun _ => pk_bd (q_lay _ _ _ _) ?_)
    rintro r3 μ3 ⟨e3, hi3⟩
    obtain ⟨rfl, rfl⟩ := Prod.mk.inj e3
    have g := rgm_0_6 hI2
    have hF3 : Fs μ1 μ2 := Fr.mono hF2 (by decide +kernel) (fun h => h)
    have e28 : μ2.1 0 28 = μ1.1 0 28 := hF3.f (by decide) (by decide) (by decide) (by decide)
    refine pk_ite (fun h => absurd h (by decide)) (fun _ => pk_some (rt_l (by rw [← e28]; exact hi3) ⟨rfl, ?_⟩ (hF3.ly _ _ _)))
    dsimp only at g
    omega
theorem q_readThing (μ : Mem) (hI : IM μ) : pk (p_X12_readThing μ) (Rt μ) := by
  rw [p_X12_readThing_eq]
  refine pk_bd (q_here _) ?_
  rintro r μ1 e
  obtain ⟨rfl, rfl⟩ := Prod.mk.inj e
  refine pk_bv (pk_bd (q_beginsNumber _) ?_)
  rintro r2 μ2 e
  obtain rfl : μ2 = μ1 := e
  have hb : pk (p_X12_readThing_b81 (hv μ2) (μ2.1 0 4) μ2) (Rt μ2) := by rw [p_X12_readThing_b81_eq]; exact q_readThing_b86 _ _ _ _ hI
  refine pk_ite (fun _ => pk_ite (fun _ => pk_ite (fun _ => pk_ite (fun _ => ?_) (fun _ => hb)) (fun _ => hb)) (fun _ => hb)) (fun _ => hb)
  refine pk_ite (fun _ => hb) (fun _ => pk_ite (fun _ => hb) (fun _ => pk_ite (fun _ => hb) (fun _ => pk_ite (fun _ => hb) (fun _ => pk_ite (fun _ => hb) (fun _ => pk_ite (fun _ => hb) (fun _ => pk_ite (fun _ => hb) (fun _ => q_readThing_b86 _ _ _ _ hI)))))))
