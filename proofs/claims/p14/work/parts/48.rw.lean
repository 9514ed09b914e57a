/-! ROWS OF NUMBERS, PAIRS, STARS -/
def bp (s : Nat → Int) : Nat → Int := fun k => if s k = 2 then 2 else 0
/-- how many stars -/
def c3 (s : Nat → Int) : Nat → Nat
  | 0 => 0
  | n + 1 => c3 s n + (if s n = 3 then 1 else 0)
theorem c3_le (s : Nat → Int) : ∀ n, c3 s n ≤ n := by
  intro n
  induction n with
  | zero => exact Nat.le_refl _
  | succ n ih => unfold c3; split <;> omega
theorem c3_cong {s t : Nat → Int} : ∀ n, (∀ i, i < n → s i = t i) → c3 s n = c3 t n := by
  intro n
  induction n with
  | zero => intro _; rfl
  | succ n ih => intro h; unfold c3; rw [ih (fun i hi => h i (by omega)), h n (by omega)]
/-- from p to q, all but m parts of one -/
def Cn (be : Nat → Int) (p q m : Nat) : Prop := ∀ (b2 : Nat → Int) (e : Nat), (∀ i, i < q → b2 i = be i) → Sh b2 m q e → Sh b2 1 p e
theorem Cn.pair {be b2 : Nat → Int} {p q m : Nat} (h : Cn be p q (m + 1)) (c : ∀ i, i < q → b2 i = be i) (hq : b2 q = 2) : Cn b2 p (q + 1) (m + 2) := by
  intro b3 e c3 s
  rw [Nat.add_comm] at s
  obtain ⟨m2, s1, s2⟩ := s.split
  refine h b3 e (fun i hi => by rw [c3 i (by omega), c i hi]) ?_
  exact Sh.cons (k := 2) (by rw [c3 q (by omega)]; exact hq) s1 s2
theorem Cn.leaf {be b2 : Nat → Int} {p q m : Nat} (h : Cn be p q (m + 1)) (c : ∀ i, i < q → b2 i = be i) (hq : b2 q = 0) : Cn b2 p (q + 1) m := by
  intro b3 e c3 s
  refine h b3 e (fun i hi => by rw [c3 i (by omega), c i hi]) ?_
  exact Sh.cons (k := 0) (by rw [c3 q (by omega)]; exact hq) Sh.nil s
theorem Cn.cong {be b2 : Nat → Int} {p q m : Nat} (h : Cn be p q m) (c : ∀ i, i < q → b2 i = be i) : Cn b2 p q m := by
  intro b3 e c3 s
  exact h b3 e (fun i hi => by rw [c3 i hi, c i hi]) s
theorem Cn.rf {be : Nat → Int} {p : Nat} : Cn be p p 1 := fun _ _ _ s => s
theorem Cn.whole {be : Nat → Int} {p q : Nat} (h : Cn be p q 0) : Sh be 1 p q := h be q (fun _ _ => rfl) Sh.nil
/-- parts wanted by the begun pairs beside those under way -/
def Sm (cl : Nat → Int) : Nat → Nat
  | 0 => 0
  | d + 1 => Sm cl d + (1 - cl d).toNat
theorem Sm.cong {c e : Nat → Int} : ∀ d, (∀ i, i < d → c i = e i) → Sm c d = Sm e d := by
  intro d
  induction d with
  | zero => intro _; rfl
  | succ d ih => intro h; unfold Sm; rw [ih (fun i hi => h i (by omega)), h d (by omega)]
theorem q_digits_b8 (a1 a4 : Int32) : ∀ (m : Nat) (a3 : Int32) (μ : Mem), pk (p_X12_digits_b8 m a1 a3 a4 μ) (fun q => Fr [(0, 0, 4), (0, 0, 5), (0, 0, 7)] true μ q.2) := by
  intro m
  induction m with
  | zero => intro a3 μ r e; rw [p_X12_digits_b8_z] at e; exact absurd e (by simp)
  | succ m ih =>
    intro a3 μ
    rw [p_X12_digits_b8_s]
    refine pk_bd (q_here _) ?_
    rintro r μ1 e
    obtain ⟨rfl, rfl⟩ := pr_inj e
    refine pk_ite (fun _ => pk_some Fr.rf) (fun _ => pk_ite (fun _ => pk_some Fr.rf) (fun _ => pk_bd (q_here _) ?_))
    rintro r μ1 e
    obtain ⟨rfl, rfl⟩ := pr_inj e
    exact pk_bv (pk_bv (pk_mono (ih _ _) (fun q h => (Fr.put Fr.rf (by decide +kernel)).trans h)))
theorem q_digits (a1 a2 : Int32) (μ : Mem) : pk (p_X12_digits a1 a2 μ) (fun q => Fr [(0, 0, 4), (0, 0, 5), (0, 0, 7)] true μ q.2) := by
  rw [p_X12_digits_eq]; exact pk_bv (q_digits_b8 _ _ _ _ _)
theorem fs_dig {μ μ' : Mem} (h : Fr [(0, 0, 4), (0, 0, 5), (0, 0, 7)] true μ μ') : Fs μ μ' := Fr.mono h (by decide +kernel) (fun h => h)
def Qn (μ : Mem) (q : Int32 × Mem) : Prop := Fs μ q.2 ∧ (q.1 = 0 ∨ (q.2.1 0 6).toInt = 0 ∨ (q.2.1 0 6).toInt = 1)
theorem q_readNumber (μ : Mem) : pk (p_X12_readNumber μ) (Qn μ) := by
  rw [p_X12_readNumber_eq]
  have h161 : ∀ (μ0 : Mem) (a1 a2 : Int32) (k0 : UInt32) (μ : Mem), Fs μ0 μ → pk (p_X12_readNumber_b161 a1 a2 k0 μ) (Qn μ0) := by
    intro μ0 a1 a2 k0 μ hF
    rw [p_X12_readNumber_b161_eq]
    have hf : ∀ x y : Int32, Fs μ0 (sF (sF μ 0 6 x) 0 7 y) := fun x y => Fr.put (Fr.put hF (by decide +kernel)) (by decide +kernel)
    exact pk_bv (pk_ite (fun _ => pk_gd fun _ => pk_bv (pk_some ⟨hf _ _, Or.inr (Or.inr (by rw [sF_k (by decide), sF_v]; decide))⟩)) (fun _ => pk_gd fun _ => pk_bv (pk_some ⟨hf _ _, Or.inr (Or.inr (by rw [sF_k (by decide), sF_v]; decide))⟩)))
  have hfail : ∀ (μ0 : Mem) (a : Int32) (μ1 : Mem), Fs μ0 μ1 → pk (bd (p_X12_fails a μ1) (fun r12 μ11 => gd (isB r12) (some (r12, μ11)))) (Qn μ0) := by
    intro μ0 a μ1 hF
    refine pk_bd (q_fails _ _) ?_
    rintro r2 μ3 e2
    obtain ⟨rfl, rfl⟩ := pr_inj e2
    exact pk_gd fun _ => pk_some ⟨hF.tr (Fs.s5 _), Or.inl rfl⟩
  have h71 : ∀ (μ0 : Mem) (a1 a2 k0 : Int32) (μ : Mem), Fs μ0 μ → (μ.1 0 6).toInt = 0 → pk (p_X12_readNumber_b71 a1 a2 k0 μ) (Qn μ0) := by
    intro μ0 a1 a2 k0 μ hF h6
    rw [p_X12_readNumber_b71_eq]
    have hF7 : Fs μ0 (sF μ 0 7 k0) := Fr.put hF (by decide +kernel)
    refine pk_bv (pk_bd (q_here _) ?_)
    rintro r μ1 e
    obtain ⟨rfl, rfl⟩ := pr_inj e
    refine pk_ite (fun _ => pk_bv (pk_bd (q_here _) ?_)) (fun _ => pk_some ⟨hF7, Or.inr (Or.inl (by rw [sF_k (by decide)]; exact h6))⟩)
    rintro r μ1 e
    obtain ⟨rfl, rfl⟩ := pr_inj e
    refine pk_ite (fun _ => hfail _ _ _ (hF7.tr (Fs.s4 _))) (fun _ => pk_bv (pk_bd (q_digits _ _ _) ?_))
    rintro r2 μ2 hd
    have hF9 := (hF7.tr (Fs.s4 _)).tr (fs_dig hd)
    exact pk_ite (fun _ => h161 _ _ _ _ _ hF9) (fun _ => pk_ite (fun _ => h161 _ _ _ _ _ hF9) (fun _ => h161 _ _ _ _ _ hF9))
  have h29 : ∀ (μ0 : Mem) (a1 : Int32) (μ : Mem), Fs μ0 μ → pk (p_X12_readNumber_b29 a1 μ) (Qn μ0) := by
    intro μ0 a1 μ hF
    rw [p_X12_readNumber_b29_eq]
    refine pk_bd (q_here _) ?_
    rintro r μ1 e
    obtain ⟨rfl, rfl⟩ := pr_inj e
    refine pk_ite (fun _ => hfail _ _ _ hF) (fun _ => pk_bd (q_digits _ _ _) ?_)
    rintro r2 μ2 hd
    have hF9 : Fs μ0 (sF μ2 0 6 0) := Fr.put (hF.tr (fs_dig hd)) (by decide +kernel)
    exact pk_bv (pk_ite (fun _ => h71 _ _ _ _ _ hF9 (by rw [sF_v]; decide)) (fun _ => h71 _ _ _ _ _ hF9 (by rw [sF_v]; decide)))
  have h14 : ∀ (k0 : Int32) (μ : Mem), pk (p_X12_readNumber_b14 k0 μ) (Qn μ) := by
    intro k0 μ
    rw [p_X12_readNumber_b14_eq]
    exact pk_ite (fun _ => h29 _ _ _ Fs.rf) (fun _ => pk_bv (h29 _ _ _ (Fs.s4 _)))
  refine pk_bd (q_here _) ?_
  rintro r μ1 e
  obtain ⟨rfl, rfl⟩ := pr_inj e
  exact pk_ite (fun _ => h14 _ _) (fun _ => h14 _ _)
/-- the row that is read, whole or not -/
def Ri (μ : Mem) (st : Prop) : Prop := 0 ≤ (μ.1 0 36).toInt ∧ (∀ i, i < nv μ 36 → 0 ≤ iv μ 22 i ∧ iv μ 22 i ≤ 3 ∧ (iv μ 22 i = 3 → st)) ∧ (μ.1 0 37).toInt = (c3 (iv μ 22) (nv μ 36) : Int)
/-- d pairs are begun, m parts of the part from p0 are wanting; what is ahead is n0 parts -/
def Rq (μ : Mem) (st : Prop) (n0 p0 d m : Nat) : Prop := Ri μ st ∧ Sh (bp (iv μ 22)) n0 0 p0 ∧ p0 ≤ nv μ 36 ∧ Cn (bp (iv μ 22)) p0 (nv μ 36) m ∧ (∀ j, j < d → iv μ 24 j = 0 ∨ iv μ 24 j = 1)
theorem Fs.ri {μ μ' : Mem} (h : Fs μ μ') {st : Prop} (r : Ri μ st) : Ri μ' st := by
  have e22 : iv μ' 22 = iv μ 22 := funext (fun i => h.ivq (by decide) i)
  have e36 : μ'.1 0 36 = μ.1 0 36 := h.f (by decide) (by decide) (by decide) (by decide)
  have e37 : μ'.1 0 37 = μ.1 0 37 := h.f (by decide) (by decide) (by decide) (by decide)
  unfold Ri nv
  rw [e22, e36, e37]; exact r
theorem Fs.rq {μ μ' : Mem} (h : Fs μ μ') {st : Prop} {n0 p0 d m : Nat} (r : Rq μ st n0 p0 d m) : Rq μ' st n0 p0 d m := by
  have e22 : iv μ' 22 = iv μ 22 := funext (fun i => h.ivq (by decide) i)
  have e24 : iv μ' 24 = iv μ 24 := funext (fun i => h.ivq (by decide) i)
  have e36 : nv μ' 36 = nv μ 36 := h.nvq (by decide) (by decide) (by decide) (by decide)
  unfold Rq
  rw [e22, e24, e36]; exact ⟨h.ri r.1, r.2⟩
theorem q_layRead (s v : Int32) (μ : Mem) : pk (p_X12_layRead s v μ) (fun q => inb (μ.1 0 36) 30 = true ∧ q = sF (sF (sF μ 22 (nv μ 36) s) 23 (nv μ 36) v) 0 36 (μ.1 0 36 + 1)) := by
  rw [p_X12_layRead_eq]
  exact pk_gd fun h => pk_bv (pk_gd fun _ => pk_bv (pk_bv (pk_some ⟨h, rfl⟩)))
/-- one more is laid: what becomes of the row -/
theorem rq_lay {μ : Mem} {st : Prop} {n0 p0 d m : Nat} {s v : Int32} (hi : inb (μ.1 0 36) 30 = true) (h0 : Sh (bp (iv μ 22)) n0 0 p0) (hp : p0 ≤ nv μ 36) (hc : Cn (bp (iv μ 22)) p0 (nv μ 36) (m + 1)) (h24 : ∀ j, j < d → iv μ 24 j = 0 ∨ iv μ 24 j = 1)
    (hr : ∀ i, i < nv μ 36 → 0 ≤ iv μ 22 i ∧ iv μ 22 i ≤ 3 ∧ (iv μ 22 i = 3 → st)) (hs : 0 ≤ s.toInt ∧ s.toInt ≤ 3 ∧ (s.toInt = 3 → st)) (h37 : (μ.1 0 37).toInt = (c3 (iv μ 22) (nv μ 36) + (if s.toInt = 3 then 1 else 0) : Nat)) :
    Rq (sF (sF (sF μ 22 (nv μ 36) s) 23 (nv μ 36) v) 0 36 (μ.1 0 36 + 1)) st n0 p0 d (if s.toInt = 2 then m + 2 else m) := by
  have hn := nv_inc hi (by decide)
  have en : nv (sF (sF (sF μ 22 (nv μ 36) s) 23 (nv μ 36) v) 0 36 (μ.1 0 36 + 1)) 36 = nv μ 36 + 1 := by unfold nv; rw [sF_v]; exact hn.1
  have e22 : ∀ i, iv (sF (sF (sF μ 22 (nv μ 36) s) 23 (nv μ 36) v) 0 36 (μ.1 0 36 + 1)) 22 i = if i = nv μ 36 then s.toInt else iv μ 22 i := by
    intro i
    unfold iv
    rw [sF_i (by decide), sF_i (by decide), sF_1, if_pos rfl]
    split <;> rfl
  have e24 : ∀ i, iv (sF (sF (sF μ 22 (nv μ 36) s) 23 (nv μ 36) v) 0 36 (μ.1 0 36 + 1)) 24 i = iv μ 24 i := fun i => rfl
  have e37 : (sF (sF (sF μ 22 (nv μ 36) s) 23 (nv μ 36) v) 0 36 (μ.1 0 36 + 1)).1 0 37 = μ.1 0 37 := rfl
  have e36 : (sF (sF (sF μ 22 (nv μ 36) s) 23 (nv μ 36) v) 0 36 (μ.1 0 36 + 1)).1 0 36 = μ.1 0 36 + 1 := by rw [sF_v]
  generalize sF (sF (sF μ 22 (nv μ 36) s) 23 (nv μ 36) v) 0 36 (μ.1 0 36 + 1) = μ2 at *
  have lo : ∀ i, i < nv μ 36 → iv μ2 22 i = iv μ 22 i := fun i hi => by rw [e22, if_neg (by omega)]
  have lob : ∀ i, i < nv μ 36 → bp (iv μ2 22) i = bp (iv μ 22) i := fun i hi => by unfold bp; rw [lo i hi]
  have top : iv μ2 22 (nv μ 36) = s.toInt := by rw [e22, if_pos rfl]
  refine ⟨⟨by rw [e36]; exact hn.2, ?_, ?_⟩, h0.cong (fun i _ hi => lob i (by omega)), by omega, ?_, fun j hj => by rw [e24]; exact h24 j hj⟩
  · intro i hi
    by_cases e : i = nv μ 36
    · rw [e, top]; exact hs
    · rw [lo i (by omega)]; exact hr i (by omega)
  · rw [e37, h37, en]
    show _ = ((c3 (iv μ2 22) (nv μ 36) + (if iv μ2 22 (nv μ 36) = 3 then 1 else 0) : Nat) : Int)
    rw [top, c3_cong _ (fun i hi => lo i hi)]
  · rw [en]
    by_cases e2 : s.toInt = 2
    · rw [if_pos e2]
      exact hc.pair lob (by unfold bp; rw [top, if_pos e2])
    · rw [if_neg e2]
      exact hc.leaf lob (by unfold bp; rw [top, if_neg e2])
/-- what closing leaves -/
def Qc (st : Prop) (n0 p0 : Nat) (q : Int32 × Mem) : Prop := (q.1.toInt = 0 ∧ Rq q.2 st n0 p0 0 0) ∨ (1 ≤ q.1.toInt ∧ (q.2.1 0 5 = q.2.1 0 4 ∨ ∃ d : Nat, q.1.toInt = (d : Int) ∧ Rq q.2 st n0 p0 d (1 + Sm (iv q.2 24) d)))
theorem q_closeAll_b2 (st : Prop) (n0 p0 : Nat) : ∀ (m : Nat) (a2 : Int32) (d : Nat) (μ : Mem), a2.toInt = (d : Int) → Rq μ st n0 p0 d (Sm (iv μ 24) d) → pk (p_X12_closeAll_b2 m a2 μ) (Qc st n0 p0) := by
  intro m
  have e0 : (0 : Int32).toInt = 0 := by decide
  have e1 : (1 : Int32).toInt = 1 := by decide
  have em1 : (-1 : Int32).toInt = -1 := by decide
  induction m with
  | zero => intro a2 d μ _ _ r e; rw [p_X12_closeAll_b2_z] at e; exact absurd e (by simp)
  | succ m ih =>
    intro a2 d μ hd hq
    rw [p_X12_closeAll_b2_s]
    refine pk_ite (fun hle => pk_some (Or.inl ⟨e0, ?_⟩)) (fun hle => ?_)
    · rw [ti_le] at hle
      have : d = 0 := by omega
      subst this; exact hq
    rw [ti_le] at hle
    obtain ⟨d', rfl⟩ : ∃ d', d = d' + 1 := ⟨d - 1, by omega⟩
    have t1 : (a2 - 1).toInt = (d' : Int) := by
      have := ti_hi a2
      rw [ti_sub (by omega) (by omega), e1]; omega
    have n1 : (a2 - 1).toNatClampNeg = d' := tn_of t1
    refine pk_bv (pk_gd fun _ => pk_gd fun _ => pk_bv (pk_gd fun _ => ?_))
    rw [n1]
    obtain ⟨q1, q2, q3, q4, q5⟩ := hq
    have hc := q5 d' (by omega)
    have hc' : (μ.1 24 d').toInt = 0 ∨ (μ.1 24 d').toInt = 1 := hc
    have tv : (μ.1 24 d' + 1).toInt = (μ.1 24 d').toInt + 1 := by rw [ti_add (by omega) (by omega), e1]
    have ez : (sF μ 24 d' (μ.1 24 d' + 1)).1 24 d' = μ.1 24 d' + 1 := by rw [sF_v]
    rw [ez]
    have f24 : ∀ i, i ≠ d' → iv (sF μ 24 d' (μ.1 24 d' + 1)) 24 i = iv μ 24 i := fun i hi => by unfold iv; rw [sF_k hi]
    have v24 : iv (sF μ 24 d' (μ.1 24 d' + 1)) 24 d' = iv μ 24 d' + 1 := by unfold iv; rw [sF_v]; exact tv
    have hsm : Sm (iv μ 24) (d' + 1) = Sm (iv μ 24) d' + (1 - iv μ 24 d').toNat := rfl
    rw [hsm] at q4
    refine pk_ite (fun h1 => pk_bd (q_takes _ _) ?_) (fun h1 => pk_bd (q_takes _ _) ?_)
    · have h10 : iv μ 24 d' = 0 := by
        have := congrArg Int32.toInt h1
        rw [tv, e1] at this
        show (μ.1 24 d').toInt = 0
        omega
      rintro r μ1 (⟨e, _⟩ | e)
      · obtain ⟨rfl, rfl⟩ := pr_inj e
        refine pk_some (Or.inr ⟨by show 1 ≤ a2.toInt; omega, Or.inr ⟨d' + 1, hd, ?_⟩⟩)
        have e24 : iv (sF (sF μ 24 d' (μ.1 24 d' + 1)) 0 4 ((sF μ 24 d' (μ.1 24 d' + 1)).1 0 4 + 1)) 24 = iv (sF μ 24 d' (μ.1 24 d' + 1)) 24 := funext (fun i => (Fs.s4 _).ivq (by decide) i)
        rw [e24]
        refine (Fs.s4 _).rq ⟨q1, q2, q3, ?_, fun j hj => ?_⟩
        · have h2 : Sm (iv (sF μ 24 d' (μ.1 24 d' + 1)) 24) (d' + 1) = Sm (iv μ 24) d' := by
            show Sm _ d' + _ = _
            rw [v24, h10, Sm.cong d' (fun i hi => f24 i (by omega))]
            rfl
          rw [h2]
          have h3 : Sm (iv μ 24) d' + (1 - iv μ 24 d').toNat = 1 + Sm (iv μ 24) d' := by rw [h10]; omega
          rw [h3] at q4
          exact q4
        · by_cases ej : j = d'
          · rw [ej, v24, h10]; exact Or.inr rfl
          · rw [f24 j ej]; exact q5 j (by omega)
      · obtain ⟨rfl, rfl⟩ := pr_inj e
        exact pk_some (Or.inr ⟨by show 1 ≤ a2.toInt; omega, Or.inl (by rw [sF_v]; rfl)⟩)
    · have h11 : iv μ 24 d' = 1 := by
        rcases hc with h | h
        · exfalso
          apply h1
          apply ti_eq.mpr
          have h : (μ.1 24 d').toInt = 0 := h
          rw [tv, h, e1]; rfl
        · exact h
      rintro r μ1 (⟨e, _⟩ | e)
      · obtain ⟨rfl, rfl⟩ := pr_inj e
        refine pk_ite (fun h => absurd h (by decide)) (fun _ => pk_bv (ih _ d' _ ?_ ?_))
        · have := ti_hi a2
          rw [ti_add (by omega) (by omega), em1]; omega
        · have e24 : iv (sF (sF μ 24 d' (μ.1 24 d' + 1)) 0 4 ((sF μ 24 d' (μ.1 24 d' + 1)).1 0 4 + 1)) 24 = iv (sF μ 24 d' (μ.1 24 d' + 1)) 24 := funext (fun i => (Fs.s4 _).ivq (by decide) i)
          rw [e24, Sm.cong d' (fun i hi => f24 i (by omega))]
          refine (Fs.s4 _).rq ⟨q1, q2, q3, ?_, fun j hj => ?_⟩
          · rw [h11] at q4; exact q4
          · rw [f24 j (by omega)]; exact q5 j (by omega)
      · obtain ⟨rfl, rfl⟩ := pr_inj e
        exact pk_ite (fun _ => pk_some (Or.inr ⟨by show 1 ≤ a2.toInt; omega, Or.inl (by rw [sF_v]; rfl)⟩)) (fun h => absurd rfl h)
/-- what reading a part leaves -/
def Qp (st : Prop) (n0 : Nat) (q : Int32 × Mem) : Prop := q.1 = 0 ∨ (Ri q.2 st ∧ Sh (bp (iv q.2 22)) (n0 + 1) 0 (nv q.2 36))
theorem hv_lt {μ : Mem} (hI : IM μ) (h : 0 ≤ (hv μ).toInt) : (μ.1 0 4).toInt < (μ.1 0 3).toInt ∧ (μ.1 0 4).toInt < 800 := by
  have g := rgm_0_3 hI
  unfold hv at h
  by_cases e : μ.1 0 3 ≤ μ.1 0 4
  · rw [if_pos e] at h; exact absurd h (by decide)
  · rw [ti_le] at e; omega
theorem im_at {μ : Mem} (hI : IM μ) (h : (μ.1 0 4).toInt < 800) : IM (sF μ 0 4 (μ.1 0 4 + 1)) := by
  have g := rgm_0_4 hI
  have e1 : (1 : Int32).toInt = 1 := by decide
  exact IM_F hI (rpm_0_4 (by rw [ti_add (by omega) (by omega), e1]; omega))
theorem q_readPart_b4 (a1 : Int32) (n0 p0 : Nat) : ∀ (m : Nat) (a2 a3 : Int32) (d : Nat) (μ : Mem), IM μ → a2.toInt = (d : Int) → (a3 ≠ 0 → d ≤ nv μ 36 ∧ Rq μ (a1 ≠ 0) n0 p0 d (1 + Sm (iv μ 24) d)) → (a3 = 0 → μ.1 0 5 ≠ -1 ∨ Rq μ (a1 ≠ 0) n0 p0 0 0) → pk (p_X12_readPart_b4 m a1 a2 a3 μ) (Qp (a1 ≠ 0) n0) := by
  intro m
  have e0 : (0 : Int32).toInt = 0 := by decide
  have e1 : (1 : Int32).toInt = 1 := by decide
  have e2 : (2 : Int32).toInt = 2 := by decide
  have e3 : (3 : Int32).toInt = 3 := by decide
  have e30 : (30 : Int32).toInt = 30 := by decide
  have e8 : (8 : Int32).toInt = 8 := by decide
  have em1 : (-1 : Int32).toInt = -1 := by decide
  induction m with
  | zero => intro a2 a3 d μ _ _ _ _ r e; rw [p_X12_readPart_b4_z] at e; exact absurd e (by simp)
  | succ m ih =>
    intro a2 a3 d μ hI hd h1 h2
    have hfail : ∀ (a : Int32) (μ1 : Mem), pk (bd (p_X12_fails a μ1) (fun r12 μ11 => gd (isB r12) (some (r12, μ11)))) (Qp (a1 ≠ 0) n0) := by
      intro a μ1
      refine pk_bd (q_fails _ _) ?_
      rintro r2 μ3 e2
      obtain ⟨rfl, rfl⟩ := pr_inj e2
      exact pk_gd fun _ => pk_some (Or.inl rfl)
    rw [p_X12_readPart_b4_s]
    refine pk_ite (fun h3 => pk_ite (fun h5 => pk_some ?_) (fun _ => pk_some (Or.inl rfl))) (fun h3 => pk_bd (q_here _) ?_)
    · rcases h2 h3 with h | h
      · exact absurd h5 h
      · exact Or.inr ⟨h.1, h.2.1.app h.2.2.2.1.whole⟩
    obtain ⟨hdn, hq⟩ := h1 h3
    have hle : nv μ 36 ≤ 30 := by
      have g := rgm_0_36 hI
      have n := ti_nat (a := μ.1 0 36) (by omega)
      unfold nv; omega
    -- behind a leaf
    have h177 : ∀ μ1, IM μ1 → d ≤ nv μ1 36 → Rq μ1 (a1 ≠ 0) n0 p0 d (Sm (iv μ1 24) d) → pk (p_X12_readPart_b177 (p_X12_readPart_b4 m) a1 a2 μ1) (Qp (a1 ≠ 0) n0) := by
      intro μ1 hI1 hd30 hr
      have hle1 : nv μ1 36 ≤ 30 := by
        have g := rgm_0_36 hI1
        have n := ti_nat (a := μ1.1 0 36) (by omega)
        unfold nv; omega
      rw [p_X12_readPart_b177_eq]
      refine pk_bd (pk_nd (by rw [p_X12_closeAll_eq]; exact q_closeAll_b2 (a1 ≠ 0) n0 p0 _ _ d μ1 hd hr) (pk_ok (k_X12_closeAll a2 μ1 hI1 (by omega)))) ?_
      rintro r μ2 ⟨hc, hI2, hF2, hp2⟩
      have hI2 : IM μ2 := hI2
      have en2 : nv μ2 36 = nv μ1 36 := by unfold nv; rw [hF2.1 0 36 (by decide +kernel)]
      dsimp only at hp2
      have g4 := rgm_0_4 hI2
      have h199 : (μ2.1 0 5 ≠ -1 ∨ Rq μ2 (a1 ≠ 0) n0 p0 0 0) → ∀ d2 : Nat, r.toInt = (d2 : Int) → pk (p_X12_readPart_b199 (p_X12_readPart_b4 m) a1 r μ2) (Qp (a1 ≠ 0) n0) := by
        intro hx d2 hd2
        rw [p_X12_readPart_b199_eq, p_X12_readPart_b200_eq]
        exact ih _ _ d2 μ2 hI2 hd2 (fun h => absurd rfl h) (fun _ => hx)
      refine pk_ite (fun hle => ?_) (fun hle => pk_ite (fun h5 => ?_) (fun h5 => ?_))
      · rw [ti_le] at hle
        rcases hc with ⟨c1, c2⟩ | ⟨c1, _⟩
        · exact h199 (Or.inr c2) 0 c1
        · dsimp only at c1; omega
      · rw [ti_le] at hle
        rcases hc with ⟨c1, _⟩ | ⟨c1, c2 | ⟨d2, c2, c3⟩⟩
        · dsimp only at c1; omega
        · exfalso
          have c2 : μ2.1 0 5 = μ2.1 0 4 := c2
          rw [← c2, h5] at g4
          omega
        · rw [p_X12_readPart_b200_eq]
          exact ih _ _ d2 μ2 hI2 c2 (fun _ => ⟨by dsimp only at c2; omega, c3⟩) (fun h => absurd h (by decide))
      · rw [ti_le] at hle
        rcases hc with ⟨c1, _⟩ | ⟨c1, _⟩
        · dsimp only at c1; omega
        · exact h199 (Or.inl h5) r.toInt.toNat (by dsimp only at c1; omega)
    have h83 : ∀ (a4 a5 : Int32), a4 = hv μ → (a5 ≠ 0 → a1 ≠ 0 ∧ a4 = 42 ∧ (μ.1 0 37).toInt ≠ 8) → (μ.1 0 36).toInt ≠ 30 → pk (p_X12_readPart_b83 (p_X12_readPart_b4 m) a1 a2 a3 a4 a5 μ) (Qp (a1 ≠ 0) n0) := by
      intro a4 a5 h4 h5 h36
      rw [p_X12_readPart_b83_eq]
      have g36 := rgm_0_36 hI
      have g37 := rgm_0_37 hI
      obtain ⟨⟨r1, r2, r3⟩, q2, q3, q4, q5⟩ := hq
      have hcm : 1 + Sm (iv μ 24) d = Sm (iv μ 24) d + 1 := Nat.add_comm _ _
      rw [hcm] at q4
      refine pk_ite (fun h91 => ?_) (fun h91 => pk_ite (fun h50 => pk_bd (pk_nd (q_readNumber μ) (pk_ok (k_X12_readNumber μ hI))) ?_) (fun h50 => ?_))
      · -- a pair
        have hlt := hv_lt hI (by rw [← h4, h91]; decide)
        have hI1 := im_at hI hlt.2
        have s1 : Fs μ (sF μ 0 4 (μ.1 0 4 + 1)) := Fs.s4 _
        refine pk_bv (pk_bw (pk_nd (q_layRead 2 0 _) (pk_ok (k_X12_layRead 2 0 _ hI1 (by show (μ.1 0 36).toInt < 30; omega)))) ?_)
        rintro μ2 ⟨⟨hi, em2⟩, hI2, _⟩
        have en1 : nv (sF μ 0 4 (μ.1 0 4 + 1)) 36 = nv μ 36 := rfl
        have hL := rq_lay (st := a1 ≠ 0) (n0 := n0) (p0 := p0) (d := d) (m := Sm (iv μ 24) d) (s := 2) (v := 0) hi q2 q3 q4 q5 r2 (by rw [e2]; exact ⟨by omega, by omega, fun h => absurd h (by decide)⟩) (by rw [e2]; exact r3)
        rw [← em2, e2, if_pos rfl] at hL
        refine pk_gd fun _ => pk_bv (pk_bv (ih _ _ (d + 1) _ (IM_F hI2 (rtma_24 _ _)) ?_ (fun _ => ?_) (fun h => absurd h h3)))
        · rw [ti_add (by omega) (by omega), e1, hd]; omega
        have ed : a2.toNatClampNeg = d := tn_of hd
        rw [ed]
        obtain ⟨l1, l2, l3, l4, l5⟩ := hL
        have e24 : ∀ i, iv μ2 24 i = iv μ 24 i := fun i => by rw [em2]; rfl
        have f24 : ∀ i, i ≠ d → iv (sF μ2 24 d 0) 24 i = iv μ 24 i := fun i hi => by
          rw [← e24]; unfold iv; rw [sF_k hi]
        have v24 : iv (sF μ2 24 d 0) 24 d = 0 := by unfold iv; rw [sF_v]; exact e0
        have en2 : nv (sF μ2 24 d 0) 36 = nv μ 36 + 1 := by
          show nv μ2 36 = _
          have hn := nv_inc (x := μ.1 0 36) (n := 30) hi (by decide)
          unfold nv
          rw [em2, sF_v]; exact hn.1
        refine ⟨by omega, l1, l2, l3, ?_, fun j hj => ?_⟩
        · have : 1 + Sm (iv (sF μ2 24 d 0) 24) (d + 1) = Sm (iv μ 24) d + 2 := by
            show 1 + (Sm _ d + _) = _
            rw [v24, Sm.cong d (fun i hi => f24 i (by omega))]
            have : ((1 : Int) - 0).toNat = 1 := rfl
            omega
          rw [this]; exact l4
        · by_cases ej : j = d
          · rw [ej]; exact Or.inl v24
          · rw [f24 j ej]; exact q5 j (by omega)
      · -- a number
        rintro r15 μ14 ⟨⟨hF14, h6⟩, hI14, _⟩
        have hF14 : Fs μ μ14 := hF14
        have hI14 : IM μ14 := hI14
        refine pk_ite (fun _ => pk_some (Or.inl rfl)) (fun hr => ?_)
        have h6 := h6.resolve_left hr
        have e36 : μ14.1 0 36 = μ.1 0 36 := hF14.f (by decide) (by decide) (by decide) (by decide)
        have e22 : iv μ14 22 = iv μ 22 := funext (fun i => hF14.ivq (by decide) i)
        have e24 : iv μ14 24 = iv μ 24 := funext (fun i => hF14.ivq (by decide) i)
        have en : nv μ14 36 = nv μ 36 := hF14.nvq (by decide) (by decide) (by decide) (by decide)
        have e37 : μ14.1 0 37 = μ.1 0 37 := hF14.f (by decide) (by decide) (by decide) (by decide)
        refine pk_bw (pk_nd (q_layRead _ _ _) (pk_ok (k_X12_layRead _ _ _ hI14 (by rw [e36]; omega)))) ?_
        rintro μ2 ⟨⟨hi, em2⟩, hI2, _⟩
        have h6' : (μ14.1 0 6).toInt = 0 ∨ (μ14.1 0 6).toInt = 1 := h6
        have hL := rq_lay (μ := μ14) (st := a1 ≠ 0) (n0 := n0) (p0 := p0) (d := d) (m := Sm (iv μ 24) d) (s := μ14.1 0 6) (v := μ14.1 0 7) hi (by rw [e22]; exact q2) (by rw [en]; exact q3) (by rw [e22, en]; exact q4) (by rw [e24]; exact q5) (by rw [e22, en]; exact r2) ⟨by omega, by omega, fun h => by omega⟩ (by rw [e37, e22, en, if_neg (by omega)]; exact r3)
        rw [← em2, if_neg (by omega)] at hL
        refine h177 μ2 hI2 ?_ ?_
        · have hn := nv_inc (x := μ14.1 0 36) (n := 30) hi (by decide)
          have : nv μ2 36 = nv μ14 36 + 1 := by unfold nv; rw [em2, sF_v]; exact hn.1
          omega
        · have : iv μ2 24 = iv μ 24 := by rw [em2, ← e24]; rfl
          rw [this]; exact hL
      · -- a star
        obtain ⟨ha1, ha4, h8⟩ := h5 h50
        have hlt := hv_lt hI (by rw [← h4, ha4]; decide)
        have hI1 := im_at hI hlt.2
        have hI2 : IM (sF (sF μ 0 4 (μ.1 0 4 + 1)) 0 37 ((sF μ 0 4 (μ.1 0 4 + 1)).1 0 37 + 1)) := IM_F hI1 (rpm_0_37 (by
          show 0 ≤ ((μ.1 0 37) + 1).toInt ∧ ((μ.1 0 37) + 1).toInt ≤ 8
          rw [ti_add (by omega) (by omega), e1]; omega))
        refine pk_bv (pk_bv (pk_bw (pk_nd (q_layRead 3 0 _) (pk_ok (k_X12_layRead 3 0 _ hI2 (by show (μ.1 0 36).toInt < 30; omega)))) ?_))
        rintro μ2 ⟨⟨hi, em2⟩, hI3, _⟩
        have hL := rq_lay (μ := sF (sF μ 0 4 (μ.1 0 4 + 1)) 0 37 ((sF μ 0 4 (μ.1 0 4 + 1)).1 0 37 + 1)) (st := a1 ≠ 0) (n0 := n0) (p0 := p0) (d := d) (m := Sm (iv μ 24) d) (s := 3) (v := 0) hi q2 q3 q4 q5 r2 (by rw [e3]; exact ⟨by omega, by omega, fun _ => ha1⟩) (by
          rw [e3, if_pos rfl, sF_v]
          show (μ.1 0 37 + 1).toInt = _
          rw [ti_add (by omega) (by omega), e1, r3]
          show _ = ((c3 (iv μ 22) (nv μ 36) + 1 : Nat) : Int)
          omega)
        rw [← em2, e3, if_neg (by decide)] at hL
        refine h177 μ2 hI3 ?_ ?_
        · have hn := nv_inc (x := μ.1 0 36) (n := 30) hi (by decide)
          have : nv μ2 36 = nv μ 36 + 1 := by unfold nv; rw [em2, sF_v]; exact hn.1
          omega
        · have : iv μ2 24 = iv μ 24 := by rw [em2]; rfl
          rw [this]; exact hL
    have h51 : ∀ (a4 a5 : Int32), a4 = hv μ → (a5 ≠ 0 → a1 ≠ 0 ∧ a4 = 42) → pk (p_X12_readPart_b51 (p_X12_readPart_b4 m) a1 a2 a3 a4 a5 μ) (Qp (a1 ≠ 0) n0) := by
      intro a4 a5 h4 h5
      rw [p_X12_readPart_b51_eq]
      have n30 : ∀ x : Int32, ¬ x = 30 → x.toInt ≠ 30 := fun x h e => h (ti_eq.mpr (by rw [e, e30]))
      refine pk_ite (fun _ => hfail _ _) (fun h36 => pk_ite (fun h50 => h83 _ _ h4 (fun h => absurd h50 h) (n30 _ h36)) (fun h50 => pk_ite (fun _ => hfail _ _) (fun h8 => h83 _ _ h4 (fun h => ⟨(h5 h).1, (h5 h).2, fun e => h8 (ti_eq.mpr (by rw [e, e8]))⟩) (n30 _ h36))))
    have h30 : ∀ (a4 k0 : Int32), a4 = hv μ → (k0 ≠ 0 → a1 ≠ 0 ∧ a4 = 42) → pk (p_X12_readPart_b30 (p_X12_readPart_b4 m) a1 a2 a3 a4 k0 μ) (Qp (a1 ≠ 0) n0) := by
      intro a4 k0 h4 h5
      rw [p_X12_readPart_b30_eq]
      refine pk_ite (fun _ => pk_ite (fun _ => h51 _ _ h4 h5) (fun _ => pk_bd (q_beginsNumber _) ?_)) (fun _ => h51 _ _ h4 h5)
      rintro r μ1 e
      obtain rfl : μ1 = μ := e
      exact pk_ite (fun _ => hfail _ _) (fun _ => h51 _ _ h4 h5)
    have h29 : ∀ (a4 : Int32), a4 = hv μ → pk (p_X12_readPart_b29 (p_X12_readPart_b4 m) a1 a2 a3 a4 μ) (Qp (a1 ≠ 0) n0) := by
      intro a4 h4
      rw [p_X12_readPart_b29_eq]
      exact h30 _ _ h4 (fun h => absurd rfl h)
    rintro r μ1 e
    obtain ⟨rfl, rfl⟩ := pr_inj e
    exact pk_ite (fun h42 => pk_ite (fun _ => h29 _ rfl) (fun ha1 => h30 _ _ rfl (fun _ => ⟨ha1, h42⟩))) (fun _ => h29 _ rfl)
theorem q_readPart (a1 : Int32) (n0 : Nat) (μ : Mem) (hI : IM μ) (hr : Ri μ (a1 ≠ 0)) (hs : Sh (bp (iv μ 22)) n0 0 (nv μ 36)) : pk (p_X12_readPart a1 μ) (Qp (a1 ≠ 0) n0) := by
  rw [p_X12_readPart_eq]
  exact q_readPart_b4 a1 n0 (nv μ 36) _ _ _ 0 μ hI (by decide) (fun _ => ⟨by omega, hr, hs, Nat.le_refl _, Cn.rf, fun j hj => absurd hj (by omega)⟩) (fun h => absurd h (by decide))
