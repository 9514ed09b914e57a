abbrev Fn5 := Int32 × List Int32 × List Th3 × Nat
def fkey (f : Fn5) : Ky := (f.1, f.2.1.length)
noncomputable def rfeP (t : Nat → Int32) (n : Nat) (G : List Fn5) (C : List Th3) (p : Nat) (v : Nl) : Rd (Nat × List Fn5 × List Th3) :=
  if hr t n v.1 = 61 then (if (hr t n p, v.2.length) ∈ G.map fkey then .inl p else bnd (tkP t n 59 (reP t n 20 v.2 (v.1 + 1, ([], C)))) (fun w => .inr (w.1, (hr t n p, v.2, w.2.1, C.length) :: G, w.2.2 ++ [(14, 0, 0)]))) else .inl v.1
noncomputable def rfP (t : Nat → Int32) (n : Nat) (G : List Fn5) (C : List Th3) (p : Nat) : Rd (Nat × List Fn5 × List Th3) :=
  if isL (hr t n p) = true then bnd (tkn t n 41 (rnl t n (tkn t n 40 (.inr (p + 1, []))))) (rfeP t n G C p) else .inl p
noncomputable def rpgP (t : Nat → Int32) (n : Nat) : Nat → Nat × List Fn5 × List Th3 → Rd (List Fn5 × List Th3)
  | 0, v => .inl v.1
  | f + 1, v => if n ≤ v.1 then .inr v.2 else bnd (rfP t n v.2.1 v.2.2 v.1) (rpgP t n f)
def tot (G : List Fn5) : Nat := (G.map (fun f => f.2.2.1.length)).sum
def Fa5 (P k : Nat) (f : Fn5) (μ : Mem) : Prop := (μ.1 (P + 1) (6 * k)).toInt = f.1.toInt - 96 ∧ (μ.1 (P + 1) (6 * k + 1)).toInt = (f.2.1.length : Int) ∧ (μ.1 (P + 1) (6 * k + 2)).toInt = ((cnt f.2.2.1).1 : Int) ∧ (μ.1 (P + 1) (6 * k + 3)).toInt = ((cnt f.2.2.1).2.1 : Int) ∧ (μ.1 (P + 1) (6 * k + 4)).toInt = ((cnt f.2.2.1).2.2.1 : Int) ∧ (μ.1 (P + 1) (6 * k + 5)).toInt = ((cnt f.2.2.1).2.2.2 : Int) ∧ (μ.1 (P + 2) k).toInt = (f.2.2.2 : Int) ∧ (μ.1 (P + 3) (ky (fkey f))).toInt = (k : Int)
def Fs5 (P : Nat) : List Fn5 → Mem → Prop
  | [], _ => True
  | f :: G, μ => Fa5 P G.length f μ ∧ Fs5 P G μ
theorem Fs5.cong {P : Nat} {μ q : Mem} : ∀ {G : List Fn5}, Fs5 P G μ → (∀ k, k < 6 * G.length → q.1 (P + 1) k = μ.1 (P + 1) k) → (∀ k, k < G.length → q.1 (P + 2) k = μ.1 (P + 2) k) → (∀ f, f ∈ G → q.1 (P + 3) (ky (fkey f)) = μ.1 (P + 3) (ky (fkey f))) → Fs5 P G q := by
  intro G
  induction G with
  | nil => intro _ _ _ _; trivial
  | cons f G ih =>
    intro h a b c
    obtain ⟨⟨h0, h1, h2, h3, h4, h5, h6, h7⟩, hG⟩ := h
    have a : ∀ k, k < 6 * (G.length + 1) → q.1 (P + 1) k = μ.1 (P + 1) k := a
    have b : ∀ k, k < G.length + 1 → q.1 (P + 2) k = μ.1 (P + 2) k := b
    exact ⟨⟨by rw [a _ (by omega)]; exact h0, by rw [a _ (by omega)]; exact h1, by rw [a _ (by omega)]; exact h2, by rw [a _ (by omega)]; exact h3, by rw [a _ (by omega)]; exact h4, by rw [a _ (by omega)]; exact h5, by rw [b _ (by omega)]; exact h6, by rw [c f List.mem_cons_self]; exact h7⟩, ih hG (fun k hk => a k (by omega)) (fun k hk => b k (by omega)) (fun g hg => c g (List.mem_cons_of_mem _ hg))⟩
theorem ti_div6 {a : Int32} (h0 : 0 ≤ a.toInt) : (a / 6).toInt = a.toInt / 6 := by
  have hhi := ti_hi a
  have e6 : (6 : Int32).toInt = 6 := by decide
  rw [Int32.toInt_div, e6, Int.tdiv_eq_ediv_of_nonneg h0, Int.bmod_eq_of_le (by omega) (by omega)]
theorem q_begin5 {P L k : Nat} (hP : P29 P) {μ : Mem} {a : Int32} (hL : (μ.1 P 0).toInt = (L : Int)) (hL7 : L < 72) (ha : a.toInt = (k : Int)) (hk : k < 72) : pk (p_X3_begin P a μ) (fun q => q.2 = μ.2 ∧ (∀ i j, i ≠ P → i ≠ P + 1 → i ≠ P + 2 → i ≠ P + 3 → q.1 i j = μ.1 i j) ∧ (∀ j, j ≠ 0 → q.1 P j = μ.1 P j) ∧ q.1 P 0 = μ.1 P 0 + 1 ∧ (∀ j, q.1 (P + 2) j = if j = L then μ.1 P 2 else μ.1 (P + 2) j) ∧ (∀ j, q.1 (P + 3) j = if j = k then μ.1 P 0 else μ.1 (P + 3) j) ∧ (∀ j, j < 6 * L → q.1 (P + 1) j = μ.1 (P + 1) j) ∧ q.1 (P + 1) (6 * L) = a / 6 + 1 ∧ q.1 (P + 1) (6 * L + 1) = a - a / 6 * 6 ∧ ∀ j, 2 ≤ j → j < 6 → q.1 (P + 1) (6 * L + j) = 0) := by
  have e0 : (0 : Int32).toInt = 0 := by decide
  have e1 : (1 : Int32).toInt = 1 := by decide
  have e6 : (6 : Int32).toInt = 6 := by decide
  have e72 : (72 : Int32).toInt = 72 := by decide
  have tL : (μ.1 P 0).toNatClampNeg = L := tn_of hL
  have m6 : ((μ.1 P 0) * 6).toInt = 6 * (L : Int) := by rw [ti_mulc e6 (by omega) (by omega), hL]; omega
  have loop : ∀ (fu : Nat) (j : Nat) (a2 : Int32) (q : Mem), a2.toInt = (j : Int) → j ≤ 6 → q.2 = μ.2 → (∀ i l, i ≠ P + 1 → q.1 i l = μ.1 i l) → (∀ l, l < 6 * L → q.1 (P + 1) l = μ.1 (P + 1) l) → (∀ l, l < j → q.1 (P + 1) (6 * L + l) = 0) → pk (p_X3_begin_b22 fu P a a2 q) (fun q => q.2 = μ.2 ∧ (∀ i j, i ≠ P → i ≠ P + 1 → i ≠ P + 2 → i ≠ P + 3 → q.1 i j = μ.1 i j) ∧ (∀ j, j ≠ 0 → q.1 P j = μ.1 P j) ∧ q.1 P 0 = μ.1 P 0 + 1 ∧ (∀ j, q.1 (P + 2) j = if j = L then μ.1 P 2 else μ.1 (P + 2) j) ∧ (∀ j, q.1 (P + 3) j = if j = k then μ.1 P 0 else μ.1 (P + 3) j) ∧ (∀ j, j < 6 * L → q.1 (P + 1) j = μ.1 (P + 1) j) ∧ q.1 (P + 1) (6 * L) = a / 6 + 1 ∧ q.1 (P + 1) (6 * L + 1) = a - a / 6 * 6 ∧ ∀ j, 2 ≤ j → j < 6 → q.1 (P + 1) (6 * L + j) = 0) := by
    intro fu
    induction fu with
    | zero => intro j a2 q _ _ _ _ _ _ r e; rw [p_X3_begin_b22_z] at e; cases e
    | succ fu ih =>
      intro j a2 q h2 hj g1 g2 g3 g4
      rw [p_X3_begin_b22_s]
      have q0 : q.1 P 0 = μ.1 P 0 := g2 P 0 (by omega)
      have q2 : q.1 P 2 = μ.1 P 2 := g2 P 2 (by omega)
      refine pk_ite (fun c => ?_) (fun c => ?_)
      · rw [ti_le, e6, h2] at c
        refine pk_gd (fun _ => pk_bvy (fun μ5 e5 => pk_gd (fun _ => pk_bvy (fun μ6 e6' => pk_gd (fun _ => pk_bvy (fun μ7 e7 => pk_gd (fun _ => pk_bvy (fun μ8 e8 => pk_bvy (fun μ9 e9 => pk_some ?_)))))))))
        have p5 : ∀ i l, i ≠ P + 1 → μ5.1 i l = q.1 i l := fun i l hi => by rw [e5, sF_i hi]
        have p6 : ∀ i l, i ≠ P + 1 → μ6.1 i l = q.1 i l := fun i l hi => by rw [e6', sF_i hi, p5 i l hi]
        have p60 : μ6.1 P 0 = μ.1 P 0 := by rw [p6 P 0 (by omega), q0]
        have p62 : μ6.1 P 2 = μ.1 P 2 := by rw [p6 P 2 (by omega), q2]
        have p7 : ∀ i l, i ≠ P + 2 → μ7.1 i l = μ6.1 i l := fun i l hi => by rw [e7, sF_i hi]
        have p70 : μ7.1 P 0 = μ.1 P 0 := by rw [p7 P 0 (by omega), p60]
        have p8 : ∀ i l, i ≠ P + 3 → μ8.1 i l = μ7.1 i l := fun i l hi => by rw [e8, sF_i hi]
        have p80 : μ8.1 P 0 = μ.1 P 0 := by rw [p8 P 0 (by omega), p70]
        have p9 : ∀ i l, ¬ (i = P ∧ l = 0) → μ9.1 i l = μ8.1 i l := by
          intro i l h
          rw [e9, sF_1]
          by_cases hi : i = P
          · subst hi; rw [if_pos rfl, if_neg (fun e => h ⟨rfl, e⟩)]
          · rw [if_neg hi]
        have d5 : ((q.1 P 0) * 6).toNatClampNeg = 6 * L := by rw [q0]; exact tn_of (by omega)
        have d6 : ((μ5.1 P 0) * 6 + 1).toNatClampNeg = 6 * L + 1 := by
          rw [p5 P 0 (by omega), q0]; exact tn_of (by rw [ti_add (by omega) (by omega), m6, e1]; omega)
        have z1 : ∀ l, μ9.1 (P + 1) l = if l = 6 * L + 1 then a - a / 6 * 6 else if l = 6 * L then a / 6 + 1 else q.1 (P + 1) l := by
          intro l
          rw [p9 _ l (fun e => absurd e.1 (by omega)), p8 _ l (by omega), p7 _ l (by omega), e6', sF_1, if_pos rfl, d6, e5, sF_1, if_pos rfl, d5]
        refine ⟨by rw [e9, e8, e7, e6', e5]; exact g1, fun i l i0 i1 i2 i3 => ?_, fun l hl => ?_, ?_, fun l => ?_, fun l => ?_, fun l hl => ?_, ?_, ?_, fun l hl hl6 => ?_⟩
        · rw [p9 i l (fun e => i0 e.1), p8 i l i3, p7 i l i2, p6 i l i1, g2 i l i1]
        · rw [p9 P l (fun e => hl e.2), p8 P l (by omega), p7 P l (by omega), p6 P l (by omega), g2 P l (by omega)]
        · rw [e9, sF_v, p80]
        · rw [p9 _ l (fun e => absurd e.1 (by omega)), p8 _ l (by omega), e7, sF_1, if_pos rfl, p60, tL, p62, p6 _ l (by omega), g2 _ l (by omega)]
        · rw [p9 _ l (fun e => absurd e.1 (by omega)), e8, sF_1, if_pos rfl, p70, tn_of ha, p7 _ l (by omega), p6 _ l (by omega), g2 _ l (by omega)]
        · rw [z1, if_neg (by omega), if_neg (by omega)]; exact g3 l hl
        · rw [z1, if_neg (by omega), if_pos rfl]
        · rw [z1, if_pos rfl]
        · rw [z1, if_neg (by omega), if_neg (by omega)]; exact g4 l (by omega)
      · rw [ti_le, e6, h2] at c
        have d : ((q.1 P 0) * 6 + a2).toNatClampNeg = 6 * L + j := by
          rw [q0]; exact tn_of (by rw [ti_add (by omega) (by omega), m6, h2]; omega)
        refine pk_gd (fun _ => pk_bvy (fun μ10 e10 => pk_bv (ih (j + 1) _ μ10 (by rw [ti_add (by omega) (by omega), e1, h2]; omega) (by omega) (by rw [e10]; exact g1) (fun i l hi => by rw [e10, sF_i hi, g2 i l hi]) (fun l hl => ?_) (fun l hl => ?_))))
        · rw [e10, d, sF_k (by omega)]; exact g3 l hl
        · rw [e10, d]
          by_cases cj : l = j
          · rw [cj, sF_v]
          · rw [sF_k (by omega)]; exact g4 l (by omega)
  rw [p_X3_begin_eq]
  refine pk_ite (fun c => ?_) (fun _ => pk_ite (fun c => ?_) (fun _ => pk_ite (fun _ => loop FUEL 0 0 μ e0 (by omega) rfl (fun _ _ _ => rfl) (fun _ _ => rfl) (fun l h => by omega)) (fun c => ?_)))
  · rw [ti_lt, ha, e0] at c; omega
  · rw [ti_le, ha, e72] at c; omega
  · rw [ti_lt, hL, e72] at c; omega
def Fz5 (t : Nat → Int32) (n P : Nat) (v : Nat × List Fn5 × List Th3) (μ : Mem) : Prop := Xw t n v.1 μ ∧ Kw (v.2.1.map fkey) ∧ Kt P (v.2.1.map fkey) μ ∧ Fs5 P v.2.1 μ ∧ Lc P v.2.2 μ ∧ (μ.1 P 1).toInt = (tot v.2.1 : Int) ∧ tot v.2.1 ≤ 80 * v.2.1.length ∧ v.2.2.length ≤ 3 * v.1 + v.2.1.length
def Fp5 (t : Nat → Int32) (n P : Nat) (μ : Mem) (o : Rd (Nat × List Fn5 × List Th3)) (q : Mem) : Prop := q.2.2 = μ.2.2 ∧ (match o with | .inl f => Xf t n f q | .inr v => Fz5 t n P v q)
theorem reP_80 {t : Nat → Int32} {n r : Nat} {N : List Int32} {v w : Nat × Py} {P f B d : Nat} {μ0 μ : Mem} {c : Int32} (h : Es5 t n N P f B d μ0 (.inr w) μ) : w.2.1.length ≤ 80 := h.2.2.2.2.1.2.2.2.1
