def ky (x : Ky) : Nat := (x.1.toInt - 97).toNat * 6 + x.2
def Kv (x : Ky) : Prop := isL x.1 = true ∧ x.2 ≤ 5
def Kw (K : List Ky) : Prop := K.Pairwise (fun x y => x ≠ y) ∧ ∀ x, x ∈ K → Kv x
theorem isL_r {c : Int32} (h : isL c = true) : 97 ≤ c.toInt ∧ c.toInt ≤ 108 := by
  have e97 : (97 : Int32).toInt = 97 := by decide
  have e108 : (108 : Int32).toInt = 108 := by decide
  unfold isL at h
  by_cases h1 : c < 97
  · rw [decide_eq_true h1] at h; cases h
  · by_cases h2 : 108 < c
    · rw [decide_eq_true h2] at h; simp at h
    · rw [ti_lt, e97] at h1
      rw [ti_lt, e108] at h2
      omega
theorem ky_inj {x y : Ky} (hx : Kv x) (hy : Kv y) (h : ky x = ky y) : x = y := by
  have a := isL_r hx.1
  have b := isL_r hy.1
  have c := hx.2
  have d := hy.2
  unfold ky at h
  have e2 : x.2 = y.2 := by omega
  have e1 : x.1 = y.1 := ti_eq.mpr (by omega)
  exact Prod.ext e1 e2
theorem ky_lt {x : Ky} (hx : Kv x) : ky x < 72 := by
  have a := isL_r hx.1
  have c := hx.2
  unfold ky; omega
theorem Kw.len {K : List Ky} (h : Kw K) : K.length ≤ 72 := by
  refine fn_72 (le := fun i => (K.getD i (0, 0)).1.toInt - 96) (ar := fun i => ((K.getD i (0, 0)).2 : Int)) (fun k hk => ?_) (fun i j hij hj => ?_)
  · have e : K.getD k (0, 0) = K[k] := by rw [List.getD_eq_getElem?_getD, List.getElem?_eq_getElem hk]; rfl
    have hv := h.2 _ (List.getElem_mem hk)
    have a := isL_r hv.1
    have b := hv.2
    show 1 ≤ (K.getD k (0, 0)).1.toInt - 96 ∧ (K.getD k (0, 0)).1.toInt - 96 ≤ 12 ∧ 0 ≤ ((K.getD k (0, 0)).2 : Int) ∧ ((K.getD k (0, 0)).2 : Int) ≤ 5
    rw [e]; omega
  · have hi : i < K.length := by omega
    have ei : K.getD i (0, 0) = K[i] := by rw [List.getD_eq_getElem?_getD, List.getElem?_eq_getElem hi]; rfl
    have ej : K.getD j (0, 0) = K[j] := by rw [List.getD_eq_getElem?_getD, List.getElem?_eq_getElem hj]; rfl
    have hne := List.pairwise_iff_getElem.mp h.1 i j hi hj hij
    show (K.getD i (0, 0)).1.toInt - 96 ≠ (K.getD j (0, 0)).1.toInt - 96 ∨ ((K.getD i (0, 0)).2 : Int) ≠ ((K.getD j (0, 0)).2 : Int)
    rw [ei, ej]
    by_cases c : (K[i]).1 = (K[j]).1
    · right
      intro e
      exact hne (Prod.ext c (by omega))
    · left
      intro e
      exact c (ti_eq.mpr (by omega))
theorem Kw.add {K : List Ky} {x : Ky} (h : Kw K) (hx : Kv x) (hn : ¬ x ∈ K) : Kw (x :: K) := by
  refine ⟨List.pairwise_cons.mpr ⟨fun y hy e => hn (by rw [e]; exact hy), h.1⟩, fun y hy => ?_⟩
  rcases List.mem_cons.mp hy with e | e
  · rw [e]; exact hx
  · exact h.2 y e
def Kt (P : Nat) (K : List Ky) (μ : Mem) : Prop := (μ.1 P 0).toInt = (K.length : Int) ∧ (0 ≤ (μ.1 P 2).toInt ∧ (μ.1 P 2).toInt ≤ 2472) ∧ (∀ i, i < K.length → 0 ≤ (μ.1 (P + 2) i).toInt) ∧ ∀ k, k < 72 → ((∃ x, x ∈ K ∧ ky x = k) ∧ 0 ≤ (μ.1 (P + 3) k).toInt ∧ (μ.1 (P + 3) k).toInt < (K.length : Int)) ∨ ((¬ ∃ x, x ∈ K ∧ ky x = k) ∧ μ.1 (P + 3) k = -1)
def Fz (t : Nat → Int32) (n P : Nat) (v : Nat × List Ky) (μ : Mem) : Prop := Xw t n v.1 μ ∧ Kw v.2 ∧ Kt P v.2 μ
theorem Kt.yn {P : Nat} (hP : P29 P) {K : List Ky} {μ q : Mem} (h : Kt P K μ) (hy : Yn μ q) : Kt P K q := by
  unfold P29 at hP
  obtain ⟨h1, h2, h3, h4⟩ := h
  refine ⟨by rw [hy.2 _ _ (by omega) (by omega)]; exact h1, by rw [hy.2 _ _ (by omega) (by omega)]; exact h2, fun i hi => by rw [hy.2 _ _ (by omega) (by omega)]; exact h3 i hi, fun k hk => ?_⟩
  rw [hy.2 (P + 3) k (by omega) (by omega)]; exact h4 k hk
theorem q_start {P : Nat} {K : List Ky} {μ : Mem} {a : Int32} {x : Ky} (hK : Kw K) (h : Kt P K μ) (hx : Kv x) (ha : a.toInt = (ky x : Int)) : pk (p_X3_startOf P a μ) (fun r => r.2 = μ ∧ (r.1 = -1 ↔ ¬ x ∈ K)) := by
  have e0 : (0 : Int32).toInt = 0 := by decide
  have e72 : (72 : Int32).toInt = 72 := by decide
  have em : (-1 : Int32).toInt = -1 := by decide
  have hl := ky_lt hx
  have iff : (∃ y, y ∈ K ∧ ky y = ky x) ↔ x ∈ K := by
    constructor
    · rintro ⟨y, hy, e⟩; rw [← ky_inj (hK.2 y hy) hx e]; exact hy
    · intro h; exact ⟨x, h, rfl⟩
  rw [p_X3_startOf_eq, tn_of ha]
  obtain ⟨h1, h2, h3, h4⟩ := h
  refine pk_ite (fun c => ?_) (fun _ => pk_ite (fun c => ?_) (fun _ => pk_gd (fun _ => ?_)))
  · rw [ti_lt, ha, e0] at c; omega
  · rw [ti_le, ha, e72] at c; omega
  rcases h4 (ky x) hl with ⟨a1, a2, a3⟩ | ⟨a1, a2⟩
  · refine pk_ite (fun c => ?_) (fun _ => pk_gd (fun _ => pk_ite (fun _ => pk_gd (fun _ => pk_gd (fun _ => pk_some ⟨rfl, ?_⟩))) (fun c => ?_)))
    · rw [ti_lt, e0] at c; omega
    · have hn := ti_nat a2
      have h3 := h3 (μ.1 (P + 3) (ky x)).toNatClampNeg (by omega)
      constructor
      · intro e
        have e : μ.1 (P + 2) (μ.1 (P + 3) (ky x)).toNatClampNeg = -1 := e
        rw [e, em] at h3; omega
      · intro e; exact absurd (iff.mp a1) e
    · rw [ti_lt, h1] at c; omega
  · refine pk_ite (fun _ => pk_some ⟨rfl, ?_⟩) (fun c => ?_)
    · exact ⟨fun _ e => a1 (iff.mpr e), fun _ => rfl⟩
    · rw [a2] at c; exact absurd (by decide) c
theorem q_begin3 {P L k : Nat} (hP : P29 P) {μ : Mem} {a : Int32} (hL : (μ.1 P 0).toInt = (L : Int)) (hL7 : L < 72) (ha : a.toInt = (k : Int)) (hk : k < 72) : pk (p_X3_begin P a μ) (fun q => q.2.2 = μ.2.2 ∧ (∀ i j, i ≠ P → i ≠ P + 1 → i ≠ P + 2 → i ≠ P + 3 → q.1 i j = μ.1 i j) ∧ q.1 P 2 = μ.1 P 2 ∧ q.1 P 0 = μ.1 P 0 + 1 ∧ (∀ j, q.1 (P + 2) j = if j = L then μ.1 P 2 else μ.1 (P + 2) j) ∧ (∀ j, q.1 (P + 3) j = if j = k then μ.1 P 0 else μ.1 (P + 3) j) ∧ inb ((μ.1 P 0) * 6 + 2) 432 = true ∧ q.1 (P + 1) ((μ.1 P 0) * 6 + 2).toNatClampNeg = 0) := by
  have e0 : (0 : Int32).toInt = 0 := by decide
  have e1 : (1 : Int32).toInt = 1 := by decide
  have e2 : (2 : Int32).toInt = 2 := by decide
  have e6 : (6 : Int32).toInt = 6 := by decide
  have e72 : (72 : Int32).toInt = 72 := by decide
  have tL : (μ.1 P 0).toNatClampNeg = L := tn_of hL
  have m6 : ((μ.1 P 0) * 6).toInt = 6 * (L : Int) := by rw [ti_mulc e6 (by omega) (by omega), hL]; omega
  have m62 : ((μ.1 P 0) * 6 + 2).toInt = 6 * (L : Int) + 2 := by rw [ti_add (by omega) (by omega), m6, e2]
  have n62 : ((μ.1 P 0) * 6 + 2).toNatClampNeg = 6 * L + 2 := tn_of (by omega)
  have i62 : inb ((μ.1 P 0) * 6 + 2) 432 = true := inb_iff.mpr ⟨by omega, by omega⟩
  have loop : ∀ (fu : Nat) (j : Nat) (a2 : Int32) (q : Mem), a2.toInt = (j : Int) → j ≤ 6 → q.2.2 = μ.2.2 → (∀ i l, i ≠ P + 1 → q.1 i l = μ.1 i l) → (2 < j → q.1 (P + 1) (6 * L + 2) = 0) → pk (p_X3_begin_b22 fu P a a2 q) (fun q => q.2.2 = μ.2.2 ∧ (∀ i j, i ≠ P → i ≠ P + 1 → i ≠ P + 2 → i ≠ P + 3 → q.1 i j = μ.1 i j) ∧ q.1 P 2 = μ.1 P 2 ∧ q.1 P 0 = μ.1 P 0 + 1 ∧ (∀ j, q.1 (P + 2) j = if j = L then μ.1 P 2 else μ.1 (P + 2) j) ∧ (∀ j, q.1 (P + 3) j = if j = k then μ.1 P 0 else μ.1 (P + 3) j) ∧ inb ((μ.1 P 0) * 6 + 2) 432 = true ∧ q.1 (P + 1) ((μ.1 P 0) * 6 + 2).toNatClampNeg = 0) := by
    intro fu
    induction fu with
    | zero => intro j a2 q _ _ _ _ _ r e; rw [p_X3_begin_b22_z] at e; cases e
    | succ fu ih =>
      intro j a2 q h2 hj g1 g2 g3
      rw [p_X3_begin_b22_s]
      have q0 : q.1 P 0 = μ.1 P 0 := g2 P 0 (by omega)
      have q2 : q.1 P 2 = μ.1 P 2 := g2 P 2 (by omega)
      refine pk_ite (fun c => ?_) (fun c => ?_)
      · rw [ti_le, e6, h2] at c
        refine pk_gd (fun _ => pk_bvy (fun μ5 e5 => pk_gd (fun _ => pk_bvy (fun μ6 e6' => pk_gd (fun _ => pk_bvy (fun μ7 e7 => pk_gd (fun _ => pk_bvy (fun μ8 e8 => pk_bvy (fun μ9 e9 => pk_some ?_)))))))))
        have p5 : ∀ i l, i ≠ P + 1 → μ5.1 i l = q.1 i l := fun i l hi => by rw [e5, sF_i hi]
        have p6 : ∀ i l, i ≠ P + 1 → μ6.1 i l = q.1 i l := fun i l hi => by rw [e6', sF_i hi, p5 i l hi]
        have p60 : μ6.1 P 0 = μ.1 P 0 := by rw [p6 P 0 (by omega), q0]
        have p62 : μ6.1 P 2 = μ.1 P 2 := by rw [p6 P 2 (by omega), q2]
        have p7 : ∀ i l, i ≠ P + 2 → μ7.1 i l = μ6.1 i l := fun i l hi => by rw [e7, sF_i hi]
        have p70 : μ7.1 P 0 = μ.1 P 0 := by rw [p7 P 0 (by omega), p60]
        have p8 : ∀ i l, i ≠ P + 3 → μ8.1 i l = μ7.1 i l := fun i l hi => by rw [e8, sF_i hi]
        have p80 : μ8.1 P 0 = μ.1 P 0 := by rw [p8 P 0 (by omega), p70]
        have p9 : ∀ i l, ¬ (i = P ∧ l = 0) → μ9.1 i l = μ8.1 i l := by
          intro i l h
          rw [e9, sF_1]
          by_cases hi : i = P
          · subst hi; rw [if_pos rfl, if_neg (fun e => h ⟨rfl, e⟩)]
          · rw [if_neg hi]
        refine ⟨by rw [e9, e8, e7, e6', e5]; exact g1, fun i l i0 i1 i2 i3 => ?_, ?_, ?_, fun l => ?_, fun l => ?_, i62, ?_⟩
        · rw [p9 i l (fun e => i0 e.1), p8 i l i3, p7 i l i2, p6 i l i1, g2 i l i1]
        · rw [p9 P 2 (fun e => absurd e.2 (by decide)), p8 P 2 (by omega), p7 P 2 (by omega), p62]
        · rw [e9, sF_v, p80]
        · rw [p9 _ l (fun e => absurd e.1 (by omega)), p8 _ l (by omega), e7, sF_1, if_pos rfl, p60, tL, p62, p6 _ l (by omega), g2 _ l (by omega)]
        · rw [p9 _ l (fun e => absurd e.1 (by omega)), e8, sF_1, if_pos rfl, p70, tn_of ha, p7 _ l (by omega), p6 _ l (by omega), g2 _ l (by omega)]
        · have d5 : ((q.1 P 0) * 6).toNatClampNeg = 6 * L := by rw [q0]; exact tn_of (by omega)
          have d6 : ((μ5.1 P 0) * 6 + 1).toNatClampNeg = 6 * L + 1 := by
            rw [p5 P 0 (by omega), q0]; exact tn_of (by rw [ti_add (by omega) (by omega), m6, e1]; omega)
          rw [n62, p9 _ _ (fun e => absurd e.1 (by omega)), p8 _ _ (by omega), p7 _ _ (by omega), e6', sF_k (by omega), e5, sF_k (by omega)]
          exact g3 (by omega)
      · rw [ti_le, e6, h2] at c
        refine pk_gd (fun _ => pk_bvy (fun μ10 e10 => pk_bv (ih (j + 1) _ μ10 (by rw [ti_add (by omega) (by omega), e1, h2]; omega) (by omega) (by rw [e10]; exact g1) (fun i l hi => by rw [e10, sF_i hi, g2 i l hi]) (fun h => ?_))))
        have d : ((q.1 P 0) * 6 + a2).toNatClampNeg = 6 * L + j := by
          rw [q0]; exact tn_of (by rw [ti_add (by omega) (by omega), m6, h2]; omega)
        rw [e10, d]
        by_cases cj : j = 2
        · rw [cj, sF_v]
        · rw [sF_k (by omega)]; exact g3 (by omega)
  rw [p_X3_begin_eq]
  refine pk_ite (fun c => ?_) (fun _ => pk_ite (fun c => ?_) (fun _ => pk_ite (fun _ => loop FUEL 0 0 μ e0 (by omega) rfl (fun _ _ _ => rfl) (fun h => by omega)) (fun c => ?_)))
  · rw [ti_lt, ha, e0] at c; omega
  · rw [ti_le, ha, e72] at c; omega
  · rw [ti_lt, hL, e72] at c; omega
