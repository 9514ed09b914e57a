section
def Lv7 (kind mark : Int32) (x y : Int64) (v b n : Nat) (μ q : Mem) : Prop := ∃ z, Ad7 kind mark v b n μ z ∧ q.1 = z.1 ∧ q.2.2 = z.2.2 ∧ ∀ i k, q.2.1 i k = if i = 41 ∧ k = 10 * n + 1 then y else if i = 41 ∧ k = 10 * n then x else μ.2.1 i k
theorem c_op {μ : Mem} {a1 a2 : Int32} {i k : Nat} (x : Int64) (h1 : a1.toInt = (i : Int)) (h2 : a2.toInt = (k : Int)) (hi : (i : Int) < (μ.1 39 1).toInt) (hi3 : i < 300) (hk : k < 10) : pk (p_X5_setOperand a1 a2 x μ) (fun q => q = sL μ 41 (10 * i + k) x) := by
  have e0 : (0 : Int32).toInt = 0 := by decide
  have e10 : (10 : Int32).toInt = 10 := by decide
  have m : (a1 * 10).toInt = 10 * (i : Int) := by rw [ti_mulc e10 (by omega) (by omega), h1]; omega
  rw [p_X5_setOperand_eq, if_neg (by rw [ti_lt, e0]; omega), if_neg (by rw [ti_le]; omega), if_neg (by rw [ti_lt, e0]; omega), if_neg (by rw [ti_le, e10]; omega), tn_of (show (a1 * 10 + a2).toInt = ((10 * i + k : Nat) : Int) by rw [ti_add (by omega) (by omega), m, h2]; omega)]
  exact pk_gd (fun _ => pk_bvy (fun μ5 m5 => pk_some m5))
theorem c_cell {μ : Mem} {a1 a2 : Int32} {i k : Nat} (h1 : a1.toInt = (i : Int)) (h2 : a2.toInt = (k : Int)) (hi : (i : Int) < (μ.1 39 1).toInt) (hi3 : i < 300) (hk : k < 8) : pk (p_X5_cell a1 a2 μ) (fun r => r.2 = μ ∧ r.1 = μ.1 40 (8 * i + k)) := by
  have e0 : (0 : Int32).toInt = 0 := by decide
  have e8 : (8 : Int32).toInt = 8 := by decide
  have m : (a1 * 8).toInt = 8 * (i : Int) := by rw [ti_mulc e8 (by omega) (by omega), h1]; omega
  rw [p_X5_cell_eq, if_neg (by rw [ti_lt, e0]; omega), if_neg (by rw [ti_le]; omega), if_neg (by rw [ti_le, e8]; omega), tn_of (show (a1 * 8 + a2).toInt = ((8 * i + k : Nat) : Int) by rw [ti_add (by omega) (by omega), m, h2]; omega)]
  exact pk_gd (fun _ => pk_some ⟨rfl, rfl⟩)
theorem c_setCell {μ : Mem} {a1 a2 : Int32} {i k : Nat} (x : Int32) (h1 : a1.toInt = (i : Int)) (h2 : a2.toInt = (k : Int)) (hi : (i : Int) < (μ.1 39 1).toInt) (hi3 : i < 300) (hk : k < 8) : pk (p_X5_setCell a1 a2 x μ) (fun q => q = sF μ 40 (8 * i + k) x) := by
  have e0 : (0 : Int32).toInt = 0 := by decide
  have e8 : (8 : Int32).toInt = 8 := by decide
  have m : (a1 * 8).toInt = 8 * (i : Int) := by rw [ti_mulc e8 (by omega) (by omega), h1]; omega
  rw [p_X5_setCell_eq, if_neg (by rw [ti_lt, e0]; omega), if_neg (by rw [ti_le]; omega), if_neg (by rw [ti_le, e8]; omega), tn_of (show (a1 * 8 + a2).toInt = ((8 * i + k : Nat) : Int) by rw [ti_add (by omega) (by omega), m, h2]; omega)]
  exact pk_gd (fun _ => pk_bvy (fun μ5 m5 => pk_some m5))
theorem ni_ti {n : Nat} (h : n < 2147483648) : (nI n).toInt = (n : Int) := Int32.toInt_ofNat_of_lt h
theorem c_leave {μ : Mem} {kind mark : Int32} {x y : Int64} {v b n : Nat} (hbr : μ.1 137 6 = 0) (hv7 : (μ.1 137 7).toInt = (v : Int)) (hb8 : (μ.1 137 8).toInt = (b : Int)) (hv : (v : Int) < (μ.1 39 2).toInt) (hv24 : v < 24) (hb : (b : Int) < (μ.1 39 6).toInt) (hn : (μ.1 39 1).toInt = (n : Int)) (hl : μ.1 43 b ≠ -1 → ∃ l : Nat, (μ.1 43 b).toInt = (l : Int) ∧ l < n) : pk (p_X10_leave kind mark x y μ) (fun r => (300 ≤ n ∧ r.1 = 0 ∧ r.2 = sF μ 137 6 (-2)) ∨ (n < 300 ∧ r.1 = s_X0_make (nI 3) (if kind = 7 then -1 else μ.1 45 (4 * v + 2)) ∧ Lv7 kind mark x y v b n μ r.2)) := by
  have e0 : (0 : Int32).toInt = ((0 : Nat) : Int) := by decide
  have e1 : (1 : Int32).toInt = ((1 : Nat) : Int) := by decide
  rw [p_X10_leave_eq, if_pos hbr]
  refine pk_bd (c_add hv7 hb8 hv hv24 hb hn hl) ?_
  rintro r3 μ2 (⟨h3, e3, e2⟩ | ⟨h3, e3, hA⟩)
  · have e3 : r3 = -1 := e3
    have e2 : μ2 = μ := e2
    rw [if_pos e3, e2, p_X10_breakOff_eq, if_pos hbr]
    exact pk_bw (pk_bvy (fun μ2 m2 => pk_some (Q := fun q => q = sF μ 137 6 (-2)) m2)) (fun q hq => pk_some (Or.inl ⟨h3, rfl, hq⟩))
  · have e3 : r3 = nI n := e3
    have hA : Ad7 kind mark v b n μ μ2 := hA
    have hr3 : r3.toInt = (n : Int) := by rw [e3]; exact ni_ti (by omega)
    obtain ⟨f2, c1, _, ⟨_, k1, _⟩, _⟩ := id hA
    have e1' : (1 : Int32).toInt = 1 := by decide
    have c1n : (μ2.1 39 1).toInt = (n : Int) + 1 := by rw [c1, ti_add (by omega) (by omega), hn, e1']
    rw [if_neg (fun e => by rw [e] at hr3; have : (-1 : Int32).toInt = -1 := by decide
                            omega)]
    refine pk_bw (c_op x hr3 e0 (by omega) h3 (by decide)) (fun μ5 m5 => ?_)
    refine pk_bw (c_op y hr3 e1 (by rw [m5]; show _ < (μ2.1 39 1).toInt; omega) h3 (by decide)) (fun μ7 m7 => ?_)
    have i7 : μ7.1 = μ2.1 := by rw [m7, m5]; rfl
    refine pk_bd (c_cell hr3 e1 (by rw [i7]; omega) h3 (by decide)) ?_
    rintro r10 μ9 ⟨e9, h10⟩
    have e9 : μ9 = μ7 := e9
    subst e9
    have h10 : r10 = μ9.1 40 (8 * n + 1) := h10
    refine pk_some (Or.inr ⟨h3, ?_, μ2, hA, i7, by show μ9.2.2 = _; rw [m7, m5]; rfl, fun i k => ?_⟩)
    · show s_X0_make 3 r10 = _
      rw [h10, i7, k1]; rfl
    · show μ9.2.1 i k = _
      rw [m7, sL_at, m5, sL_at, f2]; rfl
def Im7 (kind : Int32) (p o : Nat) (μ q : Mem) : Prop := q.2 = μ.2 ∧ (q.1 0 87).toInt = ((p + 1 : Nat) : Int) ∧ (∀ k, k ≠ 87 → q.1 0 k = μ.1 0 k) ∧ (q.1 46 p = kind ∧ q.1 47 p = -1 ∧ q.1 48 p = 0 ∧ (q.1 51 p).toInt = (o : Int) ∧ q.1 52 p = 0) ∧ (∀ i k, i ≠ 0 → ¬ ((46 ≤ i ∧ i ≤ 52) ∧ k = p) → q.1 i k = μ.1 i k) ∧ (∀ k, q.1 49 k = μ.1 49 k ∧ q.1 50 k = μ.1 50 k)
theorem m_item {μ : Mem} {o : Nat} (kind : Int32) (ho : (μ.1 0 88).toInt = (o : Int)) : pk (p_X12_item kind μ) (fun r => ∃ p : Nat, (μ.1 0 87).toInt = (p : Int) ∧ p < 960 ∧ r.1.toInt = (p : Int) ∧ Im7 kind p o μ r.2) := by
  have e1 : (1 : Int32).toInt = 1 := by decide
  rw [p_X12_item_eq]
  refine pk_gd (fun g => ?_)
  obtain ⟨g0, g1⟩ := inb_iff.mp g
  obtain ⟨p, hp⟩ : ∃ p : Nat, (μ.1 0 87).toInt = (p : Int) := ⟨(μ.1 0 87).toInt.toNat, by omega⟩
  have tp := tn_of hp
  refine pk_bvy (fun μ1 m1 => pk_gd (fun _ => pk_bvy (fun μ2 m2 => pk_gd (fun _ => pk_bvy (fun μ3 m3 => pk_gd (fun _ => pk_bvy (fun μ4 m4 => pk_gd (fun _ => pk_bvy (fun μ5 m5 => pk_bvy (fun μ6 m6 => pk_some ?_))))))))))
  have q1 : μ1.1 0 87 = μ.1 0 87 := by rw [m1, sF_i (by decide)]
  have q2 : μ2.1 0 87 = μ.1 0 87 := by rw [m2, sF_i (by decide), q1]
  have q3 : μ3.1 0 87 = μ.1 0 87 := by rw [m3, sF_i (by decide), q2]
  have q4 : μ4.1 0 87 = μ.1 0 87 := by rw [m4, sF_i (by decide), q3]
  have q5 : μ5.1 0 87 = μ.1 0 87 := by rw [m5, sF_i (by decide), q4]
  have o3 : μ3.1 0 88 = μ.1 0 88 := by rw [m3, sF_i (by decide), m2, sF_i (by decide), m1, sF_i (by decide)]
  rw [tp] at m1
  rw [q1, tp] at m2
  rw [q2, tp] at m3
  rw [q3, tp, o3] at m4
  rw [q4, tp] at m5
  rw [q5] at m6
  have c6 : (μ6.1 0 87).toInt = ((p + 1 : Nat) : Int) := by rw [m6, sF_v, ti_add (by omega) (by omega), hp, e1]; omega
  have c : ∀ i k, μ6.1 i k = if i = 0 ∧ k = 87 then μ.1 0 87 + 1 else if i = 52 ∧ k = p then 0 else if i = 51 ∧ k = p then μ.1 0 88 else if i = 48 ∧ k = p then 0 else if i = 47 ∧ k = p then -1 else if i = 46 ∧ k = p then kind else μ.1 i k := by
    intro i k
    rw [m6, sF_at, m5, sF_at, m4, sF_at, m3, sF_at, m2, sF_at, m1, sF_at]
  refine ⟨p, hp, by omega, by show (μ6.1 0 87 - 1).toInt = _; rw [ti_sub (by omega) (by omega), c6, e1]; omega, by rw [m6, m5, m4, m3, m2, m1]; rfl, c6, fun k hk => ?_, ⟨?_, ?_, ?_, ?_, ?_⟩, fun i k h0 h1 => ?_, fun k => ⟨?_, ?_⟩⟩
  · show μ6.1 0 k = _; rw [c, if_neg (by omega), if_neg (by omega), if_neg (by omega), if_neg (by omega), if_neg (by omega), if_neg (by omega)]
  · show μ6.1 46 p = _; rw [c]; simp
  · show μ6.1 47 p = _; rw [c]; simp
  · show μ6.1 48 p = _; rw [c]; simp
  · show (μ6.1 51 p).toInt = _; rw [c]; simp; exact ho
  · show μ6.1 52 p = _; rw [c]; simp
  · show μ6.1 i k = _; rw [c, if_neg (by omega), if_neg (by omega), if_neg (by omega), if_neg (by omega), if_neg (by omega), if_neg (by omega)]
  · show μ6.1 49 k = _; rw [c, if_neg (by omega), if_neg (by omega), if_neg (by omega), if_neg (by omega), if_neg (by omega), if_neg (by omega)]
  · show μ6.1 50 k = _; rw [c, if_neg (by omega), if_neg (by omega), if_neg (by omega), if_neg (by omega), if_neg (by omega), if_neg (by omega)]
theorem m_operand {μ : Mem} {a1 a2 : Int32} {p x o m : Nat} (h1 : a1.toInt = (p : Int)) (h2 : a2.toInt = (x : Int)) (ho : (μ.1 0 88).toInt = (o : Int)) (hm : (μ.1 52 p).toInt = (m : Int)) (hm8 : m ≤ 10) : pk (p_X12_operand a1 a2 μ) (fun q => q.2 = μ.2 ∧ (q.1 0 88).toInt = ((o + 1 : Nat) : Int) ∧ (∀ k, k ≠ 88 → q.1 0 k = μ.1 0 k) ∧ q.1 53 o = μ.1 30 x ∧ q.1 54 o = μ.1 31 x ∧ (q.1 52 p).toInt = ((m + 1 : Nat) : Int) ∧ (∀ i k, i ≠ 0 → ¬ (i = 53 ∧ k = o) → ¬ (i = 54 ∧ k = o) → ¬ (i = 52 ∧ k = p) → q.1 i k = μ.1 i k)) := by
  have e1 : (1 : Int32).toInt = 1 := by decide
  rw [p_X12_operand_eq, tn_of h1, tn_of h2, tn_of ho]
  refine pk_gd (fun _ => pk_gd (fun g => ?_))
  obtain ⟨_, g1⟩ := inb_iff.mp g
  refine pk_bvy (fun μ1 m1 => pk_gd (fun _ => pk_gd (fun _ => pk_bvy (fun μ2 m2 => pk_bvy (fun μ3 m3 => pk_gd (fun _ => pk_gd (fun _ => pk_bvy (fun μ4 m4 => pk_some ?_))))))))
  have q1 : μ1.1 0 88 = μ.1 0 88 := by rw [m1, sF_i (by decide)]
  rw [q1, tn_of ho, show μ1.1 31 x = μ.1 31 x by rw [m1, sF_i (by decide)]] at m2
  have q2 : μ2.1 0 88 = μ.1 0 88 := by rw [m2, sF_i (by decide), q1]
  rw [q2] at m3
  rw [show μ3.1 52 p = μ.1 52 p by rw [m3, sF_i (by decide), m2, sF_i (by decide), m1, sF_i (by decide)]] at m4
  have c : ∀ i k, μ4.1 i k = if i = 52 ∧ k = p then μ.1 52 p + 1 else if i = 0 ∧ k = 88 then μ.1 0 88 + 1 else if i = 54 ∧ k = o then μ.1 31 x else if i = 53 ∧ k = o then μ.1 30 x else μ.1 i k := by
    intro i k
    rw [m4, sF_at, m3, sF_at, m2, sF_at, m1, sF_at]
  refine ⟨by rw [m4, m3, m2, m1]; rfl, ?_, fun k hk => ?_, ?_, ?_, ?_, fun i k a b d e => ?_⟩
  · rw [c, if_neg (by omega), if_pos ⟨rfl, rfl⟩, ti_add (by omega) (by omega), ho, e1]; omega
  · rw [c, if_neg (by omega), if_neg (by omega), if_neg (by omega), if_neg (by omega)]
  · rw [c, if_neg (by omega), if_neg (by omega), if_neg (by omega), if_pos ⟨rfl, rfl⟩]
  · rw [c, if_neg (by omega), if_neg (by omega), if_pos ⟨rfl, rfl⟩]
  · rw [c, if_pos ⟨rfl, rfl⟩, ti_add (by omega) (by omega), hm, e1]; omega
  · rw [c, if_neg e, if_neg (by omega), if_neg d, if_neg b]
theorem m_count {μ : Mem} {a1 a2 : Int32} {p n : Nat} (h1 : a1.toInt = (p : Int)) (hn : (μ.1 0 89).toInt = (n : Int)) (hn3 : n ≤ 300) : pk (p_X12_countInstruction a1 a2 μ) (fun q => (300 ≤ n ∧ q = sF μ 0 68 (-2)) ∨ (n < 300 ∧ q.2 = μ.2 ∧ (q.1 0 89).toInt = ((n + 1 : Nat) : Int) ∧ ((a2 = 0 ∧ (∀ k, k ≠ 89 → q.1 0 k = μ.1 0 k) ∧ ∀ i k, i ≠ 0 → q.1 i k = μ.1 i k) ∨ (a2 ≠ 0 ∧ q.1 0 93 = μ.1 0 93 + 1 ∧ q.1 47 p = μ.1 0 93 ∧ (∀ k, k ≠ 89 → k ≠ 93 → q.1 0 k = μ.1 0 k) ∧ ∀ i k, i ≠ 0 → ¬ (i = 47 ∧ k = p) → q.1 i k = μ.1 i k)))) := by
  have e1 : (1 : Int32).toInt = 1 := by decide
  have e300 : (300 : Int32).toInt = 300 := by decide
  rw [p_X12_countInstruction_eq]
  refine pk_ite (fun c => ?_) (fun c => ?_)
  · rw [c, e300] at hn
    exact pk_bvy (fun μ6 m6 => pk_some (Or.inl ⟨by omega, m6⟩))
  · have hne : n ≠ 300 := fun e => c (ti_eq.mpr (by rw [hn, e300, e]; rfl))
    refine pk_bvy (fun μ2 m2 => ?_)
    have c89 : (μ2.1 0 89).toInt = ((n + 1 : Nat) : Int) := by rw [m2, sF_v, ti_add (by omega) (by omega), hn, e1]; omega
    refine pk_ite (fun d => ?_) (fun d => ?_)
    · exact pk_some (Or.inr ⟨by omega, by rw [m2]; rfl, c89, Or.inl ⟨d, fun k hk => by rw [m2, sF_k hk], fun i k hi => by rw [m2, sF_i hi]⟩⟩)
    · rw [tn_of h1]
      refine pk_gd (fun _ => pk_bvy (fun μ4 m4 => pk_bvy (fun μ5 m5 => pk_some (Or.inr ⟨by omega, by rw [m5, m4, m2]; rfl, ?_, Or.inr ⟨d, ?_, ?_, fun k a b => ?_, fun i k a b => ?_⟩⟩))))
      · rw [m5, sF_k (by decide), m4, sF_i (by decide)]; exact c89
      · rw [m5, sF_v, m4, sF_i (by decide), m2, sF_k (by decide)]
      · rw [m5, sF_i (by decide), m4, sF_v, m2, sF_k (by decide)]
      · rw [m5, sF_k b, m4, sF_i (by decide), m2, sF_k a]
      · rw [m5, sF_i a, m4, sF_at, if_neg b, m2, sF_i a]
end

section
def Op7 (μx μm : Mem) (j o : Nat) : Prop := ∃ (m : Nat) (b : Int32), (m = 0 ∨ m = 1 ∨ m = 3) ∧ μx.2.1 41 j = s_X0_make (nI m) b ∧ μm.1 53 o = nI m ∧ μm.1 54 o = b
def Is7 (μx μm : Mem) (i p O : Nat) : Prop := μx.1 40 (8 * i) = μm.1 46 p ∧ μx.1 40 (8 * i + 1) = μm.1 47 p ∧ μx.1 40 (8 * i + 2) = μm.1 48 p ∧ ∃ f m : Nat, (μm.1 51 p).toInt = (f : Int) ∧ (μm.1 52 p).toInt = (m : Int) ∧ f + m ≤ O ∧ ((μm.1 46 p ≠ 11 ∧ m ≤ 2 ∧ ∀ k, k < m → Op7 μx μm (10 * i + k) (f + k)) ∨ (μm.1 46 p = 11 ∧ m ≤ 8 ∧ (μx.1 40 (8 * i + 7)).toInt = (m : Int) ∧ ∀ k, k < m → Op7 μx μm (10 * i + 2 + k) (f + k)))
def Ow7 (μx μm : Mem) (i p v : Nat) : Prop := ∃ u : Nat, (μx.1 40 (8 * i + 6)).toInt = (u : Int) ∧ u ≤ v ∧ (μm.1 62 u).toInt ≤ (p : Int) ∧ (u < v → (p : Int) < (μm.1 63 u).toInt)
def Tr7 (μx μm : Mem) (It : List Nat) (v : Nat) : Prop := (μx.1 39 1).toInt = (It.length : Int) ∧ (μm.1 0 89).toInt = (It.length : Int) ∧ It.length ≤ 300 ∧ μx.1 45 (4 * v + 2) = μm.1 0 93 ∧ ∃ P O : Nat, (μm.1 0 87).toInt = (P : Int) ∧ (μm.1 0 88).toInt = (O : Int) ∧ (μm.1 62 v).toInt ≤ (P : Int) ∧ ∀ i p, It[i]? = some p → p < P ∧ Is7 μx μm i p O ∧ Ow7 μx μm i p v
def La7 (kind mark : Int32) (rg : Bool) (X : List Nat) (p o n : Nat) (μ z : Mem) : Prop := (z.1 0 87).toInt = ((p + 1 : Nat) : Int) ∧ (z.1 0 88).toInt = ((o + X.length : Nat) : Int) ∧ (z.1 0 89).toInt = ((n + 1 : Nat) : Int) ∧ z.1 0 93 = (if rg then μ.1 0 93 + 1 else μ.1 0 93) ∧ (z.1 46 p = kind ∧ z.1 47 p = (if rg then μ.1 0 93 else -1) ∧ z.1 48 p = mark ∧ (z.1 51 p).toInt = (o : Int) ∧ (z.1 52 p).toInt = (X.length : Int)) ∧ (∀ k x, X[k]? = some x → z.1 53 (o + k) = μ.1 30 x ∧ z.1 54 (o + k) = μ.1 31 x) ∧ (∀ k, k ≠ 87 → k ≠ 88 → k ≠ 89 → k ≠ 93 → z.1 0 k = μ.1 0 k) ∧ (∀ i k, i ≠ 0 → ¬ ((46 ≤ i ∧ i ≤ 52) ∧ k = p) → ¬ ((i = 53 ∨ i = 54) ∧ o ≤ k) → z.1 i k = μ.1 i k) ∧ z.2 = μ.2 ∧ z.1 49 p = μ.1 49 p ∧ z.1 50 p = μ.1 50 p
theorem m_instr {μ : Mem} {o n : Nat} (kind rg : Int32) (ho : (μ.1 0 88).toInt = (o : Int)) (hn : (μ.1 0 89).toInt = (n : Int)) (hn3 : n ≤ 300) : pk (p_X12_instruction kind rg μ) (fun r => ∃ p : Nat, (μ.1 0 87).toInt = (p : Int) ∧ r.1.toInt = (p : Int) ∧ p < 960 ∧ ((300 ≤ n ∧ ∃ z, Im7 kind p o μ z ∧ r.2 = sF z 0 68 (-2)) ∨ (n < 300 ∧ La7 kind 0 (!decide (rg = 0)) [] p o n μ r.2))) := by
  rw [p_X12_instruction_eq]
  refine pk_bd (m_item kind ho) ?_
  rintro r2 μ1 ⟨p, hp, hp9, hr, hI⟩
  have hr : r2.toInt = (p : Int) := hr
  have hI : Im7 kind p o μ μ1 := hI
  obtain ⟨f1, c87, c0, ⟨k46, k47, k48, k51, k52⟩, cc, c45⟩ := id hI
  have n1 : (μ1.1 0 89).toInt = (n : Int) := by rw [c0 89 (by decide)]; exact hn
  refine pk_bw (m_count hr n1 hn3) (fun μ3 h3 => pk_some ⟨p, hp, hr, hp9, ?_⟩)
  rcases h3 with ⟨hn, e⟩ | ⟨hn, f3, c89, h3⟩
  · exact Or.inl ⟨hn, μ1, hI, e⟩
  · refine Or.inr ⟨hn, ?_⟩
    have r93 : μ1.1 0 93 = μ.1 0 93 := c0 93 (by decide)
    have o1 : (μ1.1 0 88).toInt = (o : Int) := by rw [c0 88 (by decide)]; exact ho
    rcases h3 with ⟨d, g0, g⟩ | ⟨d, g93, g47, g0, g⟩
    · have hd : (!decide (rg = 0)) = false := by rw [decide_eq_true d]; rfl
      rw [hd]
      refine ⟨by show (μ3.1 0 87).toInt = _; rw [g0 87 (by decide)]; exact c87, by show (μ3.1 0 88).toInt = _; rw [g0 88 (by decide)]; exact o1, c89, by show μ3.1 0 93 = _; rw [g0 93 (by decide)]; exact r93, ⟨by show μ3.1 46 p = _; rw [g _ _ (by decide)]; exact k46, by show μ3.1 47 p = _; rw [g _ _ (by decide)]; exact k47, by show μ3.1 48 p = _; rw [g _ _ (by decide)]; exact k48, by show (μ3.1 51 p).toInt = _; rw [g _ _ (by decide)]; exact k51, by show (μ3.1 52 p).toInt = _; rw [g _ _ (by decide), k52]; decide⟩, fun k x hx => (by cases hx), fun k a b c e => by show μ3.1 0 k = _; rw [g0 k c]; exact c0 k a, fun i k a b _ => by show μ3.1 i k = _; rw [g i k a]; exact cc i k a b, f3.trans f1, by show μ3.1 49 p = _; rw [g _ _ (by decide)]; exact (c45 p).1, by show μ3.1 50 p = _; rw [g _ _ (by decide)]; exact (c45 p).2⟩
    · have hd : (!decide (rg = 0)) = true := by rw [decide_eq_false d]; rfl
      rw [hd]
      refine ⟨by show (μ3.1 0 87).toInt = _; rw [g0 87 (by decide) (by decide)]; exact c87, by show (μ3.1 0 88).toInt = _; rw [g0 88 (by decide) (by decide)]; exact o1, c89, by show μ3.1 0 93 = _; rw [g93, r93]; rfl, ⟨by show μ3.1 46 p = _; rw [g _ _ (by decide) (by omega)]; exact k46, by show μ3.1 47 p = _; rw [g47, r93]; rfl, by show μ3.1 48 p = _; rw [g _ _ (by decide) (by omega)]; exact k48, by show (μ3.1 51 p).toInt = _; rw [g _ _ (by decide) (by omega)]; exact k51, by show (μ3.1 52 p).toInt = _; rw [g _ _ (by decide) (by omega), k52]; decide⟩, fun k x hx => (by cases hx), fun k a b c e => by show μ3.1 0 k = _; rw [g0 k c e]; exact c0 k a, fun i k a b _ => by show μ3.1 i k = _; rw [g i k a (by omega)]; exact cc i k a b, f3.trans f1, by show μ3.1 49 p = _; rw [g _ _ (by decide) (by omega)]; exact (c45 p).1, by show μ3.1 50 p = _; rw [g _ _ (by decide) (by omega)]; exact (c45 p).2⟩
theorem La7.mark {kind m0 mark : Int32} {rg : Bool} {X : List Nat} {p o n : Nat} {μ z : Mem} (h : La7 kind m0 rg X p o n μ z) : La7 kind mark rg X p o n μ (sF z 48 p mark) := by
  obtain ⟨h1, h2, h3, h4, ⟨k1, k2, k3, k4, k5⟩, h6, h7, h8, h9, h10, h11⟩ := h
  exact ⟨by rw [sF_i (by decide)]; exact h1, by rw [sF_i (by decide)]; exact h2, by rw [sF_i (by decide)]; exact h3, by rw [sF_i (by decide)]; exact h4, ⟨by rw [sF_i (by decide)]; exact k1, by rw [sF_i (by decide)]; exact k2, by rw [sF_v], by rw [sF_i (by decide)]; exact k4, by rw [sF_i (by decide)]; exact k5⟩, fun k x hx => ⟨by rw [sF_i (by decide)]; exact (h6 k x hx).1, by rw [sF_i (by decide)]; exact (h6 k x hx).2⟩, fun k a b c d => by rw [sF_i (by decide)]; exact h7 k a b c d, fun i k a b c => by rw [sF_at, if_neg (by omega)]; exact h8 i k a b c, h9, by rw [sF_i (by decide)]; exact h10, by rw [sF_i (by decide)]; exact h11⟩
theorem La7.op {kind mark : Int32} {rg : Bool} {X : List Nat} {p o n x : Nat} {a1 a2 : Int32} {μ z : Mem} (h : La7 kind mark rg X p o n μ z) (h1 : a1.toInt = (p : Int)) (h2 : a2.toInt = (x : Int)) (hX : X.length ≤ 10) : pk (p_X12_operand a1 a2 z) (fun q => La7 kind mark rg (X ++ [x]) p o n μ q) := by
  obtain ⟨g1, g2, g3, g4, ⟨k1, k2, k3, k4, k5⟩, g6, g7, g8, g9, g10, g11⟩ := h
  refine pk_mono (m_operand h1 h2 g2 k5 hX) ?_
  rintro q ⟨f, c88, c0, c53, c54, c52, c⟩
  have el : (X ++ [x]).length = X.length + 1 := by rw [List.length_append]; rfl
  have s30 : z.1 30 x = μ.1 30 x := g8 30 x (by decide) (by omega) (by omega)
  have s31 : z.1 31 x = μ.1 31 x := g8 31 x (by decide) (by omega) (by omega)
  refine ⟨by rw [c0 87 (by decide)]; exact g1, by rw [el]; exact c88, by rw [c0 89 (by decide)]; exact g3, by rw [c0 93 (by decide)]; exact g4, ⟨by rw [c _ _ (by decide) (by omega) (by omega) (by omega)]; exact k1, by rw [c _ _ (by decide) (by omega) (by omega) (by omega)]; exact k2, by rw [c _ _ (by decide) (by omega) (by omega) (by omega)]; exact k3, by rw [c _ _ (by decide) (by omega) (by omega) (by omega)]; exact k4, by rw [el]; exact c52⟩, fun k y hy => ?_, fun k a b d e => by rw [c0 k b]; exact g7 k a b d e, fun i k a b d => by rw [c i k a (by omega) (by omega) (by omega)]; exact g8 i k a b d, f.trans g9, by rw [c _ _ (by decide) (by omega) (by omega) (by omega)]; exact g10, by rw [c _ _ (by decide) (by omega) (by omega) (by omega)]; exact g11⟩
  by_cases e : k = X.length
  · subst e
    rw [List.getElem?_append_right (Nat.le_refl _), Nat.sub_self] at hy
    have hy : x = y := Option.some.inj hy
    subst hy
    rw [c53, c54]; exact ⟨s30, s31⟩
  · have hk : k < X.length := by
      rcases Nat.lt_or_ge k X.length with e2 | e2
      · exact e2
      · rw [List.getElem?_eq_none (by rw [el]; omega)] at hy; cases hy
    rw [List.getElem?_append_left hk] at hy
    rw [c _ _ (by decide) (by omega) (by omega) (by omega), c _ _ (by decide) (by omega) (by omega) (by omega)]
    exact g6 k y hy
def Lo7 (μm : Mem) (x : Int64) (y : Nat) : Prop := ∃ m : Nat, (m = 0 ∨ m = 1 ∨ m = 3) ∧ x = s_X0_make (nI m) (μm.1 31 y) ∧ μm.1 30 y = nI m
theorem Op7.cong {μx μm q z : Mem} {j o : Nat} (h : Op7 μx μm j o) (h1 : q.2.1 41 j = μx.2.1 41 j) (h2 : z.1 53 o = μm.1 53 o) (h3 : z.1 54 o = μm.1 54 o) : Op7 q z j o := by
  obtain ⟨m, b, a1, a2, a3, a4⟩ := h
  exact ⟨m, b, a1, by rw [h1]; exact a2, by rw [h2]; exact a3, by rw [h3]; exact a4⟩
theorem tr_lay {μx μm q z : Mem} {It : List Nat} {v b p o : Nat} {kind mark : Int32} {rg : Bool} {x y : Int64} {X : List Nat} (h : Tr7 μx μm It v) (hl : It.length < 300) (hc : Lv7 kind mark x y v b It.length μx q) (hb : ∀ l : Nat, (μx.1 43 b).toInt = (l : Int) → l < It.length) (hm : La7 kind mark rg X p o It.length μm z) (hk : rg = true ↔ kind ≠ 7) (h11 : kind ≠ 11) (hX : X.length ≤ 2) (hx : ∀ u, X[0]? = some u → Lo7 μm x u) (hy : ∀ u, X[1]? = some u → Lo7 μm y u) (hp : (μm.1 0 87).toInt = (p : Int)) (ho : (μm.1 0 88).toInt = (o : Int)) : Tr7 q z (It ++ [p]) v := by
  obtain ⟨w, ⟨_, c1, ck, ⟨j0, j1, j2, _, _, _, j6, j7⟩, c40, c45, _, _, co⟩, qi, _, ql⟩ := hc
  obtain ⟨t1, t2, t3, t4, P, O, tP, tO, tb, tI⟩ := h
  obtain ⟨g1, g2, g3, g4, ⟨k1, k2, k3, k4, k5⟩, g6, g7, g8, _, _, _⟩ := hm
  have e1 : (1 : Int32).toInt = 1 := by decide
  have el : (It ++ [p]).length = It.length + 1 := by rw [List.length_append]; rfl
  have hPp : P = p := by omega
  have hOo : O = o := by omega
  subst hPp; subst hOo
  have q40 : ∀ j, q.1 40 j = w.1 40 j := fun j => by rw [qi]
  refine ⟨by rw [qi, c1, ti_add (by omega) (by omega), t1, e1, el]; omega, by rw [g3, el], by rw [el]; omega, ?_, P + 1, O + X.length, g1, g2, by rw [g8 _ _ (by decide) (by omega) (by omega)]; omega, fun i p2 hi => ?_⟩
  · rw [qi, c45, g4, t4]
    by_cases e : kind = 7
    · rw [if_neg (fun h => h.1 e)]
      have : rg = false := by
        cases rg with
        | false => rfl
        | true => exact absurd e (hk.mp rfl)
      rw [this]; rfl
    · rw [if_pos ⟨e, rfl⟩, hk.mpr e]; rfl
  · by_cases ei : i = It.length
    · subst ei
      rw [List.getElem?_append_right (Nat.le_refl _), Nat.sub_self] at hi
      have hi : P = p2 := Option.some.inj hi
      subst hi
      refine ⟨by omega, ⟨by rw [q40, j0, k1], ?_, by rw [q40, j2, k3], O, X.length, k4, k5, Nat.le_refl _, Or.inl ⟨by rw [k1]; exact h11, hX, fun k hk2 => ?_⟩⟩, v, by rw [q40]; exact j6, Nat.le_refl _, by rw [g8 _ _ (by decide) (by omega) (by omega)]; exact tb, fun e => absurd e (by omega)⟩
      · rw [q40, j1, k2]
        by_cases e : kind = 7
        · have : rg = false := by
            cases rg with
            | false => rfl
            | true => exact absurd e (hk.mp rfl)
          rw [if_pos e, this]; rfl
        · rw [if_neg e, hk.mpr e]; exact t4
      · rcases (show k = 0 ∨ k = 1 by omega) with e | e
        · subst e
          obtain ⟨u, hu⟩ : ∃ u, X[0]? = some u := ⟨X[0], List.getElem?_eq_getElem hk2⟩
          obtain ⟨m, a1, a2, a3⟩ := hx u hu
          obtain ⟨b1, b2⟩ := g6 0 u hu
          refine ⟨m, μm.1 31 u, a1, ?_, by rw [b1]; exact a3, b2⟩
          rw [ql, if_neg (by omega), if_pos ⟨rfl, rfl⟩]; exact a2
        · subst e
          obtain ⟨u, hu⟩ : ∃ u, X[1]? = some u := ⟨X[1], List.getElem?_eq_getElem hk2⟩
          obtain ⟨m, a1, a2, a3⟩ := hy u hu
          obtain ⟨b1, b2⟩ := g6 1 u hu
          refine ⟨m, μm.1 31 u, a1, ?_, by rw [b1]; exact a3, b2⟩
          rw [ql, if_pos ⟨rfl, rfl⟩]; exact a2
    · have hil : i < It.length := by
        rcases Nat.lt_or_ge i It.length with e2 | e2
        · exact e2
        · rw [List.getElem?_eq_none (by rw [el]; omega)] at hi; cases hi
      rw [List.getElem?_append_left hil] at hi
      obtain ⟨a1, ⟨b1, b2, b3, f, m, b4, b5, b6, b7⟩, u, u1, u2, u3, u4⟩ := tI i p2 hi
      have s40 : ∀ k, k ≠ 5 → k < 8 → q.1 40 (8 * i + k) = μx.1 40 (8 * i + k) := by
        intro k hk5 hk8
        rw [q40, c40 _ (by omega)]
        by_cases e : μx.1 43 b ≠ -1 ∧ 8 * i + k = 8 * (μx.1 43 b).toNatClampNeg + 5
        · omega
        · rw [if_neg e]
      have zi : ∀ j, j ≠ 0 → 46 ≤ j → j ≤ 52 → z.1 j p2 = μm.1 j p2 := fun j x0 x1 x2 => g8 j p2 x0 (by omega) (by omega)
      have opc : ∀ j k, (10 * i ≤ j ∧ j < 10 * i + 10) → k < O → Op7 μx μm j k → Op7 q z j k := fun j k hj hk2 hop => hop.cong (by rw [ql, if_neg (by omega), if_neg (by omega)]) (g8 _ _ (by decide) (by omega) (by omega)) (g8 _ _ (by decide) (by omega) (by omega))
      refine ⟨by omega, ⟨by have := s40 0 (by decide) (by decide); rw [Nat.add_zero] at this; rw [this, zi 46 (by decide) (by decide) (by decide)]; exact b1, by rw [s40 1 (by decide) (by decide), zi 47 (by decide) (by decide) (by decide)]; exact b2, by rw [s40 2 (by decide) (by decide), zi 48 (by decide) (by decide) (by decide)]; exact b3, f, m, by rw [zi 51 (by decide) (by decide) (by decide)]; exact b4, by rw [zi 52 (by decide) (by decide) (by decide)]; exact b5, by omega, ?_⟩, u, by rw [s40 6 (by decide) (by decide)]; exact u1, u2, by rw [g8 _ _ (by decide) (by omega) (by omega)]; exact u3, fun hu => by rw [g8 _ _ (by decide) (by omega) (by omega)]; exact u4 hu⟩
      rw [zi 46 (by decide) (by decide) (by decide), s40 7 (by decide) (by decide)]
      rcases b7 with ⟨b7, b8, b9⟩ | ⟨b7, b8, b9, b10⟩
      · exact Or.inl ⟨b7, b8, fun k hk2 => opc _ _ (by omega) (by omega) (b9 k hk2)⟩
      · exact Or.inr ⟨b7, b8, b9, fun k hk2 => opc _ _ (by omega) (by omega) (b10 k hk2)⟩
end

section
def Ch7 (c40 f42 l43 : Nat → Int32) (b : Nat) (L : List Nat) : Prop := (L = [] → f42 b = -1 ∧ l43 b = -1) ∧ ∀ (k i : Nat), L[k]? = some i → (k = 0 → (f42 b).toInt = (i : Int)) ∧ (k + 1 = L.length → (l43 b).toInt = (i : Int) ∧ c40 (8 * i + 5) = -1) ∧ ∀ (j : Nat), L[k + 1]? = some j → (c40 (8 * i + 5)).toInt = (j : Int)
theorem Ch7.cong {c40 f42 l43 d40 g42 m43 : Nat → Int32} {b : Nat} {L : List Nat} (h : Ch7 c40 f42 l43 b L) (h1 : g42 b = f42 b) (h2 : m43 b = l43 b) (h3 : ∀ i, i ∈ L → d40 (8 * i + 5) = c40 (8 * i + 5)) : Ch7 d40 g42 m43 b L := by
  refine ⟨fun e => by rw [h1, h2]; exact h.1 e, fun k i hi => ?_⟩
  have hm : i ∈ L := List.mem_of_getElem? hi
  obtain ⟨a1, a2, a3⟩ := h.2 k i hi
  exact ⟨fun e => by rw [h1]; exact a1 e, fun e => by rw [h2, h3 i hm]; exact a2 e, fun j hj => by rw [h3 i hm]; exact a3 j hj⟩
theorem Ch7.last {c40 f42 l43 : Nat → Int32} {b : Nat} {L : List Nat} (h : Ch7 c40 f42 l43 b L) : (L = [] ∧ l43 b = -1) ∨ ∃ i, i ∈ L ∧ (l43 b).toInt = (i : Int) := by
  by_cases e : L = []
  · exact Or.inl ⟨e, (h.1 e).2⟩
  · have hl : L.length - 1 < L.length := by
      cases L with
      | nil => exact absurd rfl e
      | cons x L => simp
    have hi : L[L.length - 1]? = some L[L.length - 1] := List.getElem?_eq_getElem hl
    exact Or.inr ⟨_, List.mem_of_getElem? hi, ((h.2 _ _ hi).2.1 (by omega)).1⟩
theorem ch_add {kind mark : Int32} {v b n : Nat} {μ q : Mem} {L : List Nat} (hA : Ad7 kind mark v b n μ q) (h : Ch7 (μ.1 40) (μ.1 42) (μ.1 43) b L) (hL : ∀ i, i ∈ L → i < n) (hn : n < 2147483648) : Ch7 (q.1 40) (q.1 42) (q.1 43) b (L ++ [n]) := by
  obtain ⟨_, _, _, ⟨_, _, _, _, _, j5, _, _⟩, c40, _, c42, c43, _⟩ := hA
  have e1 : (-1 : Int32).toInt = -1 := by decide
  refine ⟨fun e => by simp at e, fun k i hi => ?_⟩
  have el : (L ++ [n]).length = L.length + 1 := by rw [List.length_append]; rfl
  by_cases ek : k = L.length
  · subst ek
    rw [List.getElem?_append_right (Nat.le_refl _), Nat.sub_self] at hi
    have hi : n = i := Option.some.inj hi
    subst hi
    refine ⟨fun e => ?_, fun _ => ⟨by rw [c43, if_pos rfl]; exact ni_ti hn, j5⟩, fun j hj => ?_⟩
    · have : L = [] := by cases L with
        | nil => rfl
        | cons x L => simp at e
      rw [c42, if_pos ⟨(h.1 this).2, rfl⟩]; exact ni_ti hn
    · rw [List.getElem?_eq_none (by rw [el]; omega)] at hj; cases hj
  · have hk : k < L.length := by
      rcases Nat.lt_or_ge k L.length with e2 | e2
      · exact e2
      · rw [List.getElem?_eq_none (by rw [el]; omega)] at hi; cases hi
    rw [List.getElem?_append_left hk] at hi
    have hm : i ∈ L := List.mem_of_getElem? hi
    have hin := hL i hm
    obtain ⟨a1, a2, a3⟩ := h.2 k i hi
    have hne : μ.1 43 b ≠ -1 := by
      rcases h.last with ⟨e, _⟩ | ⟨i2, m2, e⟩
      · rw [e] at hk; cases hk
      · intro e2; rw [e2, e1] at e; omega
    obtain ⟨i2, m2, e2⟩ : ∃ i, i ∈ L ∧ (μ.1 43 b).toInt = (i : Int) := by
      rcases h.last with ⟨e, _⟩ | h2
      · rw [e] at hk; cases hk
      · exact h2
    have s5 : q.1 40 (8 * i + 5) = if i = i2 then nI n else μ.1 40 (8 * i + 5) := by
      rw [c40 _ (by omega), tn_of e2]
      by_cases e : i = i2
      · rw [if_pos ⟨hne, by omega⟩, if_pos e]
      · rw [if_neg (fun x => e (by omega)), if_neg e]
    refine ⟨fun e => by rw [c42, if_neg (fun x => hne x.1)]; exact a1 e, fun e => by rw [el] at e; omega, fun j hj => ?_⟩
    by_cases ek2 : k + 1 = L.length
    · rw [ek2, List.getElem?_append_right (Nat.le_refl _), Nat.sub_self] at hj
      have hj : n = j := Option.some.inj hj
      subst hj
      have : i = i2 := by
        have := (a2 ek2).1
        omega
      rw [s5, if_pos this]; exact ni_ti hn
    · rw [List.getElem?_append_left (by omega)] at hj
      have old := a3 j hj
      rw [s5]
      by_cases e : i = i2
      · -- the last one has none behind
        exfalso
        have hl : L.length - 1 < L.length := by omega
        have hi2 : L[L.length - 1]? = some L[L.length - 1] := List.getElem?_eq_getElem hl
        have hz := (h.2 _ _ hi2).2.1 (by omega)
        have : L[L.length - 1] = i := by omega
        rw [this] at hz
        rw [hz.2, e1] at old
        omega
      · rw [if_neg e]; exact old
theorem ch_other {kind mark : Int32} {v b b2 n : Nat} {μ q : Mem} {L L2 : List Nat} (hA : Ad7 kind mark v b n μ q) (h : Ch7 (μ.1 40) (μ.1 42) (μ.1 43) b L) (h2 : Ch7 (μ.1 40) (μ.1 42) (μ.1 43) b2 L2) (hb : b2 ≠ b) (hd : ∀ i, i ∈ L2 → i ∉ L) (hL : ∀ i, i ∈ L2 → i < n) : Ch7 (q.1 40) (q.1 42) (q.1 43) b2 L2 := by
  obtain ⟨_, _, _, _, c40, _, c42, c43, _⟩ := hA
  refine h2.cong (by rw [c42, if_neg (fun e => hb e.2)]) (by rw [c43, if_neg hb]) (fun i hi => ?_)
  have := hL i hi
  rw [c40 _ (by omega)]
  by_cases e : μ.1 43 b ≠ -1 ∧ 8 * i + 5 = 8 * (μ.1 43 b).toNatClampNeg + 5
  · rcases h.last with ⟨_, e2⟩ | ⟨i2, m2, e2⟩
    · exact absurd e2 e.1
    · rw [tn_of e2] at e
      exact absurd (show i ∈ L by rw [show i = i2 by omega]; exact m2) (hd i hi)
  · rw [if_neg e]
def Bl7 (Bk : List Nat) (b : Nat) : List Nat := (List.range Bk.length).filter (fun i => decide (Bk[i]? = some b))
theorem bl_lt {Bk : List Nat} {b i : Nat} (h : i ∈ Bl7 Bk b) : i < Bk.length ∧ Bk[i]? = some b := by
  unfold Bl7 at h
  rw [List.mem_filter, List.mem_range] at h
  exact ⟨h.1, of_decide_eq_true h.2⟩
theorem bl_add (Bk : List Nat) (b b2 : Nat) : Bl7 (Bk ++ [b]) b2 = if b2 = b then Bl7 Bk b2 ++ [Bk.length] else Bl7 Bk b2 := by
  unfold Bl7
  have el : (Bk ++ [b]).length = Bk.length + 1 := by rw [List.length_append]; rfl
  rw [el, List.range_succ, List.filter_append]
  have e1 : (List.range Bk.length).filter (fun i => decide ((Bk ++ [b])[i]? = some b2)) = (List.range Bk.length).filter (fun i => decide (Bk[i]? = some b2)) := by
    refine List.filter_congr (fun i hi => ?_)
    rw [List.mem_range] at hi
    rw [List.getElem?_append_left hi]
  have e2 : (Bk ++ [b])[Bk.length]? = some b := by rw [List.getElem?_append_right (Nat.le_refl _), Nat.sub_self]; rfl
  rw [e1, List.filter_cons, e2]
  by_cases e : b2 = b
  · rw [if_pos e, if_pos (by simp [e])]; rfl
  · rw [if_neg e, if_neg (by simp; exact fun h => e h.symm), List.filter_nil, List.append_nil]
def Cn7 (μ : Mem) (Bk : List Nat) : Prop := ∀ b : Nat, (b : Int) < (μ.1 39 6).toInt → Ch7 (μ.1 40) (μ.1 42) (μ.1 43) b (Bl7 Bk b)
theorem cn_add {kind mark : Int32} {v b : Nat} {μ q : Mem} {Bk : List Nat} (hA : Ad7 kind mark v b Bk.length μ q) (h : Cn7 μ Bk) (hb : (b : Int) < (μ.1 39 6).toInt) (hn : Bk.length < 2147483648) : Cn7 q (Bk ++ [b]) := by
  intro b2 h2
  rw [hA.2.2.1 6 (by decide)] at h2
  rw [bl_add]
  by_cases e : b2 = b
  · subst e
    rw [if_pos rfl]
    exact ch_add hA (h b2 hb) (fun i hi => (bl_lt hi).1) hn
  · rw [if_neg e]
    refine ch_other hA (h b hb) (h b2 h2) e (fun i hi hj => ?_) (fun i hi => (bl_lt hi).1)
    have a1 := (bl_lt hi).2
    have a2 := (bl_lt hj).2
    rw [a1] at a2
    exact e (Option.some.inj a2)
theorem cn_last {μ : Mem} {Bk : List Nat} {b : Nat} (h : Cn7 μ Bk) (hb : (b : Int) < (μ.1 39 6).toInt) : μ.1 43 b ≠ -1 → ∃ l : Nat, (μ.1 43 b).toInt = (l : Int) ∧ l < Bk.length := by
  intro hne
  rcases (h b hb).last with ⟨_, e⟩ | ⟨i, hi, e⟩
  · exact absurd e hne
  · exact ⟨i, e, (bl_lt hi).1⟩
def En7 (e44 : Nat → Int64) (fr o53 o54 : Nat → Int32) (O b e : Nat) : Prop := ∃ (m : Nat) (x : Int32) (f : Nat), (m = 0 ∨ m = 1 ∨ m = 3) ∧ e44 b = s_X0_make (nI m) x ∧ (fr e).toInt = (f : Int) ∧ f < O ∧ o53 f = nI m ∧ o54 f = x
def Sg7 (it : Nat → Option Nat) (kd : Nat → Int32) (c40 : Nat → Int32) (bl : Nat → List Nat) (cl : Nat → Prop) (e44 : Nat → Int64) (el : Nat → Int32) (en : Nat → Int32) (fr : Nat → Int32) (o53 : Nat → Int32) (o54 : Nat → Int32) (O : Nat) (x0 : List Nat) (x1 : Nat) (x2 : Nat) : Prop := ∀ P : (List Nat) → (Nat) → (Nat) → Prop, (∀ (a : Nat), P ([]) (a) (a)) → (∀ (L : List Nat) (i : Nat) (a : Nat) (b : Nat), (P (L) (a) (b)) → (it i = some b) → (kd b ≠ 6) → P (L ++ [i]) (a) (b + 1)) → (∀ (L : List Nat) (i : Nat) (a : Nat) (b : Nat) (b1 : Nat) (b2 : Nat) (e1 : Nat) (e2 : Nat), (P (L) (a) (b)) → (it i = some b ∧ kd b = 6 ∧ (c40 (8 * i + 3)).toInt = (b1 : Int) ∧ (c40 (8 * i + 4)).toInt = (b2 : Int)) → (cl b1 ∧ cl b2) → (P (bl b1) (b + 1) (e1)) → (kd e1 = 13 ∧ (el b).toInt = (e1 : Int) ∧ En7 e44 fr o53 o54 O b1 e1) → (P (bl b2) (e1 + 1) (e2)) → (kd e2 = 14 ∧ (en b).toInt = (e2 : Int) ∧ En7 e44 fr o53 o54 O b2 e2) → P (L ++ [i]) (a) (e2 + 1)) →  P x0 x1 x2
theorem Sg7.nil {it : Nat → Option Nat} {kd : Nat → Int32} {c40 : Nat → Int32} {bl : Nat → List Nat} {cl : Nat → Prop} {e44 : Nat → Int64} {el : Nat → Int32} {en : Nat → Int32} {fr : Nat → Int32} {o53 : Nat → Int32} {o54 : Nat → Int32} {O : Nat} {a : Nat}  : Sg7 it kd c40 bl cl e44 el en fr o53 o54 O ([]) (a) (a) := fun P h_nil h_one h_iff => h_nil a 
theorem Sg7.one {it : Nat → Option Nat} {kd : Nat → Int32} {c40 : Nat → Int32} {bl : Nat → List Nat} {cl : Nat → Prop} {e44 : Nat → Int64} {el : Nat → Int32} {en : Nat → Int32} {fr : Nat → Int32} {o53 : Nat → Int32} {o54 : Nat → Int32} {O : Nat} {L : List Nat} {i : Nat} {a : Nat} {b : Nat} (h : Sg7 it kd c40 bl cl e44 el en fr o53 o54 O (L) (a) (b)) (h1 : it i = some b) (h2 : kd b ≠ 6) : Sg7 it kd c40 bl cl e44 el en fr o53 o54 O (L ++ [i]) (a) (b + 1) := fun P h_nil h_one h_iff => h_one L i a b (h P h_nil h_one h_iff) h1 h2
theorem Sg7.iff {it : Nat → Option Nat} {kd : Nat → Int32} {c40 : Nat → Int32} {bl : Nat → List Nat} {cl : Nat → Prop} {e44 : Nat → Int64} {el : Nat → Int32} {en : Nat → Int32} {fr : Nat → Int32} {o53 : Nat → Int32} {o54 : Nat → Int32} {O : Nat} {L : List Nat} {i : Nat} {a : Nat} {b : Nat} {b1 : Nat} {b2 : Nat} {e1 : Nat} {e2 : Nat} (h : Sg7 it kd c40 bl cl e44 el en fr o53 o54 O (L) (a) (b)) (h1 : it i = some b ∧ kd b = 6 ∧ (c40 (8 * i + 3)).toInt = (b1 : Int) ∧ (c40 (8 * i + 4)).toInt = (b2 : Int)) (h2 : cl b1 ∧ cl b2) (k1 : Sg7 it kd c40 bl cl e44 el en fr o53 o54 O (bl b1) (b + 1) (e1)) (h3 : kd e1 = 13 ∧ (el b).toInt = (e1 : Int) ∧ En7 e44 fr o53 o54 O b1 e1) (k2 : Sg7 it kd c40 bl cl e44 el en fr o53 o54 O (bl b2) (e1 + 1) (e2)) (h4 : kd e2 = 14 ∧ (en b).toInt = (e2 : Int) ∧ En7 e44 fr o53 o54 O b2 e2) : Sg7 it kd c40 bl cl e44 el en fr o53 o54 O (L ++ [i]) (a) (e2 + 1) := fun P h_nil h_one h_iff => h_iff L i a b b1 b2 e1 e2 (h P h_nil h_one h_iff) h1 h2 (k1 P h_nil h_one h_iff) h3 (k2 P h_nil h_one h_iff) h4
theorem Sg7.ind {it : Nat → Option Nat} {kd : Nat → Int32} {c40 : Nat → Int32} {bl : Nat → List Nat} {cl : Nat → Prop} {e44 : Nat → Int64} {el : Nat → Int32} {en : Nat → Int32} {fr : Nat → Int32} {o53 : Nat → Int32} {o54 : Nat → Int32} {O : Nat} {M : (List Nat) → (Nat) → (Nat) → Prop} (c_nil : ∀ (a : Nat), M ([]) (a) (a)) (c_one : ∀ (L : List Nat) (i : Nat) (a : Nat) (b : Nat), (Sg7 it kd c40 bl cl e44 el en fr o53 o54 O (L) (a) (b)) → (M (L) (a) (b)) → (it i = some b) → (kd b ≠ 6) → M (L ++ [i]) (a) (b + 1)) (c_iff : ∀ (L : List Nat) (i : Nat) (a : Nat) (b : Nat) (b1 : Nat) (b2 : Nat) (e1 : Nat) (e2 : Nat), (Sg7 it kd c40 bl cl e44 el en fr o53 o54 O (L) (a) (b)) → (M (L) (a) (b)) → (it i = some b ∧ kd b = 6 ∧ (c40 (8 * i + 3)).toInt = (b1 : Int) ∧ (c40 (8 * i + 4)).toInt = (b2 : Int)) → (cl b1 ∧ cl b2) → (Sg7 it kd c40 bl cl e44 el en fr o53 o54 O (bl b1) (b + 1) (e1)) → (M (bl b1) (b + 1) (e1)) → (kd e1 = 13 ∧ (el b).toInt = (e1 : Int) ∧ En7 e44 fr o53 o54 O b1 e1) → (Sg7 it kd c40 bl cl e44 el en fr o53 o54 O (bl b2) (e1 + 1) (e2)) → (M (bl b2) (e1 + 1) (e2)) → (kd e2 = 14 ∧ (en b).toInt = (e2 : Int) ∧ En7 e44 fr o53 o54 O b2 e2) → M (L ++ [i]) (a) (e2 + 1)) {x0 : List Nat} {x1 : Nat} {x2 : Nat} (h : Sg7 it kd c40 bl cl e44 el en fr o53 o54 O (x0) (x1) (x2)) : M (x0) (x1) (x2) := (h (fun x0 x1 x2 => Sg7 it kd c40 bl cl e44 el en fr o53 o54 O (x0) (x1) (x2) ∧ M (x0) (x1) (x2)) (fun a => ⟨Sg7.nil , c_nil a ⟩) (fun L i a b h h1 h2 => ⟨Sg7.one h.1 h1 h2, c_one L i a b h.1 h.2 h1 h2⟩) (fun L i a b b1 b2 e1 e2 h h1 h2 k1 h3 k2 h4 => ⟨Sg7.iff h.1 h1 h2 k1.1 h3 k2.1 h4, c_iff L i a b b1 b2 e1 e2 h.1 h.2 h1 h2 k1.1 k1.2 h3 k2.1 k2.2 h4⟩)).2
theorem Sg7.inv {it : Nat → Option Nat} {kd : Nat → Int32} {c40 : Nat → Int32} {bl : Nat → List Nat} {cl : Nat → Prop} {e44 : Nat → Int64} {el : Nat → Int32} {en : Nat → Int32} {fr : Nat → Int32} {o53 : Nat → Int32} {o54 : Nat → Int32} {O : Nat} {x0 : List Nat} {x1 : Nat} {x2 : Nat} (h : Sg7 it kd c40 bl cl e44 el en fr o53 o54 O (x0) (x1) (x2)) : (∃ (a : Nat), x0 = ([]) ∧ x1 = (a) ∧ x2 = (a)) ∨ (∃ (L : List Nat) (i : Nat) (a : Nat) (b : Nat), x0 = (L ++ [i]) ∧ x1 = (a) ∧ x2 = (b + 1) ∧ (Sg7 it kd c40 bl cl e44 el en fr o53 o54 O (L) (a) (b)) ∧ (it i = some b) ∧ (kd b ≠ 6)) ∨ (∃ (L : List Nat) (i : Nat) (a : Nat) (b : Nat) (b1 : Nat) (b2 : Nat) (e1 : Nat) (e2 : Nat), x0 = (L ++ [i]) ∧ x1 = (a) ∧ x2 = (e2 + 1) ∧ (Sg7 it kd c40 bl cl e44 el en fr o53 o54 O (L) (a) (b)) ∧ (it i = some b ∧ kd b = 6 ∧ (c40 (8 * i + 3)).toInt = (b1 : Int) ∧ (c40 (8 * i + 4)).toInt = (b2 : Int)) ∧ (cl b1 ∧ cl b2) ∧ (Sg7 it kd c40 bl cl e44 el en fr o53 o54 O (bl b1) (b + 1) (e1)) ∧ (kd e1 = 13 ∧ (el b).toInt = (e1 : Int) ∧ En7 e44 fr o53 o54 O b1 e1) ∧ (Sg7 it kd c40 bl cl e44 el en fr o53 o54 O (bl b2) (e1 + 1) (e2)) ∧ (kd e2 = 14 ∧ (en b).toInt = (e2 : Int) ∧ En7 e44 fr o53 o54 O b2 e2)) := Sg7.ind (M := fun x0 x1 x2 => (∃ (a : Nat), x0 = ([]) ∧ x1 = (a) ∧ x2 = (a)) ∨ (∃ (L : List Nat) (i : Nat) (a : Nat) (b : Nat), x0 = (L ++ [i]) ∧ x1 = (a) ∧ x2 = (b + 1) ∧ (Sg7 it kd c40 bl cl e44 el en fr o53 o54 O (L) (a) (b)) ∧ (it i = some b) ∧ (kd b ≠ 6)) ∨ (∃ (L : List Nat) (i : Nat) (a : Nat) (b : Nat) (b1 : Nat) (b2 : Nat) (e1 : Nat) (e2 : Nat), x0 = (L ++ [i]) ∧ x1 = (a) ∧ x2 = (e2 + 1) ∧ (Sg7 it kd c40 bl cl e44 el en fr o53 o54 O (L) (a) (b)) ∧ (it i = some b ∧ kd b = 6 ∧ (c40 (8 * i + 3)).toInt = (b1 : Int) ∧ (c40 (8 * i + 4)).toInt = (b2 : Int)) ∧ (cl b1 ∧ cl b2) ∧ (Sg7 it kd c40 bl cl e44 el en fr o53 o54 O (bl b1) (b + 1) (e1)) ∧ (kd e1 = 13 ∧ (el b).toInt = (e1 : Int) ∧ En7 e44 fr o53 o54 O b1 e1) ∧ (Sg7 it kd c40 bl cl e44 el en fr o53 o54 O (bl b2) (e1 + 1) (e2)) ∧ (kd e2 = 14 ∧ (en b).toInt = (e2 : Int) ∧ En7 e44 fr o53 o54 O b2 e2))) (fun a => Or.inl ⟨a, rfl, rfl, rfl⟩) (fun L i a b h _ h1 h2 => Or.inr (Or.inl ⟨L, i, a, b, rfl, rfl, rfl, h, h1, h2⟩)) (fun L i a b b1 b2 e1 e2 h _ h1 h2 k1 _ h3 k2 _ h4 => Or.inr (Or.inr (⟨L, i, a, b, b1, b2, e1, e2, rfl, rfl, rfl, h, h1, h2, k1, h3, k2, h4⟩))) h
theorem Sg7.le {it : Nat → Option Nat} {kd c40 : Nat → Int32} {bl : Nat → List Nat} {cl : Nat → Prop} {e44 : Nat → Int64} {el en fr o53 o54 : Nat → Int32} {O a b : Nat} {L : List Nat} (h : Sg7 it kd c40 bl cl e44 el en fr o53 o54 O L a b) : a ≤ b := by
  refine Sg7.ind (M := fun _ a b => a ≤ b) ?_ ?_ ?_ h <;> intros <;> omega
theorem Sg7.cong {it it2 : Nat → Option Nat} {kd c40 kd2 d40 : Nat → Int32} {bl bl2 : Nat → List Nat} {cl cl2 : Nat → Prop} {e44 f44 : Nat → Int64} {el en fr o53 o54 el2 en2 fr2 q53 q54 : Nat → Int32} {O O2 a b : Nat} {L : List Nat} (h : Sg7 it kd c40 bl cl e44 el en fr o53 o54 O L a b) (h1 : ∀ i p, it i = some p → it2 i = some p) (h3 : ∀ i p, it i = some p → d40 (8 * i + 3) = c40 (8 * i + 3) ∧ d40 (8 * i + 4) = c40 (8 * i + 4)) (h4 : ∀ x, cl x → bl2 x = bl x ∧ f44 x = e44 x ∧ cl2 x) (h5 : ∀ f, f < O → q53 f = o53 f ∧ q54 f = o54 f) (hO : O ≤ O2) : (∀ p, p < b → kd2 p = kd p ∧ el2 p = el p ∧ en2 p = en p ∧ fr2 p = fr p) → Sg7 it2 kd2 d40 bl2 cl2 f44 el2 en2 fr2 q53 q54 O2 L a b := by
  have hen : ∀ x e, cl x → fr2 e = fr e → En7 e44 fr o53 o54 O x e → En7 f44 fr2 q53 q54 O2 x e := by
    rintro x e hx he ⟨m, y, f, a1, a2, a3, a4, a5, a6⟩
    exact ⟨m, y, f, a1, by rw [(h4 x hx).2.1]; exact a2, by rw [he]; exact a3, by omega, by rw [(h5 f a4).1]; exact a5, by rw [(h5 f a4).2]; exact a6⟩
  refine Sg7.ind (M := fun L a b => (∀ p, p < b → kd2 p = kd p ∧ el2 p = el p ∧ en2 p = en p ∧ fr2 p = fr p) → Sg7 it2 kd2 d40 bl2 cl2 f44 el2 en2 fr2 q53 q54 O2 L a b) ?_ ?_ ?_ h
  · intro a _; exact Sg7.nil
  · intro L i a b _ ih g1 g2 hp
    exact Sg7.one (ih (fun p hp2 => hp p (by omega))) (h1 i b g1) (by rw [(hp b (by omega)).1]; exact g2)
  · intro L i a b b1 b2 e1 e2 _ ih g1 g2 k1 i1 g3 k2 i2 g4 hp
    have l1 := k1.le
    have l2 := k2.le
    obtain ⟨c3, c4⟩ := h3 i b g1.1
    obtain ⟨x1, x2, x3⟩ := h4 b1 g2.1
    obtain ⟨y1, y2, y3⟩ := h4 b2 g2.2
    obtain ⟨p1, p2, p3, _⟩ := hp b (by omega)
    obtain ⟨q1, _, _, q4⟩ := hp e1 (by omega)
    obtain ⟨r1, _, _, r4⟩ := hp e2 (by omega)
    refine Sg7.iff (b1 := b1) (b2 := b2) (ih (fun p hp2 => hp p (by omega))) ⟨h1 i b g1.1, by rw [p1]; exact g1.2.1, by rw [c3]; exact g1.2.2.1, by rw [c4]; exact g1.2.2.2⟩ ⟨x3, y3⟩ ?_ ⟨by rw [q1]; exact g3.1, by rw [p2]; exact g3.2.1, hen b1 e1 g2.1 q4 g3.2.2⟩ ?_ ⟨by rw [r1]; exact g4.1, by rw [p3]; exact g4.2.1, hen b2 e2 g2.2 r4 g4.2.2⟩
    · rw [x1]; exact i1 (fun p hp2 => hp p (by omega))
    · rw [y1]; exact i2 (fun p hp2 => hp p (by omega))
end

section
def pk2 {α β : Type} (f : Option α) (g : Option β) (P : α → β → Prop) : Prop := ∀ q z, f = some q → g = some z → P q z
theorem pk2_pk {α β : Type} {f : Option α} {g : Option β} {P : α → β → Prop} (h : pk2 f g P) : pk f (fun q => pk g (fun z => P q z)) := fun q e z e2 => h q z e e2
theorem pk2_bdl {α β γ : Type} {f : Option (γ × Mem)} {k : γ → Mem → Option α} {g : Option β} {P : α → β → Prop} {A : γ × Mem → Prop} (h : pk f A) (hk : ∀ r μ, A (r, μ) → pk2 (k r μ) g P) : pk2 (bd f k) g P := by
  intro q z e e2
  cases hf : f with
  | none => rw [hf] at e; cases e
  | some r =>
    obtain ⟨r, μ⟩ := r
    rw [hf] at e
    exact hk r μ (h _ hf) q z e e2
theorem pk2_bwl {α β : Type} {f : Option Mem} {k : Mem → Option α} {g : Option β} {P : α → β → Prop} {A : Mem → Prop} (h : pk f A) (hk : ∀ μ, A μ → pk2 (k μ) g P) : pk2 (bw f k) g P := by
  intro q z e e2
  cases hf : f with
  | none => rw [hf] at e; cases e
  | some μ =>
    rw [hf] at e
    exact hk μ (h _ hf) q z e e2
theorem pk2_sw {α β : Type} {f : Option α} {g : Option β} {P : α → β → Prop} (h : pk2 g f (fun z q => P q z)) : pk2 f g P := fun q z e e2 => h z q e2 e
theorem pk2_bdr {α β γ : Type} {f : Option (γ × Mem)} {k : γ → Mem → Option α} {g : Option β} {P : β → α → Prop} {A : γ × Mem → Prop} (h : pk f A) (hk : ∀ r μ, A (r, μ) → pk2 g (k r μ) P) : pk2 g (bd f k) P := pk2_sw (pk2_bdl h (fun r μ hr => pk2_sw (hk r μ hr)))
theorem pk2_bwr {α β : Type} {f : Option Mem} {k : Mem → Option α} {g : Option β} {P : β → α → Prop} {A : Mem → Prop} (h : pk f A) (hk : ∀ μ, A μ → pk2 g (k μ) P) : pk2 g (bw f k) P := pk2_sw (pk2_bwl h (fun μ hr => pk2_sw (hk μ hr)))
def Re7 (μx μm : Mem) (It Bk : List Nat) (cl : Nat → Prop) (v b a : Nat) : Prop := Tr7 μx μm It v ∧ Bk.length = It.length ∧ Cn7 μx Bk ∧ (μx.1 137 6 = 0 ∧ (μx.1 137 7).toInt = (v : Int) ∧ (μx.1 137 8).toInt = (b : Int) ∧ (v : Int) < (μx.1 39 2).toInt ∧ v < 24 ∧ (b : Int) < (μx.1 39 6).toInt) ∧ ¬ cl b ∧ (μm.1 0 68 = 0 ∧ μm.1 0 69 = 1) ∧ Sg7 (fun i => It[i]?) (μm.1 46) (μx.1 40) (Bl7 Bk) cl (μx.2.1 44) (μm.1 49) (μm.1 50) (μm.1 51) (μm.1 53) (μm.1 54) (μm.1 0 88).toNatClampNeg (Bl7 Bk b) a (μm.1 0 87).toNatClampNeg
theorem re_lay {μx μm q z : Mem} {It Bk : List Nat} {cl : Nat → Prop} {v b a p o : Nat} {kind mark : Int32} {rg : Bool} {x y : Int64} {X : List Nat} (h : Re7 μx μm It Bk cl v b a) (hl : It.length < 300) (hc : Lv7 kind mark x y v b It.length μx q) (hm : La7 kind mark rg X p o It.length μm z) (hk : rg = true ↔ kind ≠ 7) (h11 : kind ≠ 11) (h6 : kind ≠ 6) (hX : X.length ≤ 2) (hx : ∀ u, X[0]? = some u → Lo7 μm x u) (hy : ∀ u, X[1]? = some u → Lo7 μm y u) (hp : (μm.1 0 87).toInt = (p : Int)) (ho : (μm.1 0 88).toInt = (o : Int)) : Re7 q z (It ++ [p]) (Bk ++ [b]) cl v b a := by
  obtain ⟨hT, hB, hC, ⟨s1, s2, s3, s4, s5, s6⟩, hb, ⟨m68, m69⟩, hS⟩ := h
  have hlast : ∀ l : Nat, (μx.1 43 b).toInt = (l : Int) → l < It.length := by
    intro l hl2
    have hne : μx.1 43 b ≠ -1 := by
      intro e; rw [e] at hl2
      have : (-1 : Int32).toInt = -1 := by decide
      omega
    obtain ⟨l2, e, hl3⟩ := cn_last hC s6 hne
    omega
  have hT2 := tr_lay hT hl hc hlast hm hk h11 hX hx hy hp ho
  obtain ⟨w, hA, qi, qr, ql⟩ := hc
  have hA' := hA
  obtain ⟨_, c1, ck, _, c40, c45, c42, c43, co⟩ := hA'
  obtain ⟨g1, g2, g3, g4, ⟨k1, k2, k3, k4, k5⟩, g6, g7, g8, _, g10, g11⟩ := hm
  have oth : ∀ i k, i ≠ 39 → i ≠ 40 → i ≠ 42 → i ≠ 43 → i ≠ 45 → q.1 i k = μx.1 i k := fun i k a1 a2 a3 a4 a5 => by rw [qi]; exact co i k a1 a2 a3 a4 a5
  have r39 : ∀ k, k ≠ 1 → q.1 39 k = μx.1 39 k := fun k hk2 => by rw [qi]; exact ck k hk2
  have hC2 : Cn7 q (Bk ++ [b]) := by
    have := cn_add (Bk := Bk) (by rw [hB]; exact hA) hC s6 (by omega)
    intro b2 h2
    rw [qi] at h2 ⊢
    exact this b2 h2
  have tp := tn_of hp
  have t1 := tn_of g1
  have to := tn_of ho
  have t2 := tn_of g2
  refine ⟨hT2, by rw [List.length_append, List.length_append, hB]; rfl, hC2, ⟨by rw [oth _ _ (by decide) (by decide) (by decide) (by decide) (by decide)]; exact s1, by rw [oth _ _ (by decide) (by decide) (by decide) (by decide) (by decide)]; exact s2, by rw [oth _ _ (by decide) (by decide) (by decide) (by decide) (by decide)]; exact s3, by rw [r39 _ (by decide)]; exact s4, s5, by rw [r39 _ (by decide)]; exact s6⟩, hb, ⟨by rw [g7 _ (by decide) (by decide) (by decide) (by decide)]; exact m68, by rw [g7 _ (by decide) (by decide) (by decide) (by decide)]; exact m69⟩, ?_⟩
  rw [t1, t2, bl_add, if_pos rfl]
  rw [tp, to] at hS
  obtain ⟨_, _, _, _, P, O, tP, tO, _, tI⟩ := hT
  have hS2 := hS.cong (it2 := fun i => (It ++ [p])[i]?) (kd2 := z.1 46) (d40 := q.1 40) (bl2 := Bl7 (Bk ++ [b])) (cl2 := cl) (f44 := q.2.1 44) (el2 := z.1 49) (en2 := z.1 50) (fr2 := z.1 51) (q53 := z.1 53) (q54 := z.1 54) (O2 := o + X.length) ?_ ?_ ?_ ?_ (by omega) ?_
  · rw [hB]
    exact Sg7.one (i := It.length) hS2 (by show (It ++ [p])[It.length]? = some p; rw [List.getElem?_append_right (Nat.le_refl _), Nat.sub_self]; rfl) (by show z.1 46 p ≠ 6; rw [k1]; exact h6)
  · intro i p2 hi
    have hi : It[i]? = some p2 := hi
    have hil : i < It.length := by
      rcases Nat.lt_or_ge i It.length with e2 | e2
      · exact e2
      · rw [List.getElem?_eq_none e2] at hi; cases hi
    show (It ++ [p])[i]? = some p2
    rw [List.getElem?_append_left hil]; exact hi
  · intro i p2 hi
    have hi : It[i]? = some p2 := hi
    have hil : i < It.length := by
      rcases Nat.lt_or_ge i It.length with e2 | e2
      · exact e2
      · rw [List.getElem?_eq_none e2] at hi; cases hi
    have cell : ∀ k, k = 3 ∨ k = 4 → q.1 40 (8 * i + k) = μx.1 40 (8 * i + k) := by
      intro k hk2
      rw [qi, c40 _ (by omega), if_neg (fun e => by omega)]
    exact ⟨cell 3 (Or.inl rfl), cell 4 (Or.inr rfl)⟩
  · intro x2 hx2
    have hne : x2 ≠ b := fun e => hb (e ▸ hx2)
    refine ⟨by rw [bl_add, if_neg hne], ?_, hx2⟩
    rw [ql, if_neg (by omega), if_neg (by omega)]
  · intro f hf
    exact ⟨g8 53 f (by decide) (by omega) (by omega), g8 54 f (by decide) (by omega) (by omega)⟩
  · intro p2 hp2
    exact ⟨g8 46 p2 (by decide) (by omega) (by omega), g8 49 p2 (by decide) (by omega) (by omega), g8 50 p2 (by decide) (by omega) (by omega), g8 51 p2 (by decide) (by omega) (by omega)⟩
end

section
theorem gs_same {μ q : Mem} (h0 : q.1 30 5 = μ.1 30 5) (h1 : ∀ k, q.2.1 31 k = μ.2.1 31 k) (h2 : ∀ k, q.2.1 32 k = μ.2.1 32 k) (h3 : ∀ k, q.1 33 k = μ.1 33 k) (h4 : ∀ k, q.1 34 k = μ.1 34 k) : Gs7 μ q := ⟨by rw [h0]; exact Nat.le_refl _, fun k _ => ⟨h1 k, h2 k, h3 k, h4 k⟩⟩
theorem gh_same {μ q : Mem} (h0 : q.1 0 56 = μ.1 0 56) (h : ∀ i k, 30 ≤ i → i ≤ 34 → q.1 i k = μ.1 i k) : Gh7 μ q := ⟨by rw [h0]; exact Nat.le_refl _, fun k _ => ⟨h 30 k (by omega) (by omega), h 31 k (by omega) (by omega), h 32 k (by omega) (by omega), h 33 k (by omega) (by omega), h 34 k (by omega) (by omega)⟩⟩
theorem lv_gs {kind mark : Int32} {x y : Int64} {v b n : Nat} {μ q : Mem} (h : Lv7 kind mark x y v b n μ q) : Gs7 μ q := by
  obtain ⟨w, hA, qi, _, ql⟩ := h
  obtain ⟨_, _, _, _, _, _, _, _, co⟩ := hA
  have o : ∀ i k, i ≠ 39 → i ≠ 40 → i ≠ 42 → i ≠ 43 → i ≠ 45 → q.1 i k = μ.1 i k := fun i k a1 a2 a3 a4 a5 => by rw [qi]; exact co i k a1 a2 a3 a4 a5
  exact gs_same (o _ _ (by decide) (by decide) (by decide) (by decide) (by decide)) (fun k => by rw [ql, if_neg (by omega), if_neg (by omega)]) (fun k => by rw [ql, if_neg (by omega), if_neg (by omega)]) (fun k => o _ _ (by decide) (by decide) (by decide) (by decide) (by decide)) (fun k => o _ _ (by decide) (by decide) (by decide) (by decide) (by decide))
theorem la_gh {kind mark : Int32} {rg : Bool} {X : List Nat} {p o n : Nat} {μ z : Mem} (h : La7 kind mark rg X p o n μ z) : Gh7 μ z := by
  obtain ⟨_, _, _, _, _, _, g7, g8, _⟩ := h
  exact gh_same (g7 56 (by decide) (by decide) (by decide) (by decide)) (fun i k a b => g8 i k (by omega) (by omega) (by omega))
def Sk7 (μx μm : Mem) (h : Nat) : Prop := (μx.1 30 7).toInt = (h : Int) ∧ (μm.1 0 66).toInt = (h : Int) ∧ ∀ k, k < h → ∃ x w d, (μm.1 40 k).toInt = ((x : Nat) : Int) ∧ Va7 μx μm (μx.2.1 36 k) x w d ∧ w ≤ 40
theorem Sk7.of {μx μm q z : Mem} {h : Nat} (s : Sk7 μx μm h) (g : Gs7 μx q) (g2 : Gh7 μm z) (h1 : q.1 30 7 = μx.1 30 7) (h2 : z.1 0 66 = μm.1 0 66) (h3 : ∀ k, k < h → q.2.1 36 k = μx.2.1 36 k) (h4 : ∀ k, k < h → z.1 40 k = μm.1 40 k) : Sk7 q z h := by
  obtain ⟨a, b, c⟩ := s
  refine ⟨by rw [h1]; exact a, by rw [h2]; exact b, fun k hk => ?_⟩
  obtain ⟨x, w, d, c1, c2, c3⟩ := c k hk
  exact ⟨x, w, d, by rw [h4 k hk]; exact c1, by rw [h3 k hk]; exact c2.gr g g2, c3⟩
def Vr7 (μx μm : Mem) (D : Nat) (N : List Int32) : Prop := ∀ a, a ∈ N → ∃ x w d, (μm.1 41 (14 * D + (a - 109).toNatClampNeg)).toInt = ((x : Nat) : Int) ∧ Va7 μx μm (μx.2.1 37 (32 * D + slt N a)) x w d ∧ w ≤ 40
theorem slt_lt {N : List Int32} {a : Int32} (h : a ∈ N) : slt N a < N.length := by
  induction N with
  | nil => cases h
  | cons b N ih =>
    show (if b = a then N.length else slt N a) < N.length + 1
    by_cases e : b = a
    · rw [if_pos e]; omega
    · rw [if_neg e]
      rcases List.mem_cons.mp h with e2 | e2
      · exact absurd e2.symm e
      · have := ih e2; omega
theorem Vr7.of {μx μm q z : Mem} {D : Nat} {N : List Int32} (s : Vr7 μx μm D N) (g : Gs7 μx q) (g2 : Gh7 μm z) (h1 : ∀ k, k < N.length → q.2.1 37 (32 * D + k) = μx.2.1 37 (32 * D + k)) (h2 : ∀ a, a ∈ N → z.1 41 (14 * D + (a - 109).toNatClampNeg) = μm.1 41 (14 * D + (a - 109).toNatClampNeg)) : Vr7 q z D N := by
  intro a ha
  obtain ⟨x, w, d, c1, c2, c3⟩ := s a ha
  exact ⟨x, w, d, by rw [h2 a ha]; exact c1, by rw [h1 _ (slt_lt ha)]; exact c2.gr g g2, c3⟩
theorem Vr7.bind {μx μm q z : Mem} {D : Nat} {N : List Int32} {a : Int32} {x w d : Nat} (s : Vr7 μx μm D N) (hN : ∀ c, c ∈ N → isVa c = true) (ha : isVa a = true) (g : Gs7 μx q) (g2 : Gh7 μm z) (h1 : ∀ k, k < N.length → q.2.1 37 (32 * D + k) = μx.2.1 37 (32 * D + k)) (h2 : ∀ k, k ≠ 14 * D + (a - 109).toNatClampNeg → z.1 41 k = μm.1 41 k) (h3 : (z.1 41 (14 * D + (a - 109).toNatClampNeg)).toInt = (x : Int)) (h4 : Va7 q z (q.2.1 37 (32 * D + N.length)) x w d) (h5 : w ≤ 40) : Vr7 q z D (a :: N) := by
  intro c hc
  show ∃ x w d, _ ∧ Va7 q z (q.2.1 37 (32 * D + (if a = c then N.length else slt N c))) x w d ∧ w ≤ 40
  by_cases e : a = c
  · subst e
    rw [if_pos rfl]
    exact ⟨x, w, d, h3, h4, h5⟩
  · rw [if_neg e]
    rcases List.mem_cons.mp hc with e2 | e2
    · exact absurd e2.symm e
    · obtain ⟨x, w, d, c1, c2, c3⟩ := s c e2
      refine ⟨x, w, d, ?_, by rw [h1 _ (slt_lt e2)]; exact c2.gr g g2, c3⟩
      rw [h2 _ (fun e3 => e (va_inj ha (hN c e2) (by omega)))]; exact c1
theorem sk_push {μx μm q z : Mem} {h x w d : Nat} {v : Int64} {a : Int32} (s : Sk7 μx μm h) (hv : Va7 μx μm v x w d) (hw : w ≤ 40) (ha : a.toInt = (x : Int)) (hb : h < 2000000) (hq : q = sF (sL μx 36 h v) 30 7 (μx.1 30 7 + 1)) (hz : z = sF (sF μm 40 h a) 0 66 (μm.1 0 66 + 1)) : Sk7 q z (h + 1) ∧ Gs7 μx q ∧ Gh7 μm z := by
  have e1 : (1 : Int32).toInt = 1 := by decide
  have g : Gs7 μx q := gs_same (by rw [hq, sF_k (by decide)]; rfl) (fun k => by rw [hq]; show (sL μx 36 h v).2.1 31 k = _; rw [sL_at, if_neg (by omega)]) (fun k => by rw [hq]; show (sL μx 36 h v).2.1 32 k = _; rw [sL_at, if_neg (by omega)]) (fun k => by rw [hq, sF_i (by decide)]; rfl) (fun k => by rw [hq, sF_i (by decide)]; rfl)
  have g2 : Gh7 μm z := gh_same (by rw [hz, sF_k (by decide), sF_i (by decide)]) (fun i k a1 a2 => by rw [hz, sF_i (by omega), sF_i (by omega)])
  obtain ⟨s1, s2, s3⟩ := s
  refine ⟨⟨by rw [hq, sF_v, ti_add (by omega) (by omega), s1, e1]; omega, by rw [hz, sF_v, ti_add (by omega) (by omega), s2, e1]; omega, fun k hk => ?_⟩, g, g2⟩
  have l36 : q.2.1 36 k = if k = h then v else μx.2.1 36 k := by
    rw [hq]; show (sL μx 36 h v).2.1 36 k = _
    rw [sL_at]
    by_cases e : k = h
    · rw [if_pos ⟨rfl, e⟩, if_pos e]
    · rw [if_neg (fun x => e x.2), if_neg e]
  have l40 : z.1 40 k = if k = h then a else μm.1 40 k := by
    rw [hz, sF_i (by decide), sF_at]
    by_cases e : k = h
    · rw [if_pos ⟨rfl, e⟩, if_pos e]
    · rw [if_neg (fun x => e x.2), if_neg e]
  rw [l36, l40]
  by_cases e : k = h
  · rw [if_pos e, if_pos e]
    exact ⟨x, w, d, ha, hv.gr g g2, hw⟩
  · rw [if_neg e, if_neg e]
    obtain ⟨x2, w2, d2, c1, c2, c3⟩ := s3 k (by omega)
    exact ⟨x2, w2, d2, c1, c2.gr g g2, c3⟩
theorem sk_down {μx μm : Mem} {h : Nat} (s : Sk7 μx μm (h + 1)) : Sk7 (sF μx 30 7 (μx.1 30 7 - 1)) (sF μm 0 66 (μm.1 0 66 - 1)) h ∧ Gs7 μx (sF μx 30 7 (μx.1 30 7 - 1)) ∧ Gh7 μm (sF μm 0 66 (μm.1 0 66 - 1)) := by
  have e1 : (1 : Int32).toInt = 1 := by decide
  have hi := ti_hi (μx.1 30 7)
  have g : Gs7 μx (sF μx 30 7 (μx.1 30 7 - 1)) := gs_same (by rw [sF_k (by decide)]) (fun k => rfl) (fun k => rfl) (fun k => by rw [sF_i (by decide)]) (fun k => by rw [sF_i (by decide)])
  have g2 : Gh7 μm (sF μm 0 66 (μm.1 0 66 - 1)) := gh_same (by rw [sF_k (by decide)]) (fun i k a1 a2 => by rw [sF_i (by omega)])
  obtain ⟨s1, s2, s3⟩ := s
  refine ⟨⟨by rw [sF_v, ti_sub (by omega) (by omega), s1, e1]; omega, by rw [sF_v, ti_sub (by omega) (by omega), s2, e1]; omega, fun k hk => ?_⟩, g, g2⟩
  obtain ⟨x2, w2, d2, c1, c2, c3⟩ := s3 k (by omega)
  exact ⟨x2, w2, d2, by rw [sF_i (by decide)]; exact c1, c2.gr g g2, c3⟩
end

section
theorem bw_bw {α : Type} (f : Option Mem) (g : Mem → Option Mem) (K : Mem → Option α) : bw (bw f g) K = bw f (fun μ => bw (g μ) K) := by
  cases f <;> rfl
theorem lx_step {β : Type} {n : Nat} {a1 : Int32} {μ : Mem} {G : Option β} {P : Int32 × Mem → β → Prop} {A : Mem → Prop} (h6 : μ.1 137 6 = 0) (hv : (μ.1 137 7).toInt < (μ.1 39 2).toInt) (ha : a1.toInt < 1000000) (hA : pk (p_X10_step μ) A) (hK : ∀ m (q : Mem), n = m + 1 → A q → pk2 (p_X11_specialise_b17 m (a1 + 1) q) G P) : pk2 (p_X11_specialise_b17 n a1 μ) G P := by
  have em : (1000000 : Int32).toInt = 1000000 := by decide
  cases n with
  | zero => intro q z e; rw [p_X11_specialise_b17_z] at e; cases e
  | succ n =>
    rw [p_X11_specialise_b17_s, if_neg (by rw [ti_le, em]; omega)]
    refine pk2_bdl (A := fun r => r.1 = 1 ∧ r.2 = μ) ?_ ?_
    · rw [p_X10_isWorking_eq, if_pos h6, if_neg (by rw [ti_le]; omega)]
      exact pk_some ⟨rfl, rfl⟩
    · rintro r7 μ6 ⟨e1, e2⟩
      have e1 : r7 = 1 := e1
      have e2 : μ6 = μ := e2
      subst e2
      rw [if_neg (by rw [e1]; decide)]
      refine pk2_bwl hA (fun q hq => ?_)
      exact hK n q rfl hq
theorem gx_step {α β : Type} {fu m : Nat} {μ : Mem} {F : Option α} {K : Mem → Option β} {P : α → β → Prop} {A : Mem → Prop} (hm : (μ.1 0 65).toInt = ((m + 1 : Nat) : Int)) (h68 : μ.1 0 68 = 0) (hA : pk (p_X12_goOne (μ.1 37 m) (μ.1 38 m) (μ.1 39 m) (sF μ 0 65 (μ.1 0 65 - 1))) A) (hK : ∀ f2 (q : Mem), fu = f2 + 1 → A q → pk2 F (bw (p_X12_goAll_b0 f2 q) K) P) : pk2 F (bw (p_X12_goAll_b0 fu μ) K) P := by
  have e0 : (0 : Int32).toInt = 0 := by decide
  have e1 : (1 : Int32).toInt = 1 := by decide
  have hi := ti_hi (μ.1 0 65)
  cases fu with
  | zero => intro q z _ e; rw [p_X12_goAll_b0_z] at e; cases e
  | succ fu =>
    rw [p_X12_goAll_b0_s, if_neg (by rw [ti_le, e0]; omega), if_pos h68]
    have tm : (μ.1 0 65 - 1).toNatClampNeg = m := tn_of (by rw [ti_sub (by omega) (by omega), hm, e1]; omega)
    intro q z eq ez
    have s65 : (sF μ 0 65 (μ.1 0 65 - 1)).1 0 65 = μ.1 0 65 - 1 := by rw [sF_v]
    have s37 : ∀ k, (sF μ 0 65 (μ.1 0 65 - 1)).1 37 k = μ.1 37 k := fun k => by rw [sF_i (by decide)]
    have s38 : ∀ k, (sF μ 0 65 (μ.1 0 65 - 1)).1 38 k = μ.1 38 k := fun k => by rw [sF_i (by decide)]
    have s39 : ∀ k, (sF μ 0 65 (μ.1 0 65 - 1)).1 39 k = μ.1 39 k := fun k => by rw [sF_i (by decide)]
    have key : pk2 F (bw (bv (sF μ 0 65 (μ.1 0 65 - 1)) (fun μ3 => gd (inb (μ3.1 0 65) 6000) (gd (inb (μ3.1 0 65) 6000) (gd (inb (μ3.1 0 65) 6000) (bw (p_X12_goOne (μ3.1 37 (μ3.1 0 65).toNatClampNeg) (μ3.1 38 (μ3.1 0 65).toNatClampNeg) (μ3.1 39 (μ3.1 0 65).toNatClampNeg) μ3) (fun μ4 => p_X12_goAll_b0 fu μ4)))))) K) P := by
      show pk2 F (bw (gd (inb ((sF μ 0 65 (μ.1 0 65 - 1)).1 0 65) 6000) (gd (inb ((sF μ 0 65 (μ.1 0 65 - 1)).1 0 65) 6000) (gd (inb ((sF μ 0 65 (μ.1 0 65 - 1)).1 0 65) 6000) (bw (p_X12_goOne ((sF μ 0 65 (μ.1 0 65 - 1)).1 37 ((sF μ 0 65 (μ.1 0 65 - 1)).1 0 65).toNatClampNeg) ((sF μ 0 65 (μ.1 0 65 - 1)).1 38 ((sF μ 0 65 (μ.1 0 65 - 1)).1 0 65).toNatClampNeg) ((sF μ 0 65 (μ.1 0 65 - 1)).1 39 ((sF μ 0 65 (μ.1 0 65 - 1)).1 0 65).toNatClampNeg) (sF μ 0 65 (μ.1 0 65 - 1))) (fun μ4 => p_X12_goAll_b0 fu μ4))))) K) P
      rw [s65, tm, s37, s38, s39]
      cases hg : inb (μ.1 0 65 - 1) 6000 with
      | false => intro q z _ e; cases e
      | true =>
        show pk2 F (bw (bw _ _) K) P
        rw [bw_bw]
        exact pk2_bwr hA (fun μ4 h4 => hK fu μ4 rfl h4)
    exact key q z eq ez
theorem c_at {P i : Nat} {C : List Th3} {μ : Mem} {a : Int32} {s m t : Int32} (hL : Lc P C μ) (hC : C.length ≤ 2472) (hi : C[i]? = some (s, m, t)) (ha : a.toInt = (i : Int)) : pk (p_X3_stepAt P a μ) (fun r => r.1 = s ∧ r.2 = μ) ∧ pk (p_X3_markAt P a μ) (fun r => r.1 = m ∧ r.2 = μ) ∧ pk (p_X3_bitsAt P a μ) (fun r => r.1 = t ∧ r.2 = μ) := by
  have e0 : (0 : Int32).toInt = 0 := by decide
  have hl := lt_of_some hi
  obtain ⟨l2, lc⟩ := hL
  obtain ⟨c4, c5, c6⟩ := lc i _ hi
  have n1 : ¬ a < 0 := by rw [ti_lt, e0]; omega
  have n2 : ¬ μ.1 P 2 ≤ a := by rw [ti_le, l2]; omega
  refine ⟨?_, ?_, ?_⟩
  · rw [p_X3_stepAt_eq, if_neg n1, if_neg n2, tn_of ha]; exact pk_gd (fun _ => pk_some ⟨c4, rfl⟩)
  · rw [p_X3_markAt_eq, if_neg n1, if_neg n2, tn_of ha]; exact pk_gd (fun _ => pk_some ⟨c5, rfl⟩)
  · rw [p_X3_bitsAt_eq, if_neg n1, if_neg n2, tn_of ha]; exact pk_gd (fun _ => pk_some ⟨c6, rfl⟩)
end

section
def Fx7 (v : Nat) (μ q : Mem) : Prop := q.2.2 = μ.2.2 ∧ (∀ i k, i ≠ 39 → i ≠ 40 → i ≠ 42 → i ≠ 43 → i ≠ 45 → q.1 i k = μ.1 i k) ∧ (∀ k, k ≠ 1 → q.1 39 k = μ.1 39 k) ∧ (∀ k, k ≠ 4 * v + 2 → q.1 45 k = μ.1 45 k) ∧ ∀ i k, i ≠ 41 → q.2.1 i k = μ.2.1 i k
theorem Fx7.rf {v : Nat} {μ : Mem} : Fx7 v μ μ := ⟨rfl, fun _ _ _ _ _ _ _ => rfl, fun _ _ => rfl, fun _ _ => rfl, fun _ _ _ => rfl⟩
theorem Fx7.tr {v : Nat} {μ q z : Mem} (h : Fx7 v μ q) (h2 : Fx7 v q z) : Fx7 v μ z := ⟨h2.1.trans h.1, fun i k a b c d e => (h2.2.1 i k a b c d e).trans (h.2.1 i k a b c d e), fun k a => (h2.2.2.1 k a).trans (h.2.2.1 k a), fun k a => (h2.2.2.2.1 k a).trans (h.2.2.2.1 k a), fun i k a => (h2.2.2.2.2 i k a).trans (h.2.2.2.2 i k a)⟩
theorem Fx7.gs {v : Nat} {μ q : Mem} (h : Fx7 v μ q) : Gs7 μ q := gs_same (h.2.1 _ _ (by decide) (by decide) (by decide) (by decide) (by decide)) (fun k => h.2.2.2.2 _ _ (by decide)) (fun k => h.2.2.2.2 _ _ (by decide)) (fun k => h.2.1 _ _ (by decide) (by decide) (by decide) (by decide) (by decide)) (fun k => h.2.1 _ _ (by decide) (by decide) (by decide) (by decide) (by decide))
theorem Lv7.fx {kind mark : Int32} {x y : Int64} {v b n : Nat} {μ q : Mem} (h : Lv7 kind mark x y v b n μ q) : Fx7 v μ q := by
  obtain ⟨w, hA, qi, qr, ql⟩ := h
  obtain ⟨f2, _, ck, _, _, c45, _, _, co⟩ := hA
  exact ⟨by rw [qr, f2], fun i k a1 a2 a3 a4 a5 => by rw [qi]; exact co i k a1 a2 a3 a4 a5, fun k hk => by rw [qi]; exact ck k hk, fun k hk => by rw [qi, c45, if_neg (fun e => hk e.2)], fun i k hi => by rw [ql, if_neg (fun e => hi e.1), if_neg (fun e => hi e.1)]⟩
def Fm7 (p o : Nat) (μ z : Mem) : Prop := z.2 = μ.2 ∧ (∀ k, k ≠ 56 → k ≠ 87 → k ≠ 88 → k ≠ 89 → k ≠ 93 → z.1 0 k = μ.1 0 k) ∧ (∀ i k, i ≠ 0 → ¬ (30 ≤ i ∧ i ≤ 34) → ¬ ((46 ≤ i ∧ i ≤ 52) ∧ p ≤ k) → ¬ ((i = 53 ∨ i = 54) ∧ o ≤ k) → i ≠ 55 → i ≠ 56 → z.1 i k = μ.1 i k) ∧ Gh7 μ z ∧ ((μ.1 0 87).toInt ≤ (z.1 0 87).toInt ∧ (μ.1 0 88).toInt ≤ (z.1 0 88).toInt)
theorem Fm7.rf {p o : Nat} {μ : Mem} : Fm7 p o μ μ := ⟨rfl, fun _ _ _ _ _ _ => rfl, fun _ _ _ _ _ _ _ _ => rfl, Gh7.rf, by omega, by omega⟩
theorem Fm7.tr {p o : Nat} {μ q z : Mem} (h : Fm7 p o μ q) (h2 : Fm7 p o q z) : Fm7 p o μ z := ⟨h2.1.trans h.1, fun k a b c d e => (h2.2.1 k a b c d e).trans (h.2.1 k a b c d e), fun i k a b c d e f => (h2.2.2.1 i k a b c d e f).trans (h.2.2.1 i k a b c d e f), h.2.2.2.1.tr h2.2.2.2.1, by have := h.2.2.2.2.1; have := h2.2.2.2.2.1; omega, by have := h.2.2.2.2.2; have := h2.2.2.2.2.2; omega⟩
theorem Fm7.le {p o p2 o2 : Nat} {μ z : Mem} (h : Fm7 p2 o2 μ z) (hp : p ≤ p2) (ho : o ≤ o2) : Fm7 p o μ z := ⟨h.1, h.2.1, fun i k a b c d e f => h.2.2.1 i k a b (fun x => c ⟨x.1, by omega⟩) (fun x => d ⟨x.1, by omega⟩) e f, h.2.2.2⟩
theorem La7.fm {kind mark : Int32} {rg : Bool} {X : List Nat} {p o n : Nat} {μ z : Mem} (h : La7 kind mark rg X p o n μ z) (hp : (μ.1 0 87).toInt = (p : Int)) (ho : (μ.1 0 88).toInt = (o : Int)) : Fm7 p o μ z := by
  have hg := la_gh h
  obtain ⟨g1, g2, _, _, _, _, g7, g8, g9, _⟩ := h
  exact ⟨g9, fun k _ b c d e => g7 k b c d e, fun i k a _ c d _ _ => g8 i k a (fun x => c ⟨x.1, by omega⟩) d, hg, by omega, by omega⟩
theorem Fh7.fm {p o : Nat} {μ z : Mem} (h : Fh7 μ z) : Fm7 p o μ z := ⟨h.1, fun k a _ _ _ _ => h.2.2.1 k a, fun i k a b _ _ _ _ => h.2.1 i k a b, h.2.2.2, by rw [h.2.2.1 87 (by decide)]; omega, by rw [h.2.2.1 88 (by decide)]; omega⟩
theorem va_lo {μx μm : Mem} {v : Int64} {x : Nat} (h : Va7 μx μm v x 1 0) : Lo7 μm v x := by
  rcases (va_kind h).2 with ⟨m, hm, e, hs, _⟩ | ⟨k, y, z, w1, w2, d1, d2, e, hk, hs, hy, hz', hw, hd, _⟩
  · exact ⟨m, hm, e, hs⟩
  · omega
theorem Re7.n {μx μm : Mem} {It Bk : List Nat} {cl : Nat → Prop} {v b a : Nat} (h : Re7 μx μm It Bk cl v b a) : (μx.1 39 1).toInt = (It.length : Int) ∧ (μm.1 0 89).toInt = (It.length : Int) ∧ It.length ≤ 300 ∧ ∃ p o : Nat, (μm.1 0 87).toInt = (p : Int) ∧ (μm.1 0 88).toInt = (o : Int) := by
  obtain ⟨⟨t1, t2, t3, _, P, O, tP, tO, _⟩, _⟩ := h
  exact ⟨t1, t2, t3, P, O, tP, tO⟩
theorem Re7.node {μx μm z : Mem} {It Bk : List Nat} {cl : Nat → Prop} {v b a : Nat} (h : Re7 μx μm It Bk cl v b a) (f0 : ∀ k, k ≠ 56 → z.1 0 k = μm.1 0 k) (f : ∀ i k, 46 ≤ i → i ≤ 63 → i ≠ 55 → i ≠ 56 → z.1 i k = μm.1 i k) : Re7 μx z It Bk cl v b a := by
  obtain ⟨⟨t1, t2, t3, t4, P, O, tP, tO, tb, tI⟩, hB, hC, hs, hb, ⟨m68, m69⟩, hS⟩ := h
  refine ⟨⟨t1, by rw [f0 89 (by decide)]; exact t2, t3, by rw [f0 93 (by decide)]; exact t4, P, O, by rw [f0 87 (by decide)]; exact tP, by rw [f0 88 (by decide)]; exact tO, by rw [f 62 v (by decide) (by decide) (by decide) (by decide)]; exact tb, fun i p hi => ?_⟩, hB, hC, hs, hb, ⟨by rw [f0 68 (by decide)]; exact m68, by rw [f0 69 (by decide)]; exact m69⟩, ?_⟩
  · obtain ⟨a1, ⟨b1, b2, b3, f', m, b4, b5, b6, b7⟩, u, u1, u2, u3, u4⟩ := tI i p hi
    have fo : ∀ j k, Op7 μx μm j k → Op7 μx z j k := fun j k ho => ho.cong rfl (f 53 k (by decide) (by decide) (by decide) (by decide)) (f 54 k (by decide) (by decide) (by decide) (by decide))
    refine ⟨a1, ⟨by rw [f 46 p (by decide) (by decide) (by decide) (by decide)]; exact b1, by rw [f 47 p (by decide) (by decide) (by decide) (by decide)]; exact b2, by rw [f 48 p (by decide) (by decide) (by decide) (by decide)]; exact b3, f', m, by rw [f 51 p (by decide) (by decide) (by decide) (by decide)]; exact b4, by rw [f 52 p (by decide) (by decide) (by decide) (by decide)]; exact b5, b6, ?_⟩, u, u1, u2, by rw [f 62 u (by decide) (by decide) (by decide) (by decide)]; exact u3, fun hu => by rw [f 63 u (by decide) (by decide) (by decide) (by decide)]; exact u4 hu⟩
    rw [f 46 p (by decide) (by decide) (by decide) (by decide)]
    rcases b7 with ⟨b7, b8, b9⟩ | ⟨b7, b8, b9, b10⟩
    · exact Or.inl ⟨b7, b8, fun k hk2 => fo _ _ (b9 k hk2)⟩
    · exact Or.inr ⟨b7, b8, b9, fun k hk2 => fo _ _ (b10 k hk2)⟩
  · rw [f0 87 (by decide), f0 88 (by decide)]
    exact hS.cong (fun _ _ e => e) (fun _ _ _ => ⟨rfl, rfl⟩) (fun x hx => ⟨rfl, rfl, hx⟩) (fun k _ => ⟨f 53 k (by decide) (by decide) (by decide) (by decide), f 54 k (by decide) (by decide) (by decide) (by decide)⟩) (Nat.le_refl _) (fun p _ => ⟨f 46 p (by decide) (by decide) (by decide) (by decide), f 49 p (by decide) (by decide) (by decide) (by decide), f 50 p (by decide) (by decide) (by decide) (by decide), f 51 p (by decide) (by decide) (by decide) (by decide)⟩)
end

section
def Sf8 (μx μm : Mem) (It Bk : List Nat) (cl : Nat → Prop) (b a p : Nat) : Prop := Sg7 (fun i => It[i]?) (μm.1 46) (μx.1 40) (Bl7 Bk) cl (μx.2.1 44) (μm.1 49) (μm.1 50) (μm.1 51) (μm.1 53) (μm.1 54) (μm.1 0 88).toNatClampNeg (Bl7 Bk b) a p
def Gw8 (b B : Nat) (μx μm : Mem) (It Bk : List Nat) (cl : Nat → Prop) (q z : Mem) (It2 Bk2 : List Nat) (cl2 : Nat → Prop) : Prop := (∃ E F : List Nat, It2 = It ++ E ∧ Bk2 = Bk ++ F ∧ (∀ x, x ∈ F → x = b ∨ B ≤ x) ∧ E.Nodup ∧ (∀ p, p ∈ E → (μm.1 0 87).toNatClampNeg ≤ p ∧ p < (z.1 0 87).toNatClampNeg ∧ z.1 46 p ≠ 13 ∧ z.1 46 p ≠ 14) ∧ ∀ p, (μm.1 0 87).toNatClampNeg ≤ p → p < (z.1 0 87).toNatClampNeg → z.1 46 p = 13 ∨ z.1 46 p = 14 ∨ p ∈ E) ∧ ((μm.1 0 87).toNatClampNeg ≤ (z.1 0 87).toNatClampNeg ∧ (μm.1 0 88).toNatClampNeg ≤ (z.1 0 88).toNatClampNeg) ∧ (∀ b2 a p, b2 ≠ b → b2 < B → p ≤ (μm.1 0 87).toNatClampNeg → Sf8 μx μm It Bk cl b2 a p → Sf8 q z It2 Bk2 cl2 b2 a p) ∧ (∀ x, x < B → (cl2 x ↔ cl x) ∧ (x ≠ b → q.2.1 44 x = μx.2.1 44 x)) ∧ (∀ i k, 46 ≤ i → i ≤ 52 → k < (μm.1 0 87).toNatClampNeg → z.1 i k = μm.1 i k) ∧ ∀ i k, i = 53 ∨ i = 54 → k < (μm.1 0 88).toNatClampNeg → z.1 i k = μm.1 i k
theorem Gw8.rf {b B : Nat} {μx μm : Mem} {It Bk : List Nat} {cl : Nat → Prop} : Gw8 b B μx μm It Bk cl μx μm It Bk cl := ⟨⟨[], [], by simp, by simp, by simp, List.nodup_nil, (by simp), fun p a b => by omega⟩, ⟨Nat.le_refl _, Nat.le_refl _⟩, fun _ _ _ _ _ _ h => h, fun _ _ => ⟨Iff.rfl, fun _ => rfl⟩, fun _ _ _ _ _ => rfl, fun _ _ _ _ => rfl⟩
theorem Gw8.tr {b B B2 : Nat} {μx μm q z q2 z2 : Mem} {It Bk It2 Bk2 It3 Bk3 : List Nat} {cl cl2 cl3 : Nat → Prop} (h : Gw8 b B μx μm It Bk cl q z It2 Bk2 cl2) (h2 : Gw8 b B2 q z It2 Bk2 cl2 q2 z2 It3 Bk3 cl3) (hB : B ≤ B2) : Gw8 b B μx μm It Bk cl q2 z2 It3 Bk3 cl3 := by
  obtain ⟨⟨E, F, e1, e2, e3, e4, e5, e6⟩, ⟨l1, l2⟩, k, c, i, o⟩ := h
  obtain ⟨⟨E', F', e1', e2', e3', e4', e5', e6'⟩, ⟨l1', l2'⟩, k', c', i', o'⟩ := h2
  refine ⟨⟨E ++ E', F ++ F', by rw [e1', e1, List.append_assoc], by rw [e2', e2, List.append_assoc], fun x hx => ?_, ?_, fun p hp => ?_, fun p hp hp2 => ?_⟩, ⟨Nat.le_trans l1 l1', Nat.le_trans l2 l2'⟩, fun b2 a p x1 x2 x3 hs => k' b2 a p x1 (by omega) (by omega) (k b2 a p x1 x2 x3 hs), fun x hx => ⟨((c' x (by omega)).1).trans (c x hx).1, fun hb => ((c' x (by omega)).2 hb).trans ((c x hx).2 hb)⟩, fun j p x1 x2 x3 => (i' j p x1 x2 (by omega)).trans (i j p x1 x2 x3), fun j p x1 x2 => (o' j p x1 (by omega)).trans (o j p x1 x2)⟩
  · rcases List.mem_append.mp hx with x1 | x1
    · exact e3 x x1
    · rcases e3' x x1 with x2 | x2
      · exact Or.inl x2
      · exact Or.inr (by omega)
  · refine List.nodup_append.mpr ⟨e4, e4', fun x hx y hy e => ?_⟩
    have := e5 x hx
    have := e5' y hy
    omega
  · rcases List.mem_append.mp hp with x1 | x1
    · obtain ⟨y1, y2, y3, y4⟩ := e5 p x1
      have := i' 46 p (by decide) (by decide) y2
      exact ⟨y1, by omega, by rw [this]; exact y3, by rw [this]; exact y4⟩
    · obtain ⟨y1, y2, y3, y4⟩ := e5' p x1
      exact ⟨by omega, y2, y3, y4⟩
  · rcases Nat.lt_or_ge p (z.1 0 87).toNatClampNeg with x1 | x1
    · have := i' 46 p (by decide) (by decide) x1
      rw [this]
      rcases e6 p hp x1 with y | y | y
      · exact Or.inl y
      · exact Or.inr (Or.inl y)
      · exact Or.inr (Or.inr (List.mem_append.mpr (Or.inl y)))
    · rcases e6' p x1 hp2 with y | y | y
      · exact Or.inl y
      · exact Or.inr (Or.inl y)
      · exact Or.inr (Or.inr (List.mem_append.mpr (Or.inr y)))
def Sc8 (μx μm q z : Mem) : Prop := (∀ k, q.1 40 k = μx.1 40 k) ∧ (∀ k, q.2.1 44 k = μx.2.1 44 k) ∧ (z.1 0 87 = μm.1 0 87 ∧ z.1 0 88 = μm.1 0 88) ∧ ∀ i k, 46 ≤ i → i ≤ 54 → z.1 i k = μm.1 i k
theorem Sf8.of {μx μm q z : Mem} {It Bk : List Nat} {cl : Nat → Prop} {b a p : Nat} (h : Sf8 μx μm It Bk cl b a p) (c : Sc8 μx μm q z) : Sf8 q z It Bk cl b a p := by
  obtain ⟨c1, c2, ⟨c3, c4⟩, c5⟩ := c
  unfold Sf8 at h ⊢
  have e40 : q.1 40 = μx.1 40 := funext c1
  have e44 : q.2.1 44 = μx.2.1 44 := funext c2
  rw [e40, e44, c4, funext (c5 46 · (by decide) (by decide)), funext (c5 49 · (by decide) (by decide)), funext (c5 50 · (by decide) (by decide)), funext (c5 51 · (by decide) (by decide)), funext (c5 53 · (by decide) (by decide)), funext (c5 54 · (by decide) (by decide))]
  exact h
theorem Gw8.same {b B : Nat} {μx μm q z : Mem} {It Bk : List Nat} {cl : Nat → Prop} (c : Sc8 μx μm q z) : Gw8 b B μx μm It Bk cl q z It Bk cl := by
  have c' := c
  obtain ⟨c1, c2, ⟨c3, c4⟩, c5⟩ := c'
  exact ⟨⟨[], [], by simp, by simp, by simp, List.nodup_nil, (by simp), fun p a b => by rw [c3] at b; omega⟩, ⟨by rw [c3]; exact Nat.le_refl _, by rw [c4]; exact Nat.le_refl _⟩, fun _ _ _ _ _ _ h => h.of c, fun x _ => ⟨Iff.rfl, fun _ => c2 x⟩, fun i k a1 a2 _ => c5 i k a1 (by omega), fun i k a1 _ => c5 i k (by omega) (by omega)⟩
theorem lt_some {α : Type} {T : List α} {i : Nat} {x : α} (h : T[i]? = some x) : i < T.length := (List.getElem?_eq_some_iff.mp h).1
theorem gw_lay {μx μm q z : Mem} {It Bk : List Nat} {cl : Nat → Prop} {v b a p o B : Nat} {kind mark : Int32} {rg : Bool} {x y : Int64} {X : List Nat} (h : Re7 μx μm It Bk cl v b a) (hl : It.length < 300) (hc : Lv7 kind mark x y v b It.length μx q) (hm : La7 kind mark rg X p o It.length μm z) (hk : kind ≠ 13 ∧ kind ≠ 14) (hp : (μm.1 0 87).toInt = (p : Int)) (ho : (μm.1 0 88).toInt = (o : Int)) : Gw8 b B μx μm It Bk cl q z (It ++ [p]) (Bk ++ [b]) cl := by
  obtain ⟨hT, hB, hC, ⟨s1, s2, s3, s4, s5, s6⟩, hb, _, hS⟩ := h
  obtain ⟨w, hA, qi, qr, ql⟩ := hc
  have hlast : ∀ l : Nat, (μx.1 43 b).toInt = (l : Int) → l < It.length := by
    intro l hl2
    have hne : μx.1 43 b ≠ -1 := by
      intro e; rw [e] at hl2
      have : (-1 : Int32).toInt = -1 := by decide
      omega
    obtain ⟨l2, e, hl3⟩ := cn_last hC s6 hne
    omega
  obtain ⟨_, c1, ck, _, c40, c45, c42, c43, co⟩ := hA
  obtain ⟨g1, g2, g3, g4, ⟨k1, k2, k3, k4, k5⟩, g6, g7, g8, _, g10, g11⟩ := hm
  have tp := tn_of hp
  have t1 := tn_of g1
  have to := tn_of ho
  have t2 := tn_of g2
  have h44 : ∀ x, q.2.1 44 x = μx.2.1 44 x := fun x => by rw [ql, if_neg (by omega), if_neg (by omega)]
  refine ⟨⟨[p], [b], rfl, rfl, fun x hx => Or.inl (List.mem_singleton.mp hx), List.nodup_cons.mpr ⟨by simp, List.nodup_nil⟩, fun p2 hp2 => ?_, fun p2 x1 x2 => ?_⟩, ⟨by rw [tp, t1]; omega, by rw [to, t2]; omega⟩, fun b2 a2 p2 hb2 _ hp2 hS2 => ?_, fun x _ => ⟨Iff.rfl, fun _ => h44 x⟩, fun i k a1 a2 a3 => ?_, fun i k a1 a2 => ?_⟩
  · have e := List.mem_singleton.mp hp2
    subst e
    rw [tp, t1, k1]
    exact ⟨Nat.le_refl _, by omega, hk.1, hk.2⟩
  · rw [tp] at x1
    rw [t1] at x2
    exact Or.inr (Or.inr (List.mem_singleton.mpr (by omega)))
  · unfold Sf8 at hS2 ⊢
    rw [tp] at hp2
    rw [to] at hS2
    rw [t2, bl_add, if_neg hb2]
    refine hS2.cong ?_ ?_ ?_ ?_ (by omega) ?_
    · intro i p2 hi
      have hi : It[i]? = some p2 := hi
      show (It ++ [p])[i]? = some p2
      rw [List.getElem?_append_left (lt_some hi)]; exact hi
    · intro i p2 hi
      have hi : It[i]? = some p2 := hi
      have hil := lt_some hi
      have cell : ∀ k, k = 3 ∨ k = 4 → q.1 40 (8 * i + k) = μx.1 40 (8 * i + k) := by
        intro k hk2
        rw [qi, c40 _ (by omega), if_neg (fun e => by omega)]
      exact ⟨cell 3 (Or.inl rfl), cell 4 (Or.inr rfl)⟩
    · intro x2 hx2
      have hne : x2 ≠ b := fun e => hb (e ▸ hx2)
      exact ⟨by rw [bl_add, if_neg hne], h44 x2, hx2⟩
    · intro f hf
      exact ⟨g8 53 f (by decide) (by omega) (by omega), g8 54 f (by decide) (by omega) (by omega)⟩
    · intro p3 hp3
      exact ⟨g8 46 p3 (by decide) (by omega) (by omega), g8 49 p3 (by decide) (by omega) (by omega), g8 50 p3 (by decide) (by omega) (by omega), g8 51 p3 (by decide) (by omega) (by omega)⟩
  · rw [tp] at a3
    exact g8 i k (by omega) (by omega) (by omega)
  · rw [to] at a2
    exact g8 i k (by omega) (by omega) (by omega)
def Gl8 (b : Nat) (μx μm : Mem) (It Bk : List Nat) (cl : Nat → Prop) (q z : Mem) (It2 Bk2 : List Nat) (cl2 : Nat → Prop) : Prop := (∀ B, Gw8 b B μx μm It Bk cl q z It2 Bk2 cl2) ∧ ∀ p, (μm.1 0 87).toNatClampNeg ≤ p → p < (z.1 0 87).toNatClampNeg → z.1 46 p ≠ 11
theorem Gl8.tr {b : Nat} {μx μm q z q2 z2 : Mem} {It Bk It2 Bk2 It3 Bk3 : List Nat} {cl cl2 cl3 : Nat → Prop} (h : Gl8 b μx μm It Bk cl q z It2 Bk2 cl2) (h2 : Gl8 b q z It2 Bk2 cl2 q2 z2 It3 Bk3 cl3) : Gl8 b μx μm It Bk cl q2 z2 It3 Bk3 cl3 := by
  refine ⟨fun B => (h.1 B).tr (h2.1 B) (Nat.le_refl B), fun p a c => ?_⟩
  rcases Nat.lt_or_ge p (z.1 0 87).toNatClampNeg with x1 | x1
  · rw [(h2.1 0).2.2.2.2.1 46 p (by decide) (by decide) x1]
    exact h.2 p a x1
  · exact h2.2 p x1 c
theorem Gl8.same {b : Nat} {μx μm q z : Mem} {It Bk : List Nat} {cl : Nat → Prop} (c : Sc8 μx μm q z) : Gl8 b μx μm It Bk cl q z It Bk cl := ⟨fun B => Gw8.same c, fun p a e => by rw [c.2.2.1.1] at e; omega⟩
theorem gl_lay {μx μm q z : Mem} {It Bk : List Nat} {cl : Nat → Prop} {v b a p o : Nat} {kind mark : Int32} {rg : Bool} {x y : Int64} {X : List Nat} (h : Re7 μx μm It Bk cl v b a) (hl : It.length < 300) (hc : Lv7 kind mark x y v b It.length μx q) (hm : La7 kind mark rg X p o It.length μm z) (hk : kind ≠ 13 ∧ kind ≠ 14) (h11 : kind ≠ 11) (hp : (μm.1 0 87).toInt = (p : Int)) (ho : (μm.1 0 88).toInt = (o : Int)) : Gl8 b μx μm It Bk cl q z (It ++ [p]) (Bk ++ [b]) cl := by
  refine ⟨fun B => gw_lay h hl hc hm hk hp ho, fun p2 x1 x2 => ?_⟩
  have t1 := tn_of hm.1
  rw [tn_of hp] at x1
  rw [t1] at x2
  have : p2 = p := by omega
  rw [this, hm.2.2.2.2.1.1]; exact h11
end
