section
def Mk8 (kd : Int32) (p0 e o : Nat) (s bt : Int32) (z4 z : Mem) : Prop := ((z4.1 0 87).toInt = (e : Int) ∧ (z.1 0 87).toInt = ((e + 1 : Nat) : Int) ∧ (z.1 0 88).toInt = ((o + 1 : Nat) : Int)) ∧ (z.1 46 e = kd ∧ (z.1 51 e).toInt = (o : Int) ∧ z.1 53 o = s ∧ z.1 54 o = bt) ∧ z.2 = z4.2 ∧ (∀ k, k ≠ 87 → k ≠ 88 → z.1 0 k = z4.1 0 k) ∧ ∀ i k, i ≠ 0 → ¬ (i = 53 ∧ k = o) → ¬ (i = 54 ∧ k = o) → ¬ ((46 ≤ i ∧ i ≤ 52) ∧ k = e) → z.1 i k = z4.1 i k
theorem m_mark {z4 : Mem} {kd a2 r4 : Int32} {p0 y o : Nat} (h4 : r4.toInt = (y : Int)) (ho : (z4.1 0 88).toInt = (o : Int)) : pk (bd (p_X12_item kd z4) (fun r7 μ6 => gd (inb r7 960) (bv (sF μ6 48 r7.toNatClampNeg a2) (fun μ8 => bw (p_X12_operand r7 r4 μ8) (fun μ9 => some (r4, μ9)))))) (fun r => r.1 = r4 ∧ ∃ e : Nat, Mk8 kd p0 e o (z4.1 30 y) (z4.1 31 y) z4 r.2) := by
  refine pk_bd (m_item kd ho) ?_
  rintro r7 z5 ⟨e, hp, hp9, hr, im⟩
  have hr : r7.toInt = (e : Int) := hr
  have im : Im7 kd e o z4 z5 := im
  obtain ⟨m0, m1, m2, ⟨m3, m4, m5, m6, m7⟩, m8, m9⟩ := im
  rw [tn_of hr]
  refine pk_gd (fun _ => pk_bvs ?_)
  have ho5 : ((sF z5 48 e a2).1 0 88).toInt = (o : Int) := by rw [sF_i (by decide), m2 88 (by decide)]; exact ho
  refine pk_bw (m_operand (m := 0) hr h4 ho5 (by rw [sF_i (by decide), m7]; decide) (by decide)) (fun z6 h => pk_some ⟨rfl, e, ?_⟩)
  obtain ⟨n1, n2, n3, n4, n5, n6, n7⟩ := h
  have all : ∀ i k, i ≠ 0 → ¬ (i = 53 ∧ k = o) → ¬ (i = 54 ∧ k = o) → ¬ (i = 52 ∧ k = e) → ¬ (i = 48 ∧ k = e) → z6.1 i k = z5.1 i k := fun i k h1 h2 h3 h4 h5 => by rw [n7 i k h1 h2 h3 h4, sF_at, if_neg h5]
  refine ⟨⟨hp, ?_, n2⟩, ⟨?_, ?_, ?_, ?_⟩, ?_, fun k h1 h2 => ?_, fun i k h1 h2 h3 h4 => ?_⟩
  · show (z6.1 0 87).toInt = _; rw [n3 87 (by decide), sF_i (by decide)]; exact m1
  · show z6.1 46 e = kd; rw [all 46 e (by decide) (by omega) (by omega) (by omega) (by omega)]; exact m3
  · show (z6.1 51 e).toInt = _; rw [all 51 e (by decide) (by omega) (by omega) (by omega) (by omega)]; exact m6
  · show z6.1 53 o = _; rw [n4, sF_i (by decide), m8 30 y (by decide) (by omega)]
  · show z6.1 54 o = _; rw [n5, sF_i (by decide), m8 31 y (by decide) (by omega)]
  · show z6.2 = z4.2; rw [n1]; exact m0
  · show z6.1 0 k = z4.1 0 k; rw [n3 k h2, sF_i (by decide), m2 k h1]
  · show z6.1 i k = z4.1 i k; rw [all i k h1 h2 h3 (by omega) (by omega), m8 i k h1 h4]
theorem m_midtail {z4 : Mem} {m h y p0 o : Nat} {a1 a2 r4 : Int32} (h1 : a1.toInt = (p0 : Int)) (h4 : r4.toInt = (y : Int)) (h68 : z4.1 0 68 = 0) (ho : (z4.1 0 88).toInt = (o : Int)) (z65 : (z4.1 0 65).toInt = (m : Int)) (hp : (p0 : Int) < (z4.1 0 87).toInt) : pk (bd (bd (p_X12_item 13 z4) (fun r7 μ6 => gd (inb r7 960) (bv (sF μ6 48 r7.toNatClampNeg a1) (fun μ8 => bw (p_X12_operand r7 r4 μ8) (fun μ9 => some (r4, μ9)))))) (fun r2 μ1 => (if (μ1.1 0 68) = 0 then gd (inb a1 960) (bv (sF μ1 49 a1.toNatClampNeg ((μ1.1 0 87) - 1)) (fun μ4 => bw (p_X12_push 7 a1 r2 μ4) (fun μ5 => bw (p_X12_push 0 a2 0 μ5) (fun μ7 => some μ7)))) else some μ1))) (fun z => ∃ e1 : Nat, m < 6000 ∧ Mi8 h m p0 e1 o (z4.1 30 y) (z4.1 31 y) z4 z ∧ (z.1 0 65).toInt = ((m + 2 : Nat) : Int) ∧ (z.1 37 m = 7 ∧ (z.1 38 m).toInt = (p0 : Int) ∧ z.1 39 m = r4) ∧ (z.1 37 (m + 1) = 0 ∧ z.1 38 (m + 1) = a2)) := by
  have e1' : (1 : Int32).toInt = 1 := by decide
  refine pk_bd (m_mark (p0 := p0) h4 ho) ?_
  rintro r2 z5 ⟨er, e1, mk⟩
  have er : r2 = r4 := er
  have mk : Mk8 13 p0 e1 o (z4.1 30 y) (z4.1 31 y) z4 z5 := mk
  obtain ⟨⟨k1, k2, k3⟩, ⟨k4, k5, k6, k7⟩, k0, k8, k9⟩ := mk
  rw [if_pos (by rw [k8 68 (by decide) (by decide)]; exact h68), tn_of h1, er]
  refine pk_gd (fun _ => pk_bvs ?_)
  generalize hz6 : sF z5 49 p0 (z5.1 0 87 - 1) = z6
  have c6 : ∀ i k, ¬ (i = 49 ∧ k = p0) → z6.1 i k = z5.1 i k := fun i k h => by rw [← hz6, sF_at, if_neg h]
  have d6 : (z6.1 49 p0).toInt = (e1 : Int) := by
    have hi := ti_hi (z5.1 0 87)
    rw [← hz6, sF_v, ti_sub (by omega) (by omega), k2, e1']; omega
  have a65 : (z6.1 0 65).toInt = (m : Int) := by rw [c6 _ _ (by omega), k8 65 (by decide) (by decide)]; exact z65
  refine pk_bw (m_push 7 a1 r4 a65) (fun z7 h7 => ?_)
  obtain ⟨hz7, hm6⟩ := h7
  have c7 : ∀ i l, z7.1 i l = if i = 0 ∧ l = 65 then z6.1 0 65 + 1 else if i = 39 ∧ l = m then r4 else if i = 38 ∧ l = m then a1 else if i = 37 ∧ l = m then 7 else z6.1 i l := by
    intro i l
    rw [hz7, sF_at, sF_at, sF_at, sF_at]
  have i65 : (z7.1 0 65).toInt = ((m + 1 : Nat) : Int) := by rw [c7, if_pos ⟨rfl, rfl⟩, ti_add (by omega) (by omega), a65, e1']; omega
  refine pk_bw (m_push 0 a2 0 i65) (fun z8 h8 => pk_some ?_)
  obtain ⟨hz8, _⟩ := h8
  have c8 : ∀ i l, z8.1 i l = if i = 0 ∧ l = 65 then z7.1 0 65 + 1 else if i = 39 ∧ l = m + 1 then 0 else if i = 38 ∧ l = m + 1 then a2 else if i = 37 ∧ l = m + 1 then 0 else z7.1 i l := by
    intro i l
    rw [hz8, sF_at, sF_at, sF_at, sF_at]
  have all : ∀ i l, ¬ (i = 0 ∧ l = 65) → ¬ (37 ≤ i ∧ i ≤ 39) → z8.1 i l = z6.1 i l := fun i l h1 h2 => by
    rw [c8, if_neg h1, if_neg (by omega), if_neg (by omega), if_neg (by omega), c7, if_neg h1, if_neg (by omega), if_neg (by omega), if_neg (by omega)]
  have g0 : ∀ k, k ≠ 65 → k ≠ 87 → k ≠ 88 → z8.1 0 k = z4.1 0 k := fun k h1 h2 h3 => by rw [all _ _ (by omega) (by omega), c6 _ _ (by omega), k8 k h2 h3]
  have gi : ∀ i k, i ≠ 0 → ¬ (37 ≤ i ∧ i ≤ 39) → ¬ (i = 53 ∧ k = o) → ¬ (i = 54 ∧ k = o) → ¬ ((46 ≤ i ∧ i ≤ 52) ∧ k = e1) → ¬ (i = 49 ∧ k = p0) → z8.1 i k = z4.1 i k := fun i k h1 h2 h3 h4 h5 h6 => by
    rw [all _ _ (by omega) h2, c6 _ _ h6, k9 i k h1 h3 h4 h5]
  have hpe : p0 < e1 := by omega
  refine ⟨e1, by omega, ⟨⟨k1, ho, ?_, ?_⟩, ⟨g0 89 (by decide) (by decide) (by decide), g0 93 (by decide) (by decide) (by decide), g0 66 (by decide) (by decide) (by decide), g0 90 (by decide) (by decide) (by decide)⟩, ⟨?_, ?_, ?_, ?_, ?_⟩, ⟨?_, fun k c1 c2 c3 c4 c5 c6 c7 c8 c9 c0 => g0 k c4 c6 c7, fun i k d1 d2 d3 d4 d5 d6 d7 d8 => ?_, gh_same (g0 56 (by decide) (by decide) (by decide)) (fun i k x1 x2 => gi i k (by omega) (by omega) (by omega) (by omega) (by omega) (by omega))⟩, fun i k d1 d2 d3 d4 => gi i k (by omega) (by omega) (by omega) (by omega) (by omega) d4⟩, ?_, ⟨?_, ?_, ?_⟩, ?_, ?_⟩
  · rw [all _ _ (by omega) (by omega), c6 _ _ (by omega)]; exact k2
  · rw [all _ _ (by omega) (by omega), c6 _ _ (by omega)]; exact k3
  · rw [all _ _ (by omega) (by omega), c6 _ _ (by omega)]; exact k4
  · rw [all _ _ (by omega) (by omega), c6 _ _ (by omega)]; exact k5
  · rw [all _ _ (by omega) (by omega)]; exact d6
  · rw [all _ _ (by omega) (by omega), c6 _ _ (by omega)]; exact k6
  · rw [all _ _ (by omega) (by omega), c6 _ _ (by omega)]; exact k7
  · rw [hz8, hz7, ← hz6]; exact k0
  · by_cases h37 : 37 ≤ i ∧ i ≤ 39
    · have : k < m := by omega
      rw [c8, if_neg (by omega), if_neg (by omega), if_neg (by omega), if_neg (by omega), c7, if_neg (by omega), if_neg (by omega), if_neg (by omega), if_neg (by omega)]
      rw [show z6.1 i k = z5.1 i k from by rw [← hz6, sF_at, if_neg (by omega)], k9 i k d1 (by omega) (by omega) (by omega)]
    · exact gi i k d1 h37 (by omega) (by omega) (by omega) (by omega)
  · rw [c8, if_pos ⟨rfl, rfl⟩, ti_add (by omega) (by omega), i65, e1']; omega
  · rw [c8, if_neg (by omega), if_neg (by omega), if_neg (by omega), if_neg (by omega), c7, if_neg (by omega), if_neg (by omega), if_neg (by omega), if_pos ⟨rfl, rfl⟩]
  · rw [c8, if_neg (by omega), if_neg (by omega), if_neg (by omega), if_neg (by omega), c7, if_neg (by omega), if_neg (by omega), if_pos ⟨rfl, rfl⟩]; exact h1
  · rw [c8, if_neg (by omega), if_neg (by omega), if_neg (by omega), if_neg (by omega), c7, if_neg (by omega), if_pos ⟨rfl, rfl⟩]
  · rw [c8, if_neg (by omega), if_neg (by omega), if_neg (by omega), if_pos ⟨rfl, rfl⟩]
  · rw [c8, if_neg (by omega), if_neg (by omega), if_pos ⟨rfl, rfl⟩]
def Cn8 (z6 : Mem) (yx y : Nat) : Prop := z6.1 30 yx ≠ 3 ∧ z6.1 30 yx = z6.1 30 y ∧ z6.1 31 yx = z6.1 31 y
theorem m_closetail {z6 : Mem} {m h hh yx y p0 o n : Nat} {a1 v1 r4 : Int32} (h1 : a1.toInt = (p0 : Int)) (hv : v1.toInt = (yx : Int)) (h4 : r4.toInt = (y : Int)) (h68 : z6.1 0 68 = 0) (ho : (z6.1 0 88).toInt = (o : Int)) (z65 : (z6.1 0 65).toInt = (m : Int)) (z66 : (z6.1 0 66).toInt = (hh : Int)) (hn : (z6.1 0 89).toInt = (n : Int)) (hn3 : n ≤ 300) (hp : (p0 : Int) < (z6.1 0 87).toInt) : pk (bd (bd (p_X12_item 14 z6) (fun r7 μ6 => gd (inb r7 960) (bv (sF μ6 48 r7.toNatClampNeg a1) (fun μ8 => bw (p_X12_operand r7 r4 μ8) (fun μ9 => some (r4, μ9)))))) (fun r3 μ2 => (if (μ2.1 0 68) = 0 then bw (p_X12_countInstruction a1 1 μ2) (fun μ20 => p_X12_whole_b31 a1 v1 r3 μ20) else p_X12_whole_b31 a1 v1 r3 μ2))) (fun z => (300 ≤ n ∧ z.1 0 68 = -2) ∨ (n < 300 ∧ ∃ (e2 : Nat) (zc : Mem), Ci8 h m p0 e2 o n (z6.1 30 y) (z6.1 31 y) z6 zc ∧ zc.1 0 65 = z6.1 0 65 ∧ ((Cn8 z6 yx y ∧ z = sF (sF zc 40 hh v1) 0 66 (zc.1 0 66 + 1)) ∨ (¬ Cn8 z6 yx y ∧ ∃ (yr : Nat) (zn : Mem) (r : Int32), Nn7 zc zn yr 3 (z6.1 0 93) ∧ r.toInt = (yr : Int) ∧ z = sF (sF zn 40 hh r) 0 66 (zn.1 0 66 + 1))))) := by
  have e1' : (1 : Int32).toInt = 1 := by decide
  refine pk_bd (m_mark (p0 := p0) h4 ho) ?_
  rintro r3 z7 ⟨er, e2, mk⟩
  have er : r3 = r4 := er
  have mk : Mk8 14 p0 e2 o (z6.1 30 y) (z6.1 31 y) z6 z7 := mk
  obtain ⟨⟨k1, k2, k3⟩, ⟨k4, k5, k6, k7⟩, k0, k8, k9⟩ := mk
  have hpe : p0 < e2 := by omega
  rw [if_pos (by rw [k8 68 (by decide) (by decide)]; exact h68), er]
  refine pk_bw (m_count (a2 := 1) h1 (by rw [k8 89 (by decide) (by decide)]; exact hn) hn3) (fun z8 h8 => ?_)
  rw [p_X12_whole_b31_eq]
  rcases h8 with ⟨g1, g2⟩ | ⟨g1, g2, g3, g4⟩
  · have e68 : z8.1 0 68 = -2 := by rw [g2, sF_v]
    rw [if_neg (by rw [e68]; decide)]
    exact pk_some (Or.inl ⟨g1, e68⟩)
  · rcases g4 with ⟨x, _⟩ | ⟨_, g4, g5, g6, g7⟩
    · exact absurd x (by decide)
    have e68 : z8.1 0 68 = 0 := by rw [g6 68 (by decide) (by decide), k8 68 (by decide) (by decide)]; exact h68
    rw [if_pos e68, tn_of h1]
    refine pk_gd (fun _ => pk_bvs (pk_bvs ?_))
    generalize hzc : sF (sF z8 50 p0 (z8.1 0 87 - 1)) 0 90 ((sF z8 50 p0 (z8.1 0 87 - 1)).1 0 90 - 1) = zc
    have c8 : ∀ i k, ¬ (i = 50 ∧ k = p0) → ¬ (i = 0 ∧ k = 90) → zc.1 i k = z8.1 i k := fun i k h h' => by rw [← hzc, sF_at, if_neg h', sF_at, if_neg h]
    have d90 : zc.1 0 90 = z6.1 0 90 - 1 := by rw [← hzc, sF_v, sF_i (by decide), g6 90 (by decide) (by decide), k8 90 (by decide) (by decide)]
    have d50 : (zc.1 50 p0).toInt = (e2 : Int) := by
      have hi := ti_hi (z7.1 0 87)
      have h87 : z8.1 0 87 = z7.1 0 87 := g6 87 (by decide) (by decide)
      rw [← hzc, sF_i (by decide), sF_v, ti_sub (by rw [h87]; omega) (by rw [h87]; omega), h87, k2, e1']; omega
    have g0 : ∀ k, k ≠ 87 → k ≠ 88 → k ≠ 89 → k ≠ 90 → k ≠ 93 → zc.1 0 k = z6.1 0 k := fun k h1 h2 h3 h4 h5 => by rw [c8 _ _ (by omega) (by omega), g6 k h3 h5, k8 k h1 h2]
    have gi : ∀ i k, i ≠ 0 → ¬ (i = 53 ∧ k = o) → ¬ (i = 54 ∧ k = o) → ¬ ((46 ≤ i ∧ i ≤ 52) ∧ k = e2) → ¬ (i = 50 ∧ k = p0) → ¬ (i = 47 ∧ k = p0) → zc.1 i k = z6.1 i k := fun i k h1 h2 h3 h4 h5 h6 => by
      rw [c8 _ _ h5 (by omega), g7 i k h1 h6, k9 i k h1 h2 h3 h4]
    have hci : Ci8 h m p0 e2 o n (z6.1 30 y) (z6.1 31 y) z6 zc := by
      refine ⟨⟨k1, ho, ?_, ?_⟩, ⟨?_, ?_, g0 66 (by decide) (by decide) (by decide) (by decide) (by decide), d90⟩, ⟨?_, ?_, d50, ?_, ?_, ?_⟩, ⟨?_, fun k c1 c2 c3 c4 c5 c6 c7 c8 c9 c0 => g0 k c6 c7 c8 c9 c0, fun i k d1 d2 d3 d4 d5 d6 d7 d8 => gi i k d1 (by omega) (by omega) (by omega) (by omega) (by omega), gh_same (g0 56 (by decide) (by decide) (by decide) (by decide) (by decide)) (fun i k x1 x2 => gi i k (by omega) (by omega) (by omega) (by omega) (by omega) (by omega))⟩, fun i k d1 d2 d3 d4 d5 => gi i k (by omega) (by omega) (by omega) (by omega) d4 d5⟩
      · rw [c8 _ _ (by omega) (by omega), g6 87 (by decide) (by decide)]; exact k2
      · rw [c8 _ _ (by omega) (by omega), g6 88 (by decide) (by decide)]; exact k3
      · rw [c8 _ _ (by omega) (by omega)]; exact g3
      · rw [c8 _ _ (by omega) (by omega), g4, k8 93 (by decide) (by decide)]
      · rw [c8 _ _ (by omega) (by omega), g7 46 e2 (by decide) (by omega)]; exact k4
      · rw [c8 _ _ (by omega) (by omega), g7 51 e2 (by decide) (by omega)]; exact k5
      · rw [c8 _ _ (by omega) (by omega), g5, k8 93 (by decide) (by decide)]
      · rw [c8 _ _ (by omega) (by omega), g7 53 o (by decide) (by omega)]; exact k6
      · rw [c8 _ _ (by omega) (by omega), g7 54 o (by decide) (by omega)]; exact k7
      · rw [← hzc]; exact g2.trans k0
    have d47 : zc.1 47 p0 = z6.1 0 93 := hci.2.2.1.2.2.2.1
    have s30 : ∀ i k, i = 30 ∨ i = 31 → zc.1 i k = z6.1 i k := fun i k hi => gi i k (by omega) (by omega) (by omega) (by omega) (by omega) (by omega)
    have w66 : (zc.1 0 66).toInt = (hh : Int) := by rw [g0 66 (by decide) (by decide) (by decide) (by decide) (by decide)]; exact z66
    have w65 : zc.1 0 65 = z6.1 0 65 := g0 65 (by decide) (by decide) (by decide) (by decide) (by decide)
    have reg : ¬ Cn8 z6 yx y → pk (p_X12_whole_b103 a1 v1 zc) (fun z => (300 ≤ n ∧ z.1 0 68 = -2) ∨ (n < 300 ∧ ∃ (e2 : Nat) (zc : Mem), Ci8 h m p0 e2 o n (z6.1 30 y) (z6.1 31 y) z6 zc ∧ zc.1 0 65 = z6.1 0 65 ∧ ((Cn8 z6 yx y ∧ z = sF (sF zc 40 hh v1) 0 66 (zc.1 0 66 + 1)) ∨ (¬ Cn8 z6 yx y ∧ ∃ (yr : Nat) (zn : Mem) (r : Int32), Nn7 zc zn yr 3 (z6.1 0 93) ∧ r.toInt = (yr : Int) ∧ z = sF (sF zn 40 hh r) 0 66 (zn.1 0 66 + 1))))) := by
      intro hc
      rw [p_X12_whole_b103_eq, p_X12_whole_b104_eq, if_pos rfl]
      refine pk_bd (P := fun r => ∃ y : Nat, r.1.toInt = (y : Int) ∧ Nn7 zc r.2 y 3 (z6.1 0 93)) ?_ ?_
      · rw [p_X12_registerOf_eq, tn_of h1, d47]
        refine pk_gd (fun _ => pk_bd (m_node 3 (z6.1 0 93) zc) ?_)
        rintro r μ2 ⟨yy, hy, hN⟩
        exact pk_some ⟨yy, hy, hN⟩
      · rintro r μ8 ⟨yy, hy, hN⟩
        have hN : Nn7 zc μ8 yy 3 (z6.1 0 93) := hN
        exact pk_bw (m_come r (n := hh) (by rw [hN.2.2.2.2.2.2.2.2.2.1 66 (by decide)]; exact w66)) (fun q hq => pk_some (Or.inr ⟨g1, e2, zc, hci, w65, Or.inr ⟨hc, yy, μ8, r, hN, hy, hq.1⟩⟩))
    refine m_known2 hv (fun r9 hr9 => ?_)
    rw [s30 30 yx (Or.inl rfl)] at hr9
    refine pk_ite (fun c => reg (fun hc => hc.1 (hr9.mp c))) (fun c => ?_)
    rw [tn_of hv, tn_of h4, s30 30 yx (Or.inl rfl), s30 30 y (Or.inl rfl), s30 31 yx (Or.inr rfl), s30 31 y (Or.inr rfl)]
    refine pk_gd (fun _ => pk_gd (fun _ => pk_ite (fun c2 => pk_gd (fun _ => pk_gd (fun _ => pk_ite (fun c3 => ?_) (fun c3 => reg (fun hc => c3 hc.2.2))))) (fun c2 => reg (fun hc => c2 hc.2.1))))
    rw [p_X12_whole_b104_eq, if_neg (by decide)]
    exact pk_bw (m_come v1 w66) (fun q hq => pk_some (Or.inr ⟨g1, e2, zc, hci, w65, Or.inl ⟨⟨fun e => c (hr9.mpr e), c2, c3⟩, hq.1⟩⟩))
end

section
def Kb8 (μ q : Mem) : Prop := q.1 137 6 = μ.1 137 6 ∧ q.2.2 = μ.2.2
theorem Kb8.tr {μ q z : Mem} (a : Kb8 μ q) (b : Kb8 q z) : Kb8 μ z := ⟨b.1.trans a.1, b.2.trans a.2⟩
theorem c_isBlock_any (a1 : Int32) (μ : Mem) : pk (p_X5_isBlock a1 μ) (fun r => r.2 = μ) := by
  rw [p_X5_isBlock_eq]
  exact pk_ite (fun _ => pk_some rfl) (fun _ => pk_ite (fun _ => pk_some rfl) (fun _ => pk_some rfl))
theorem c_endBlock_any (a1 : Int32) (x : Int64) (μ : Mem) : pk (p_X5_endBlock a1 x μ) (Kb8 μ) := by
  rw [p_X5_endBlock_eq]
  refine pk_bd (c_isBlock_any a1 μ) ?_
  rintro r2 μ1 e
  have e : μ1 = μ := e
  rw [e]
  exact pk_ite (fun _ => pk_some ⟨rfl, rfl⟩) (fun _ => pk_gd (fun _ => pk_bvs (pk_some ⟨rfl, rfl⟩)))
theorem c_addBlock_any (μ : Mem) : pk (p_X5_addBlock μ) (fun r => Kb8 μ r.2) := by
  rw [p_X5_addBlock_eq]
  refine pk_ite (fun _ => ?_) (fun _ => ?_)
  · refine pk_gd (fun _ => pk_bvs (pk_gd (fun _ => pk_bvs (pk_gd (fun _ => pk_bvs (pk_bvs (pk_some ⟨?_, rfl⟩)))))))
    rw [sF_i (by decide), sL_1, sF_i (by decide), sF_i (by decide)]
  · exact pk_some ⟨rfl, rfl⟩
theorem c_setBranch_any (a x : Int32) (μ : Mem) : pk (p_X10_setBranch a x μ) (Kb8 μ) := by
  rw [p_X10_setBranch_eq]
  exact pk_ite (fun _ => pk_some ⟨rfl, rfl⟩) (fun _ => pk_gd (fun _ => pk_bvs (pk_some ⟨by rw [sF_i (by decide)], rfl⟩)))
theorem c_branch_any (a : Int32) (μ : Mem) : pk (p_X10_branch a μ) (fun r => r.2 = μ) := by
  rw [p_X10_branch_eq]
  exact pk_ite (fun _ => pk_gd (fun _ => pk_some rfl)) (fun _ => pk_some rfl)
theorem c_closeBranch_any (μ : Mem) : pk (p_X10_closeBranch μ) (Kb8 μ) := by
  rw [p_X10_closeBranch_eq]
  exact pk_bvs (pk_some ⟨by rw [sF_k (by decide)], rfl⟩)
theorem c_midtail {q4 : Mem} {B B2 bc : Nat} {x8 : Int32} {r7 : Int64} (h8 : x8.toInt = (B : Int)) (hB : (B : Int) < (q4.1 39 6).toInt) (hB2 : (q4.1 39 6).toInt = (B2 : Int)) (h672 : B2 < 672) (h12 : (q4.1 137 12).toInt = ((bc + 1 : Nat) : Int)) (hbc : bc < 260) : pk (bw (p_X5_endBlock x8 r7 q4) (fun μ8 => bd (p_X5_addBlock μ8) (fun r11 μ10 => bv (sF μ10 137 8 r11) (fun μ12 => bw (p_X10_setBranch 2 (μ12.1 137 8) μ12) (fun μ13 => some μ13))))) (fun q8 => ∃ q6, Nb7 B2 (sL q4 44 B r7) q6 ∧ q8 = sF (sF q6 137 8 (nI B2)) 138 (3 * bc + 2) (nI B2)) := by
  have e2 : (2 : Int32).toInt = ((2 : Nat) : Int) := by decide
  refine pk_bwv (c_endBlock r7 h8 hB) ?_
  refine pk_bd (c_addBlock (μ := sL q4 44 B r7) (B := B2) hB2 h672) ?_
  rintro r11 q6 ⟨g1, g2⟩
  have g1 : r11 = nI B2 := g1
  have g2 : Nb7 B2 (sL q4 44 B r7) q6 := g2
  refine pk_bvs ?_
  rw [g1, sF_v]
  have c12 : ((sF q6 137 8 (nI B2)).1 137 12).toInt = ((bc + 1 : Nat) : Int) := by
    rw [sF_k (by decide), g2.2.2.2.2.2.2 137 12 (by decide) (by decide) (by decide)]; exact h12
  exact pk_bw (c_setBranch (nI B2) c12 hbc e2 (by decide)) (fun q8 h => pk_some ⟨q6, g2, h⟩)
theorem c_midtail_bad {q4 : Mem} {x8 : Int32} {r7 : Int64} : pk (bw (p_X5_endBlock x8 r7 q4) (fun μ8 => bd (p_X5_addBlock μ8) (fun r11 μ10 => bv (sF μ10 137 8 r11) (fun μ12 => bw (p_X10_setBranch 2 (μ12.1 137 8) μ12) (fun μ13 => some μ13))))) (Kb8 q4) := by
  refine pk_bw (c_endBlock_any x8 r7 q4) (fun μ8 h8 => ?_)
  refine pk_bd (c_addBlock_any μ8) ?_
  rintro r11 μ10 h10
  have h10 : Kb8 μ8 μ10 := h10
  refine pk_bvs (pk_bw (c_setBranch_any _ _ _) (fun q hq => pk_some ?_))
  have hb : Kb8 μ10 (sF μ10 137 8 r11) := ⟨by rw [sF_k (by decide)], rfl⟩
  exact ((h8.tr h10).tr hb).tr hq
noncomputable def cend (x8 r2 r4 : Int32) (r12 : Int64) (μ11 : Mem) : Option Mem := bw (p_X5_endBlock x8 r12 μ11) (fun μ13 => bd (p_X10_branch 0 μ13) (fun r16 μ15 => bv (sF μ15 137 8 r16) (fun μ17 => gd (inb ((μ17.1 137 12) - 1) 260) (bd (p_X10_leave 6 0 (μ17.2.1 139 ((μ17.1 137 12) - 1).toNatClampNeg) (0 : Int64) μ17) (fun r19 μ18 => bw (p_X10_closeBranch μ18) (fun μ20 => bv (sF μ20 137 13 ((μ20.1 137 13) - 1)) (fun μ22 => (if (μ22.1 137 6) = 0 then bw (p_X5_setCell ((μ22.1 39 1) - 1) 3 r2 μ22) (fun μ24 => bw (p_X5_setCell ((μ24.1 39 1) - 1) 4 r4 μ24) (fun μ26 => bd (p_X5_endOf r2 μ26) (fun r29 μ28 => (if (s_X0_isKnown r29) = 0 then bw (p_X8_push r19 μ28) (fun μ31 => some μ31) else bd (p_X5_endOf r4 μ28) (fun r34 μ33 => (if (lg_cmp r29 r34) = 0 then bw (p_X8_push r29 μ33) (fun μ38 => some μ38) else bw (p_X8_push r19 μ33) (fun μ36 => some μ36))))))) else some μ22))))))))
theorem cend_bad {x8 r2 r4 : Int32} {r12 : Int64} {μ : Mem} (hb : μ.1 137 6 = -2) : pk (cend x8 r2 r4 r12 μ) (Kb8 μ) := by
  unfold cend
  refine pk_bw (c_endBlock_any x8 r12 μ) (fun μ13 h13 => ?_)
  refine pk_bd (c_branch_any 0 μ13) ?_
  rintro r16 μ15 e
  have e : μ15 = μ13 := e
  rw [e]
  refine pk_bvs (pk_gd (fun _ => ?_))
  have k17 : Kb8 μ13 (sF μ13 137 8 r16) := ⟨by rw [sF_k (by decide)], rfl⟩
  have n17 : (sF μ13 137 8 r16).1 137 6 ≠ 0 := by rw [k17.1, h13.1, hb]; decide
  refine pk_bd (c_leave_bad n17) ?_
  rintro r19 μ18 e
  have e : μ18 = sF μ13 137 8 r16 := e
  rw [e]
  refine pk_bw (c_closeBranch_any _) (fun μ20 h20 => pk_bvs ?_)
  have k22 : Kb8 μ20 (sF μ20 137 13 (μ20.1 137 13 - 1)) := ⟨by rw [sF_k (by decide)], rfl⟩
  have ka := ((h13.tr k17).tr h20).tr k22
  rw [if_neg (by rw [ka.1, hb]; decide)]
  exact pk_some ka
theorem lg_eq {x y : Int64} : lg_cmp x y = 0 ↔ x = y := by
  unfold lg_cmp
  constructor
  · intro h
    by_cases c1 : x > y
    · rw [if_pos c1] at h; exact absurd h (by decide)
    · rw [if_neg c1] at h
      by_cases c2 : x = y
      · exact c2
      · rw [if_neg c2] at h; exact absurd h (by decide)
  · intro h
    subst h
    rw [if_neg (show ¬ x > x from Int64.lt_irrefl), if_pos rfl]
theorem cend_ok {q6 : Mem} {b B B2 bc n v h : Nat} {x8 r2 r4 : Int32} {x1 x cond : Int64} {m1 m2 : Nat} {c1 c2 : Int32} (h8 : x8.toInt = (B2 : Int)) (hr2 : r2 = nI B) (hr4 : r4 = nI B2) (hBB : B < B2) (h6 : (B2 : Int) < (q6.1 39 6).toInt) (h62 : (q6.1 39 6).toInt ≤ 672) (hbB : b < B) (h12 : (q6.1 137 12).toInt = ((bc + 1 : Nat) : Int)) (hbc : bc < 260) (h138 : q6.1 138 (3 * bc) = nI b) (h139 : q6.2.1 139 bc = cond) (s1 : q6.1 137 6 = 0) (s2 : (q6.1 137 7).toInt = (v : Int)) (s4 : (v : Int) < (q6.1 39 2).toInt) (s5 : v < 24) (hn : (q6.1 39 1).toInt = (n : Int)) (hl : q6.1 43 b ≠ -1 → ∃ l : Nat, (q6.1 43 b).toInt = (l : Int) ∧ l < n) (h7 : (q6.1 30 7).toInt = (h : Int)) (hh : h < 2480) (h44 : q6.2.1 44 B = x1) (hm1 : m1 = 0 ∨ m1 = 1 ∨ m1 = 3) (hm2 : m2 = 0 ∨ m2 = 1 ∨ m2 = 3) (e1 : x1 = s_X0_make (nI m1) c1) (e2 : x = s_X0_make (nI m2) c2) : pk (cend x8 r2 r4 x q6) (fun q => (300 ≤ n ∧ q.1 137 6 = -2 ∧ q.2.2 = q6.2.2) ∨ (n < 300 ∧ ∃ q7 q9 qc, q7 = sF (sL q6 44 B2 x) 137 8 (nI b) ∧ Lv7 6 0 cond 0 v b n q7 q9 ∧ qc = sF (sF (sF (sF q9 137 12 (q9.1 137 12 - 1)) 137 13 (q9.1 137 13 - 1)) 40 (8 * n + 3) (nI B)) 40 (8 * n + 4) (nI B2) ∧ (((m1 ≤ 1 ∧ m1 = m2 ∧ c1 = c2) ∧ q = sF (sL qc 36 h x1) 30 7 (qc.1 30 7 + 1)) ∨ (¬ (m1 ≤ 1 ∧ m1 = m2 ∧ c1 = c2) ∧ q = sF (sL qc 36 h (s_X0_make (nI 3) (q7.1 45 (4 * v + 2)))) 30 7 (qc.1 30 7 + 1))))) := by
  have i1 : (1 : Int32).toInt = 1 := by decide
  have i0 : (0 : Int32).toInt = ((0 : Nat) : Int) := by decide
  have i3 : (3 : Int32).toInt = ((3 : Nat) : Int) := by decide
  have i4 : (4 : Int32).toInt = ((4 : Nat) : Int) := by decide
  unfold cend
  refine pk_bwv (c_endBlock x h8 h6) ?_
  have k12 : ((sL q6 44 B2 x).1 137 12).toInt = ((bc + 1 : Nat) : Int) := h12
  refine pk_bdv (r0 := nI b) (μ0 := sL q6 44 B2 x) (pk_mono (c_branch (c := 0) k12 hbc i0 (by decide)) (fun r hr => ⟨by rw [hr.1]; exact h138, hr.2⟩)) ?_
  refine pk_bvs ?_
  generalize hq7 : sF (sL q6 44 B2 x) 137 8 (nI b) = q7
  have d7 : ∀ i k, ¬ (i = 137 ∧ k = 8) → q7.1 i k = q6.1 i k := fun i k hh => by rw [← hq7, sF_at, if_neg hh]; rfl
  have d7l : ∀ i k, i ≠ 44 → q7.2.1 i k = q6.2.1 i k := fun i k hh => by rw [← hq7]; show (sL q6 44 B2 x).2.1 i k = _; rw [sL_at, if_neg (fun e => hh e.1)]
  have ix : (q7.1 137 12 - 1).toInt = (bc : Int) := by rw [d7 137 12 (by omega), ti_sub (by omega) (by omega), h12, i1]; omega
  rw [tn_of ix, d7l 139 bc (by decide), h139]
  refine pk_gd (fun _ => ?_)
  have d8 : (q7.1 137 8).toInt = (b : Int) := by rw [← hq7, sF_v]; exact ni_ti (by omega)
  refine pk_bd (c_leave (x := cond) (y := 0) (v := v) (b := b) (n := n) (by rw [d7 _ _ (by omega)]; exact s1) (by rw [d7 _ _ (by omega)]; exact s2) d8 (by rw [d7 _ _ (by omega)]; exact s4) s5 (by rw [d7 _ _ (by omega)]; omega) (by rw [d7 _ _ (by omega)]; exact hn) (by rw [d7 _ _ (by omega)]; exact hl)) ?_
  rintro r19 μ18 (⟨j1, j2, j3⟩ | ⟨j1, j2, j3⟩)
  · have j3 : μ18 = sF q7 137 6 (-2) := j3
    refine pk_bw (c_closeBranch_any μ18) (fun μ20 h20 => pk_bvs ?_)
    have k6 : (sF μ20 137 13 (μ20.1 137 13 - 1)).1 137 6 = -2 := by rw [sF_k (by decide), h20.1, j3, sF_v]
    rw [if_neg (by rw [k6]; decide)]
    exact pk_some (Or.inl ⟨j1, k6, by show μ20.2.2 = _; rw [h20.2, j3, ← hq7]; rfl⟩)
  · have j2 : r19 = s_X0_make (nI 3) (if (6 : Int32) = 7 then -1 else q7.1 45 (4 * v + 2)) := j2
    have j3 : Lv7 6 0 cond 0 v b n q7 μ18 := j3
    rw [if_neg (by decide)] at j2
    have fx := j3.fx
    have k12' : (μ18.1 137 12).toInt = ((bc + 1 : Nat) : Int) := by rw [fx.2.1 137 12 (by decide) (by decide) (by decide) (by decide) (by decide), d7 _ _ (by omega)]; exact h12
    refine pk_bwv (c_closeBranch k12') (pk_bvs ?_)
    generalize hq11 : sF (sF μ18 137 12 (μ18.1 137 12 - 1)) 137 13 ((sF μ18 137 12 (μ18.1 137 12 - 1)).1 137 13 - 1) = q11
    have e13 : (sF μ18 137 12 (μ18.1 137 12 - 1)).1 137 13 = μ18.1 137 13 := by rw [sF_k (by decide)]
    rw [e13] at hq11
    have d11 : ∀ i k, ¬ (i = 137 ∧ (k = 12 ∨ k = 13)) → q11.1 i k = μ18.1 i k := fun i k hh => by rw [← hq11, sF_at, if_neg (by omega), sF_at, if_neg (by omega)]
    have k6 : q11.1 137 6 = 0 := by rw [d11 _ _ (by omega), fx.2.1 137 6 (by decide) (by decide) (by decide) (by decide) (by decide), d7 _ _ (by omega)]; exact s1
    rw [if_pos k6]
    obtain ⟨w, hA, qi, _, ql⟩ := j3
    have hA' := hA
    obtain ⟨_, w1, wk, _⟩ := hA'
    have n1 : (q11.1 39 1).toInt = ((n + 1 : Nat) : Int) := by
      rw [d11 _ _ (by omega), qi, w1, d7 _ _ (by omega), ti_add (by omega) (by omega), hn, i1]; omega
    have ixn : (q11.1 39 1 - 1).toInt = (n : Int) := by rw [ti_sub (by omega) (by omega), n1, i1]; omega
    refine pk_bwv (c_setCell r2 ixn i3 (by rw [n1]; omega) j1 (by decide)) ?_
    have n2 : ((sF q11 40 (8 * n + 3) r2).1 39 1 - 1).toInt = (n : Int) := by rw [sF_i (by decide)]; exact ixn
    refine pk_bwv (c_setCell r4 n2 i4 (by rw [sF_i (by decide), n1]; omega) j1 (by decide)) ?_
    rw [hr2, hr4]
    generalize hqc : sF (sF q11 40 (8 * n + 3) (nI B)) 40 (8 * n + 4) (nI B2) = qc
    have dc : ∀ i k, i ≠ 40 → qc.1 i k = q11.1 i k := fun i k hh => by rw [← hqc, sF_i hh, sF_i hh]
    have dcl : ∀ k, qc.2.1 44 k = q7.2.1 44 k := fun k => by
      rw [← hqc, ← hq11]; show μ18.2.1 44 k = _
      rw [fx.2.2.2.2 44 k (by decide)]
    have c39 : qc.1 39 6 = q6.1 39 6 := by rw [dc _ _ (by decide), d11 _ _ (by omega), qi, wk 6 (by decide), d7 _ _ (by omega)]
    have l1 : qc.2.1 44 B = x1 := by rw [dcl, ← hq7]; show (sL q6 44 B2 x).2.1 44 B = _; rw [sL_at, if_neg (by omega)]; exact h44
    have l2 : qc.2.1 44 B2 = x := by rw [dcl, ← hq7]; show (sL q6 44 B2 x).2.1 44 B2 = _; rw [sL_at, if_pos ⟨rfl, rfl⟩]
    have hlv : Lv7 6 0 cond 0 v b n q7 μ18 := ⟨w, hA, qi, by assumption, ql⟩
    have k7 : (qc.1 30 7).toInt = (h : Int) := by rw [dc _ _ (by decide), d11 _ _ (by omega), fx.2.1 30 7 (by decide) (by decide) (by decide) (by decide) (by decide), d7 _ _ (by omega)]; exact h7
    have base : qc = sF (sF (sF (sF μ18 137 12 (μ18.1 137 12 - 1)) 137 13 (μ18.1 137 13 - 1)) 40 (8 * n + 3) (nI B)) 40 (8 * n + 4) (nI B2) := by rw [← hqc, ← hq11]
    refine pk_bdv (r0 := x1) (μ0 := qc) (pk_mono (c_endOf (B := B) (ni_ti (by omega)) (by rw [c39]; omega)) (fun r hr => ⟨by rw [hr.1]; exact l1, hr.2⟩)) ?_
    have reg : ¬ (m1 ≤ 1 ∧ m1 = m2 ∧ c1 = c2) → pk (bw (p_X8_push r19 qc) (fun μ31 => some μ31)) (fun q => (300 ≤ n ∧ q.1 137 6 = -2 ∧ q.2.2 = q6.2.2) ∨ (n < 300 ∧ ∃ q7_1 q9 qc, q7_1 = q7 ∧ Lv7 6 0 cond 0 v b n q7_1 q9 ∧ qc = sF (sF (sF (sF q9 137 12 (q9.1 137 12 - 1)) 137 13 (q9.1 137 13 - 1)) 40 (8 * n + 3) (nI B)) 40 (8 * n + 4) (nI B2) ∧ (((m1 ≤ 1 ∧ m1 = m2 ∧ c1 = c2) ∧ q = sF (sL qc 36 h x1) 30 7 (qc.1 30 7 + 1)) ∨ (¬ (m1 ≤ 1 ∧ m1 = m2 ∧ c1 = c2) ∧ q = sF (sL qc 36 h (s_X0_make (nI 3) (q7_1.1 45 (4 * v + 2)))) 30 7 (qc.1 30 7 + 1))))) := fun hc => pk_bw (c_push r19 k7 hh) (fun q hq => pk_some (Or.inr ⟨j1, q7, μ18, qc, rfl, hlv, base, Or.inr ⟨hc, by rw [hq, j2]⟩⟩))
    refine pk_ite (fun cu => reg (fun hc => ?_)) (fun cu => ?_)
    · rw [e1] at cu
      exact isk_le c1 hc.1 cu
    · refine pk_bdv (r0 := x) (μ0 := qc) (pk_mono (c_endOf (B := B2) (ni_ti (by omega)) (by rw [c39]; omega)) (fun r hr => ⟨by rw [hr.1]; exact l2, hr.2⟩)) ?_
      have hm1' : m1 ≤ 1 := by
        rcases hm1 with e | e | e
        · omega
        · omega
        · exfalso; rw [e1, e] at cu; exact cu (isk_3 c1)
      refine pk_ite (fun ce => ?_) (fun ce => reg (fun hc => ce ?_))
      · have heq := lg_eq.mp ce
        rw [e1, e2] at heq
        obtain ⟨g1, g2⟩ := mk_inj (by omega) (by omega) heq
        exact pk_bw (c_push x1 k7 hh) (fun q hq => pk_some (Or.inr ⟨j1, q7, μ18, qc, rfl, hlv, base, Or.inl ⟨⟨hm1', g1, g2⟩, hq⟩⟩))
      · rw [lg_eq, e1, e2, hc.2.1, hc.2.2]
end

section
theorem W9.opk {P : Nat} {C : List Th3} {G : List Fn5} {v b a h D m m2 bc ob : Nat} {N : List Int32} {q2 z2 qb q z : Mem} {It Bk : List Nat} {cl : Nat → Prop} {u : Int64} {one pc : Int32} (W : W9 P C G v b a h D N m bc ob q2 z2 It Bk cl) (hob : Ob7 bc u one q2 qb) (hq : q = sF qb 137 9 pc) (fm : Qm8 h m z2 z) (hm2 : (z.1 0 65).toInt = (m2 : Int)) (h66 : z.1 0 66 = z2.1 0 66) : W9 P C G v b a h D N m2 (bc + 1) ob q z It Bk cl ∧ (∀ B, F9 v b B h D N.length bc m q2 z2 It Bk cl q z It Bk cl) ∧ q.1 138 (3 * bc + 1) = one ∧ Hx8 v h bc q2 q := by
  have hx : Hx8 v h bc q2 q := by rw [hq]; exact (hob.hx (Nat.le_refl _)).tr (Hx8.w _ (by omega))
  have hm : Hm8 h m 0 0 z2 z := (Qm8.cm fm).hm
  obtain ⟨o1, o2, o3, o4, o5, o6⟩ := hob
  have f : ∀ i k, i ≠ 137 → i ≠ 138 → q.1 i k = q2.1 i k := fun i k a1 a2 => by rw [hq, sF_i a1, o6 i k a1 a2]
  have f137 : ∀ k, k ≠ 9 → k ≠ 12 → q.1 137 k = q2.1 137 k := fun k a1 a2 => by rw [hq, sF_k a1, o3 k a2]
  have fl : ∀ i k, i ≠ 139 → q.2.1 i k = q2.2.1 i k := fun i k hi => by rw [hq]; show qb.2.1 i k = _; rw [o5, if_neg (fun e => hi e.1)]
  have sc : Sc8 q2 z2 q z := ⟨fun k => f 40 k (by decide) (by decide), fun k => fl 44 k (by decide), ⟨fm.2.1 87 (by decide) (by decide) (by decide) (by decide) (by decide), fm.2.1 88 (by decide) (by decide) (by decide) (by decide) (by decide)⟩, fun i k x1 x2 => fm.2.2.1 i k (by omega) (by omega) (by omega) (by omega)⟩
  have R : Re7 q z It Bk cl v b a := W.1.1.of (fun i k hi => f i k (by omega) (by omega)) (fun k hk => f137 k (by omega) (by omega)) (fun i k hi => fl i k (by omega)) (fun k hk => fm.2.1 k (by omega) (by omega) (by omega) (by omega) (by omega)) (fun i k a1 a2 _ _ => fm.2.2.1 i k (by omega) (by omega) (by omega) (by omega))
  obtain ⟨c12, c13, c90⟩ := W.1.2.2.2.2.2.2.1
  refine ⟨W.hop hx hm R (fun x hx => by rw [f 39 6 (by decide) (by decide)]; exact W.1.2.1 x hx) ?_ hm2 ?_ ?_ ?_ (fun x hx => by rw [f 39 6 (by decide) (by decide)]; exact W.2.2.2.1 x hx) ?_ ?_, fun B => F9.hop (Gw8.same sc) hx hm (Nat.le_refl _) (Nat.le_refl _) (Nat.le_refl _) (by rw [f 39 6 (by decide) (by decide)]; exact Nat.le_refl _) (by rw [f 39 6 (by decide) (by decide), f 39 1 (by decide) (by decide)]; omega), ?_, hx⟩
  · exact W.1.2.2.1.of hx.2.2.2.2.2.2.2.2 fm.2.2.2 (f 30 7 (by decide) (by decide)) h66 (fun k hk => fl 36 k (by decide)) (fun k hk => fm.2.2.1 40 k (by decide) (by omega) (by omega) (by omega))
  · rw [hq, sF_k (by decide)]; exact o2
  · rw [f137 13 (by decide) (by decide)]; exact c13
  · rw [fm.2.1 90 (by decide) (by decide) (by decide) (by decide) (by decide)]; exact c90
  · rw [f 39 6 (by decide) (by decide), f 39 2 (by decide) (by decide)]; exact W.2.2.2.2.1
  · intro u2 hu2
    rw [f 39 2 (by decide) (by decide), f 45 _ (by decide) (by decide), W.2.2.2.2.2.2 u2 hu2]
    unfold Ct9
    have e46 : z.1 46 = z2.1 46 := funext (fun k => sc.2.2.2 46 k (by decide) (by decide))
    have e48 : z.1 48 = z2.1 48 := funext (fun k => sc.2.2.2 48 k (by decide) (by decide))
    rw [e46, e48]
  · rw [hq, sF_i (by decide), o4, if_neg (by omega), if_pos rfl]
theorem W9.clk {P : Nat} {C : List Th3} {G : List Fn5} {v b a h D m bc ob : Nat} {N : List Int32} {q z q' : Mem} {It Bk : List Nat} {cl : Nat → Prop} (W : W9 P C G v b a h D N m (bc + 1) ob q z It Bk cl) (h2 : q'.2 = q.2) (f : ∀ i k, ¬ (i = 137 ∧ (k = 9 ∨ k = 12)) → q'.1 i k = q.1 i k) (h12 : (q'.1 137 12).toInt = (bc : Int)) : W9 P C G v b a h D N m bc ob q' z It Bk cl ∧ (∀ B, F9 v b B h D N.length bc m q z It Bk cl q' z It Bk cl) := by
  have hx : Hx8 v h bc q q' := ⟨by rw [h2], fun i k _ _ _ _ _ _ _ _ c9 _ => f i k (fun e => c9 e.1), fun k _ _ => f 30 k (by omega), fun k _ c2 c3 _ => f 137 k (by omega), fun k _ _ => f 39 k (by omega), fun k _ => f 45 k (by omega), fun k _ => f 138 k (by omega), fun i k _ _ _ _ _ _ => by rw [h2], gs_same (f 30 5 (by omega)) (fun k => by rw [h2]) (fun k => by rw [h2]) (fun k => f 33 k (by omega)) (fun k => f 34 k (by omega))⟩
  have sc : Sc8 q z q' z := ⟨fun k => f 40 k (by omega), fun k => by rw [h2], ⟨rfl, rfl⟩, fun _ _ _ _ => rfl⟩
  have R : Re7 q' z It Bk cl v b a := W.1.1.of (fun i k hi => f i k (by omega)) (fun k hk => f 137 k (by omega)) (fun i k hi => by rw [h2]) (fun k hk => rfl) (fun i k a1 a2 _ _ => rfl)
  have hm : Hm8 h m 0 0 z z := (Qm8.cm (Qm8.rf (h := h) (m := m))).hm
  obtain ⟨c12, c13, c90⟩ := W.1.2.2.2.2.2.2.1
  refine ⟨W.hop hx hm R (fun x hx => by rw [f 39 6 (by omega)]; exact W.1.2.1 x hx) ?_ W.x65 h12 ?_ c90 (fun x hx => by rw [f 39 6 (by omega)]; exact W.2.2.2.1 x hx) ?_ ?_, fun B => F9.hop (Gw8.same sc) hx hm (Nat.le_refl _) (Nat.le_refl _) (Nat.le_refl _) (by rw [f 39 6 (by omega)]; exact Nat.le_refl _) (by rw [f 39 6 (by omega), f 39 1 (by omega)]; omega)⟩
  · exact W.1.2.2.1.of hx.2.2.2.2.2.2.2.2 Gh7.rf (f 30 7 (by omega)) rfl (fun k hk => by rw [h2]) (fun k hk => rfl)
  · rw [f 137 13 (by omega)]; exact c13
  · rw [f 39 6 (by omega), f 39 2 (by omega)]; exact W.2.2.2.2.1
  · intro u2 hu2
    rw [f 39 2 (by omega), f 45 _ (by omega)]; exact W.2.2.2.2.2.2 u2 hu2
theorem k_close {β : Type} {K : Mem → Option β} {Post : Int32 × Mem → β → Prop} {P : Nat} {C : List Th3} {G : List Fn5} {v b a h D m bc ob nn fu x t : Nat} {N : List Int32} {q z : Mem} {It Bk : List Nat} {cl : Nat → Prop} {a1 mk : Int32} {X Y : Int} (W : W9 P C G v b a h D N m (bc + 1) ob q z It Bk cl) (hk : (C[x]? = some (7, mk, 0) ∧ mk.toInt = (t : Int)) ∨ (C[x]? = some (8, 0, 0) ∧ t = x + 1)) (hpc : (q.1 137 9).toInt = (x : Int)) (h138 : q.1 138 (3 * bc + 1) = -1) (hbc : bc < 260) (hbu : Bu9 a1 q X Y) (hX : X + 1 ≤ 1000000) (hK : ∀ q' n, W9 P C G v b a h D N m bc ob q' z It Bk cl → (∀ B, F9 v b B h D N.length bc m q z It Bk cl q' z It Bk cl) → (q'.1 137 9).toInt = (t : Int) → Bu9 (a1 + 1) q' (X + 1) Y → Rn9 K Post n (a1 + 1) q' fu z) : Rn9 K Post nn a1 q fu z := by
  have e1 : (1 : Int32).toInt = 1 := by decide
  have e1n : (1 : Int32).toInt = ((1 : Nat) : Int) := by decide
  have e2n : (2 : Int32).toInt = ((2 : Nat) : Int) := by decide
  obtain ⟨c12, c13, c90⟩ := W.1.2.2.2.2.2.2.1
  have hCl : C.length ≤ 2472 := W.2.1.2.2.2.1
  refine op_runx W hbu hX (A := fun q' => q'.2 = q.2 ∧ (∀ i k, ¬ (i = 137 ∧ (k = 9 ∨ k = 12)) → q'.1 i k = q.1 i k) ∧ (q'.1 137 12).toInt = (bc : Int) ∧ (q'.1 137 9).toInt = (t : Int)) ?_ ?_
  · generalize hq0 : sF q 137 9 (q.1 137 9 + 1) = q0
    have d0 : ∀ i k, ¬ (i = 137 ∧ k = 9) → q0.1 i k = q.1 i k := fun i k hh => by rw [← hq0, sF_at, if_neg hh]
    have k12 : (q0.1 137 12).toInt = ((bc + 1 : Nat) : Int) := by rw [d0 _ _ (by omega)]; exact c12
    have kb : pk (p_X10_branch 1 q0) (fun r => r.1 = -1 ∧ r.2 = q0) := pk_mono (c_branch (c := 1) k12 hbc e1n (by decide)) (fun r hr => ⟨by rw [hr.1, d0 _ _ (by omega)]; exact h138, hr.2⟩)
    have kc := c_closeBranch k12
    generalize hq1 : sF q0 137 12 (q0.1 137 12 - 1) = q1 at kc
    have d1 : ∀ i k, ¬ (i = 137 ∧ (k = 9 ∨ k = 12)) → q1.1 i k = q.1 i k := fun i k hh => by rw [← hq1, sF_at, if_neg (by omega), d0 _ _ (by omega)]
    have e12 : (q1.1 137 12).toInt = (bc : Int) := by
      have hi := ti_hi (q0.1 137 12)
      rw [← hq1, sF_v, ti_sub (by omega) (by omega), k12, e1]; omega
    have e2' : q1.2 = q.2 := by rw [← hq1, ← hq0]; rfl
    rcases hk with ⟨g1, g2⟩ | ⟨g1, g2⟩
    · refine W.step g1 hpc ?_
      rw [hq0]
      show pk (bw (p_X10_endThen mk q0) (fun μ33 => some μ33)) _
      refine pk_bw (P := fun q' => q'.2 = q.2 ∧ (∀ i k, ¬ (i = 137 ∧ (k = 9 ∨ k = 12)) → q'.1 i k = q.1 i k) ∧ (q'.1 137 12).toInt = (bc : Int) ∧ (q'.1 137 9).toInt = (t : Int)) ?_ (fun q hq => pk_some hq)
      rw [p_X10_endThen_eq]
      refine pk_bdv kb ?_
      rw [if_pos rfl]
      refine pk_bwv kc (pk_bvs (pk_some ⟨e2', fun i k hh => by rw [sF_at, if_neg (by omega)]; exact d1 i k hh, by rw [sF_k (by decide)]; exact e12, by rw [sF_v]; exact g2⟩))
    · refine W.step g1 hpc ?_
      rw [hq0]
      show pk (bw (p_X10_endElse q0) (fun μ36 => some μ36)) _
      refine pk_bw (P := fun q' => q'.2 = q.2 ∧ (∀ i k, ¬ (i = 137 ∧ (k = 9 ∨ k = 12)) → q'.1 i k = q.1 i k) ∧ (q'.1 137 12).toInt = (bc : Int) ∧ (q'.1 137 9).toInt = (t : Int)) ?_ (fun q hq => pk_some hq)
      rw [p_X10_endElse_eq]
      refine pk_bdv kb (pk_bd (c_branch (c := 2) k12 hbc e2n (by decide)) ?_)
      rintro r4 μ3 ⟨_, e⟩
      have e : μ3 = q0 := e
      rw [e, if_pos rfl]
      refine pk_bw (P := fun q' => q' = q1) kc (fun q' hq' => pk_some ?_)
      rw [hq']
      refine ⟨e2', d1, e12, ?_⟩
      have := lt_some g1
      rw [← hq1, sF_k (by decide), ← hq0, sF_v, ti_add (by omega) (by omega), hpc, e1, g2]; omega
  · rintro q' n ⟨g1, g2, g3, g4⟩
    obtain ⟨W', F'⟩ := W.clk g1 g2 g3
    refine hK q' n W' F' g4 ?_
    have := hbu.step (q := q') (y := 0) (by omega) (g2 39 3 (by omega)) (by rw [g2 30 5 (by omega)]; omega) (by rw [g2 30 5 (by omega)]; omega)
    rw [Int.add_zero] at this; exact this
end

section
theorem pk2_step {A : Mem → Mem → Prop} {f : Option Mem} {g : Option Mem} {body : Option Mem} (stp : ∀ {A : Mem → Prop}, pk body A → pk f A) (h : pk2 body g A) : pk2 f g A := by
  have := stp (pk2_pk h)
  intro q z e e2
  exact this q e z e2
theorem pk2_ids {f : Option Mem} {g : Option Mem} {A : Mem → Mem → Prop} (h : pk2 f g A) : pk2 (bw f (fun q => some q)) (bw g (fun q => some q)) A := by
  intro q z e e2
  cases hf : f with
  | none => rw [hf] at e; cases e
  | some q1 =>
    cases hg : g with
    | none => rw [hg] at e2; cases e2
    | some z1 =>
      rw [hf] at e
      rw [hg] at e2
      have e := Option.some.inj e
      have e2 := Option.some.inj e2
      exact h q z (by rw [hf, ← e]) (by rw [hg, ← e2])
theorem pk2_of2 {α β : Type} {f : Option α} {g : Option β} {A : α → Prop} {B : β → Prop} {P : α → β → Prop} (hf : pk f A) (hg : pk g B) (h : ∀ q z, A q → B z → P q z) : pk2 f g P := fun q z e e2 => h q z (hf q e) (hg z e2)
theorem nI_ne1 {n : Nat} (h : n < 2147483648) : ¬ nI n = -1 := by
  intro e
  have h1 := congrArg Int32.toInt e
  rw [ni_ti h] at h1
  have e2 : (-1 : Int32).toInt = -1 := by decide
  omega
theorem Gw8.pm {b B : Nat} {μx μm q z : Mem} {It Bk It2 Bk2 : List Nat} {cl cl2 : Nat → Prop} (g : Gw8 b B μx μm It Bk cl q z It2 Bk2 cl2) {p : Nat} (h : p ∉ It) (hp : p < (μm.1 0 87).toNatClampNeg) : p ∉ It2 := by
  obtain ⟨⟨E, F, e1, _, _, _, e5, _⟩, _⟩ := g
  rw [e1]
  intro hm
  rcases List.mem_append.mp hm with x | x
  · exact h x
  · have := (e5 p x).1; omega
theorem pk2_bvr {α β γ : Type} {f : Option α} {x : β} {k : β → Option γ} {P : α → γ → Prop} (h : pk2 f (k x) P) : pk2 f (bv x k) P := h
theorem cn_iff {z : Mem} {y7 y8 mk mq : Nat} {bt bq : Int32} (hmk : mk = 0 ∨ mk = 1 ∨ mk = 3) (hmq : mq = 0 ∨ mq = 1 ∨ mq = 3) (e1 : z.1 30 y7 = nI mk) (e2 : z.1 31 y7 = bt) (e3 : z.1 30 y8 = nI mq) (e4 : z.1 31 y8 = bq) : Cn8 z y7 y8 ↔ (mk ≤ 1 ∧ mk = mq ∧ bt = bq) := by
  unfold Cn8
  rw [e1, e2, e3, e4]
  constructor
  · rintro ⟨x1, x2, x3⟩
    have x2' : mk = mq := by
      have := congrArg Int32.toInt x2
      rw [ni_ti (by omega), ni_ti (by omega)] at this; omega
    refine ⟨?_, x2', x3⟩
    rcases hmk with h | h | h
    · omega
    · omega
    · exact absurd (by rw [h]; rfl) x1
  · rintro ⟨x1, x2, x3⟩
    refine ⟨fun h => ?_, by rw [x2], x3⟩
    have := congrArg Int32.toInt h
    rw [ni_ti (by omega), show (3 : Int32).toInt = 3 by decide] at this; omega
theorem cho_last {β : Type} {K : Mem → Option β} {Post : Int32 × Mem → β → Prop} {P : Nat} {C : List Th3} {G : List Fn5} {v b a h D m bc ob e y7 : Nat} {N : List Int32} {q2 z2 qc zc q z : Mem} {It Bk It2 Bk2 : List Nat} {cl cl2 : Nat → Prop} {X Y : Int} {a1 s1 x93 : Int32} {u1 : Int64} {nf fuf : Nat} {Q M : Prop} (W : W9 P C G v b a h D N m bc ob qc zc It2 Bk2 cl2) (F : F9 v b (q2.1 39 6).toNatClampNeg h D N.length bc m q2 z2 It Bk cl qc zc It2 Bk2 cl2) (pcc : (qc.1 137 9).toInt = ((e + 1 : Nat) : Int)) (buc : Bu9 a1 qc X Y) (ok : Ok9 K Post P C G v b a (h + 1) D N m bc ob h m q2 z2 It Bk cl (e + 1) X Y) (V : Va7 qc zc u1 y7 1 0) (hy : s1.toInt = (y7 : Int)) (cn : M ↔ Q) (hb : h < 2480) (hfin : (Q ∧ q = sF (sL qc 36 h u1) 30 7 (qc.1 30 7 + 1)) ∨ (¬ Q ∧ q = sF (sL qc 36 h (s_X0_make (nI 3) x93)) 30 7 (qc.1 30 7 + 1))) (hrf : (M ∧ z = sF (sF zc 40 h s1) 0 66 (zc.1 0 66 + 1)) ∨ (¬ M ∧ ∃ (yr : Nat) (zn : Mem) (r' : Int32), Nn7 zc zn yr 3 x93 ∧ r'.toInt = (yr : Int) ∧ z = sF (sF zn 40 h r') 0 66 (zn.1 0 66 + 1))) : Rn9 K Post nf a1 q fuf z := by
  have fin : ∀ (u : Int64), q = sF (sL qc 36 h u) 30 7 (qc.1 30 7 + 1) → W9 P C G v b a (h + 1) D N m bc ob q z It2 Bk2 cl2 → (∀ B', F9 v b B' h D N.length bc m qc zc It2 Bk2 cl2 q z It2 Bk2 cl2) → Rn9 K Post nf a1 q fuf z := fun u hq Wf Ff => by
    refine ok q z _ _ _ a1 nf fuf Wf ?_ ?_ ?_
    · exact F.tr (Ff (q2.1 39 6).toNatClampNeg) (Nat.le_refl _) (Nat.le_refl _) (Nat.le_refl _) (Nat.le_refl _) (Nat.le_refl _)
    · rw [hq, sF_i (by decide)]; exact pcc
    · exact buc.same (by rw [hq, sF_i (by decide)]; rfl) (by rw [hq, sF_k (by decide)]; rfl)
  rcases hfin with ⟨y1, y2⟩ | ⟨y1, y2⟩
  · rcases hrf with ⟨_, y4⟩ | ⟨y3, _⟩
    · obtain ⟨Wf, Ff⟩ := W.val Qx8.rf Qm8.rf (Nat.le_refl _) W.x7.1 W.x7.2 W.x65 V (by omega) hy hb y2 y4
      exact fin _ y2 Wf Ff
    · exact absurd (cn.mpr y1) y3
  · rcases hrf with ⟨y3, _⟩ | ⟨_, yr, zn, r', hN, hr', y4⟩
    · exact absurd (cn.mp y3) y1
    · obtain ⟨Wf, Ff⟩ := W.num (s := 3) Qx8.rf Qm8.rf (Nat.le_refl _) W.x7.1 W.x7.2 W.x65 (Or.inr (Or.inr rfl)) hN hr' hb y2 y4
      exact fin _ y2 Wf Ff
theorem cho_unk {β : Type} {K : Mem → Option β} {Post : Int32 × Mem → β → Prop} {P : Nat} {C : List Th3} {G : List Fn5} {df : Nat} {T : List Th3} {o r : Nat} {N : List Int32} {m' m2 j d d2 e : Nat} (hF : Fn9 G T o) (b' : Cd6 (at5 T) (at5 C) r 1 N m' m2 (d + 1) d2) (ib : E9 P C G df o r 1 N m' m2 (d + 1) d2) (h3 : C[d2]? = some (7, Int32.ofNat (e + 1), 0)) (c' : Cd6 (at5 T) (at5 C) r 1 N m2 j (d2 + 1) e) (ic : E9 P C G df o r 1 N m2 j (d2 + 1) e) (h4 : C[e]? = some (8, 0, 0)) {q2 z2 qa qb qf ze : Mem} {It Bk : List Nat} {cl : Nat → Prop} {v b a h D m bc ob B p0 o0 : Nat} {a1 w10 : Int32} {nn fu : Nat} {X Y : Int} {cbt : Int32} (W2 : W9 P C G v b a h D N m bc ob q2 z2 It Bk cl) (hB : (q2.1 39 6).toInt = (B : Int)) (nb : Nb7 B q2 qa) (ob7 : Ob7 bc (s_X0_make (nI 3) cbt) (nI B) qa qb) (hqf : qf = sF (sF qb 137 13 (qb.1 137 13 + 1)) 137 8 (nI B)) (oi : Oi8 h m p0 o0 (nI 3) cbt z2 ze) (h90 : ze.1 0 90 = z2.1 0 90 + 1) (hm2 : (ze.1 0 65).toInt = ((m + 2 : Nat) : Int)) (am : ze.1 37 m = 6 ∧ (ze.1 38 m).toInt = (p0 : Int) ∧ (ze.1 39 m).toInt = ((o + m2 : Nat) : Int)) (am1 : ze.1 37 (m + 1) = 0 ∧ (ze.1 38 (m + 1)).toInt = ((o + m' : Nat) : Int)) (hpc : (qf.1 137 9).toInt = ((d + 1 : Nat) : Int)) (hbu : Bu9 a1 qf X Y) (hh : h + (j - m') + 1 ≤ 80 * (D + 1)) (hbc : bc + (r + 1) ≤ 20 * (D + 1)) (hob : ob + (r + 1) ≤ 20 ∧ 12 ≤ D + df) (hX : X + ((e - d : Nat) : Int) ≤ 1000000) (hY : Y + ((j - m' : Nat) : Int) ≤ 30200) (ok : Ok9 K Post P C G v b a (h + 1) D N m bc ob h m q2 z2 It Bk cl (e + 1) (X + ((e - d : Nat) : Int)) (Y + ((j - m' : Nat) : Int))) (bad : Bd9 K Post) : Rn9 K Post nn a1 qf fu ze := by
  have e1' : (1 : Int32).toInt = 1 := by decide
  have i1n : (1 : Int32).toInt = ((1 : Nat) : Int) := by decide
  have i2n : (2 : Int32).toInt = ((2 : Nat) : Int) := by decide
  have i0n : (0 : Int32).toInt = ((0 : Nat) : Int) := by decide
  have hD : D ≤ 12 := W2.1.2.2.2.2.2.1.2.2.2
  have lb := b'.le
  have lc := c'.le
  have hCl : C.length ≤ 2472 := W2.2.1.2.2.2.1
  have hel := lt_some h4
  have hbc26 : bc < 260 := by omega
  obtain ⟨⟨s1, s2, s3, s4, s5, s6⟩, n39, hl43, n89, n300⟩ := W2.f43
  have hbd2 := W2.2.2.2.2.1
  have hB6 : B < 672 := by omega
  have oi' := oi
  obtain ⟨⟨i1, i2, i3, i4⟩, ⟨_, _, _⟩, ⟨k46, k48, k51, k52, k53, k54⟩, hmo⟩ := oi'
  obtain ⟨W5, f6, l44o, keepO, hxo, v138a, v138b, v139⟩ := cho_open W2 hB nb ob7 hB6 hqf oi h90 (by omega) hm2
  have nP : p0 ∉ It := fun hm => by have := W2.1.1.ilt p0 hm; rw [tn_of i1] at this; omega
  have hbB : b < B := by omega
  have ncb : ¬ cl b := W2.1.1.2.2.2.2.1
  have tb62 : (z2.1 62 v).toInt ≤ (p0 : Int) := by
    obtain ⟨⟨_, _, _, _, P0, O0, tP, tO, tb, _⟩, _⟩ := W2.1.1
    omega
  have S1o : Sf8 q2 z2 It Bk cl b a p0 := by
    have := W2.1.1.2.2.2.2.2.2
    rw [tn_of i1] at this; exact this
  have e6f : (qf.1 39 6).toNatClampNeg = B + 1 := tn_of f6
  refine ib K Post qf ze It Bk cl v B (p0 + 1) h D (m + 1) (bc + 1) (ob + 1) a1 nn fu X Y W5 ⟨o + m', rfl, cd_sh (W5.t9 hF) b', am1.1, am1.2⟩ hpc hbu (by omega) (by omega) (by omega) (by omega) (by omega) ?_ bad
  intro q5 z5 It5 Bk5 cl5 a5 n5 fu5 W6 F5 hpc5 hbu5
  rw [e6f] at F5
  have g5 := F5.1
  have P5 : p0 + 1 ≤ (z5.1 0 87).toNatClampNeg := by have := g5.2.1.1; rw [tn_of i3] at this; exact this
  have kz5 : ∀ i, 46 ≤ i → i ≤ 52 → z5.1 i p0 = ze.1 i p0 := fun i x1 x2 => g5.2.2.2.2.1 i p0 x1 x2 (by rw [tn_of i3]; omega)
  have am5 : z5.1 37 m = 6 ∧ (z5.1 38 m).toInt = (p0 : Int) ∧ (z5.1 39 m).toInt = ((o + m2 : Nat) : Int) := ⟨by rw [F5.2.2.1.2.2 37 m (Or.inl rfl) (by omega)]; exact am.1, by rw [F5.2.2.1.2.2 38 m (Or.inr (Or.inl rfl)) (by omega)]; exact am.2.1, by rw [F5.2.2.1.2.2 39 m (Or.inr (Or.inr rfl)) (by omega)]; exact am.2.2⟩
  have xb5 : X + ((d2 - (d + 1) : Nat) : Int) + 1 ≤ 1000000 := by omega
  obtain ⟨q10, z10, fx10, fm10, S10, z65, pc10, b510, bu10, stp, ez10⟩ := W6.beg (h := h) h3 hpc5 hbu5 xb5
  have bu10 : Bu9 (a5 + 1) q10 (X + ((d2 - (d + 1) : Nat) : Int) + 1) (Y + ((m2 - m' : Nat) : Int)) := by
    have := hbu5.step (q := q10) (y := 0) (by omega) (fx10.2.1 39 3 (by decide) (by decide) (by decide) (by omega)) (by rw [b510]; omega) (by rw [b510]; omega)
    rw [Int.add_zero] at this; exact this
  obtain ⟨x, w, dd, v1, v2, v3⟩ := S10.2.2 h (by omega)
  have D2 := sk_down S10
  have gp := c_pop (μ := q10) S10.1
  have gg := m_gone (μ := z10) S10.2.1
  generalize hq11 : sF q10 30 7 (q10.1 30 7 - 1) = q11 at gp D2
  generalize hz11 : sF z10 0 66 (z10.1 0 66 - 1) = z11 at gg D2
  have hv : Va7 q11 z11 (q10.2.1 36 h) x w dd := v2.gr D2.2.1 D2.2.2
  have fx11 : Qx8 h q5 q11 := by rw [← hq11]; exact fx10.tr (Qx8.top _)
  have fm11 : Qm8 h m z5 z11 := by rw [← hz11]; exact fm10.tr (Qm8.F _ (by omega))
  have z65' : (z11.1 0 65).toInt = (m : Int) := by rw [← hz11, sF_k (by decide)]; exact z65
  have W11 : W9 P C G v B (p0 + 1) h D N m (bc + 1) (ob + 1) q11 z11 It5 Bk5 cl5 := W6.low fx11 fm11 (by omega) D2.1.1 D2.1.2.1 z65'
  have F11 : ∀ X1, F9 v B X1 h D N.length (bc + 1) m q5 z5 It5 Bk5 cl5 q11 z11 It5 Bk5 cl5 := fun X1 => F9.q (h0 := h) (m0 := m) fx11 fm11 (Nat.le_refl _) (Nat.le_refl _)
  have pc11 : (q11.1 137 9).toInt = ((d2 + 1 : Nat) : Int) := by rw [← hq11, sF_i (by decide)]; exact pc10
  have bu11 : Bu9 (a5 + 1) q11 (X + ((d2 - (d + 1) : Nat) : Int) + 1) (Y + ((m2 - m' : Nat) : Int)) := bu10.same (by rw [← hq11, sF_i (by decide)]) (by rw [← hq11, sF_k (by decide)])
  obtain ⟨⟨s11, s12, s13, s14, s15, s16⟩, _, _, _, n3005⟩ := W11.f43
  have c12 := W11.1.2.2.2.2.2.2.1.1
  have v138b' : q11.1 138 (3 * bc + 1) = nI B := by rw [fx11.2.1 138 _ (by decide) (by decide) (by decide) (by omega), F5.2.1.2.2.2.1 _ (by omega)]; exact v138b
  have y5 := F5.2.2.2.2.1.2.2
  have n39' : (qf.1 39 1).toInt = (It.length : Int) := W5.1.1.1.1
  have n395 : (q5.1 39 1).toInt = (It5.length : Int) := W6.1.1.1.1
  have v39f : qf.1 39 2 = q2.1 39 2 := hxo.2.2.2.2.1 2 (by decide) (by decide)
  refine op_run2 W6 hbu5 xb5 (R := fun q z => (q.1 137 6 = -2 ∧ z.1 0 68 = -2 ∧ q.2.2 = q11.2.2) ∨ ∃ (r : Int64 × Mem) (s : Int32 × Mem) (It2 Bk2 : List Nat) (y B2 o1 e1 : Nat) (q6 : Mem), (Re7 r.2 s.2 It2 Bk2 cl5 v B (p0 + 1) ∧ Gl8 B q11 z11 It5 Bk5 cl5 r.2 s.2 It2 Bk2 cl5 ∧ Va7 r.2 s.2 r.1 y 1 0 ∧ s.1.toInt = (y : Int) ∧ Fx7 v q11 r.2 ∧ Fm7 (z11.1 0 87).toNatClampNeg (z11.1 0 88).toNatClampNeg z11 s.2) ∧ (r.2.1 39 6).toInt = (B2 : Int) ∧ B2 < 671 ∧ Nb7 B2 (sL r.2 44 B r.1) q6 ∧ q = sF (sF q6 137 8 (nI B2)) 138 (3 * bc + 2) (nI B2) ∧ (s.2.1 0 88).toInt = (o1 : Int) ∧ m < 6000 ∧ Mi8 h m p0 e1 o1 (s.2.1 30 y) (s.2.1 31 y) s.2 z ∧ (z.1 0 65).toInt = ((m + 2 : Nat) : Int) ∧ (z.1 37 m = 7 ∧ (z.1 38 m).toInt = (p0 : Int) ∧ z.1 39 m = s.1) ∧ (z.1 37 (m + 1) = 0 ∧ (z.1 38 (m + 1)).toInt = ((o + m2 : Nat) : Int))) ?_ ?_
  · refine pk2_step stp ?_
    rw [ez10, am5.1]
    show pk2 (bw (p_X10_endThen (Int32.ofNat (e + 1)) q10) (fun μ33 => some μ33)) _ _
    rw [p_X12_goOne_eq, if_neg (by decide), if_neg (by decide), if_neg (by decide), if_neg (by decide), if_neg (by decide), if_neg (by decide), if_pos rfl]
    refine pk2_ids ?_
    rw [p_X10_endThen_eq, p_X12_otherwise_eq, p_X12_mark_eq, bd_bd]
    have q10i : ∀ i k, i ≠ 30 → q11.1 i k = q10.1 i k := fun i k hi => by rw [← hq11, sF_i hi]
    refine pk2_bdvl (r0 := nI B) (μ0 := q10) (pk_mono (c_branch (n := bc) (c := 1) (by rw [← q10i _ _ (by decide)]; exact c12) hbc26 i1n (by decide)) (fun r hr => ⟨by rw [hr.1, ← q10i _ _ (by decide)]; exact v138b', hr.2⟩)) ?_
    rw [if_neg (nI_ne1 (show B < 2147483648 by omega))]
    refine pk2_bdvl (r0 := q10.2.1 36 h) (μ0 := q11) gp (pk2_bdvr (r0 := z10.1 40 h) (μ0 := z11) gg ?_)
    rw [bd_bd]
    refine pk2_bd2 (lift_both W11.1.1 hv v3 v1 i0n) ?_
    rintro r7 μ6 r4 μ3 hq
    rcases hq with ⟨It2, Bk2, y, R7, g7, V7, hy7, fx7, fm7⟩ | ⟨g6, g68, g22⟩
    · have R7 : Re7 μ6 μ3 It2 Bk2 cl5 v B (p0 + 1) := R7
      have hy7 : r4.toInt = (y : Int) := hy7
      have fx7 : Fx7 v q11 μ6 := fx7
      have fm7 : Fm7 (z11.1 0 87).toNatClampNeg (z11.1 0 88).toNatClampNeg z11 μ3 := fm7
      have h68 : μ3.1 0 68 = 0 := R7.2.2.2.2.2.1.1
      obtain ⟨B2, hB2⟩ : ∃ B2 : Nat, (μ6.1 39 6).toInt = (B2 : Int) := ⟨(μ6.1 39 6).toInt.toNat, by have := R7.2.2.2.1.2.2.2.2.2; omega⟩
      obtain ⟨_, _, _, P3, O3, hP3, hO3⟩ := R7.n
      have hB671 : B2 < 671 := by
        have a1 : μ6.1 39 6 = q5.1 39 6 := by rw [fx7.2.2.1 6 (by decide)]; exact fx11.2.1 39 6 (by decide) (by decide) (by decide) (by omega)
        rw [a1] at hB2
        have a2 := F5.2.2.2.2.1.1.1
        have a3 : It5.length ≤ 300 := n3005
        have a4 : (v : Int) + 1 ≤ (q2.1 39 2).toInt := by omega
        rw [v39f] at y5 a2
        omega
      rw [if_pos h68]
      refine pk2_of2 (c_midtail (B := B) (B2 := B2) (bc := bc) (x8 := q10.1 137 8) (by rw [← q10i _ _ (by decide)]; exact s13) R7.2.2.2.1.2.2.2.2.2 hB2 (by omega) (by rw [fx7.2.1 137 12 (by decide) (by decide) (by decide) (by decide) (by decide)]; exact c12) hbc26) (m_midtail (m := m) (h := h) am5.2.1 hy7 h68 hO3 (by rw [fm7.2.1 65 (by decide) (by decide) (by decide) (by decide) (by decide)]; exact z65') ?_) ?_
      · have g87 := (g7.1 0).2.1.1
        have : (z11.1 0 87).toNatClampNeg = (z5.1 0 87).toNatClampNeg := by rw [fm11.2.1 87 (by decide) (by decide) (by decide) (by decide) (by decide)]
        rw [tn_of hP3] at g87
        rw [hP3]; omega
      · rintro q z ⟨q6, u1, u2⟩ ⟨e1, u3, u4, u5, u6, u7⟩
        exact Or.inr ⟨(r7, μ6), (r4, μ3), It2, Bk2, y, B2, O3, e1, q6, ⟨R7, g7, V7, hy7, fx7, fm7⟩, hB2, hB671, u1, u2, hO3, u3, u4, u5, u6, u7.1, by rw [u7.2]; exact am5.2.2⟩
    · have g6 : μ6.1 137 6 = -2 := g6
      have g68 : μ3.1 0 68 = -2 := g68
      rw [if_neg (by rw [g68]; decide)]
      refine pk2_of2 c_midtail_bad (B := fun z => z.1 0 68 = -2) ?_ (fun q z hq hz => Or.inl ⟨by rw [hq.1]; exact g6, hz, by rw [hq.2]; exact g22⟩)
      show pk (if μ3.1 0 68 = 0 then _ else some μ3) _
      rw [if_neg (by rw [g68]; decide)]
      exact pk_some g68
  intro q8 z8 n8 fu8 hR
  rcases hR with ⟨u1, u2, u3⟩ | ⟨r7, s7, It6, Bk6, y7, B2, o1, e1, q6, ⟨R7, g7, V7, hy7, fx7, fm7⟩, hB2, hB671, nb2, hq8, hO3, hm6, mi, u65, am8, am81⟩
  · exact bad q8 z8 (a5 + 1) n8 fu8 (-2) u1 u2 (by decide) (Su5.of W11.2.2.2.2.2.1 u3)
  obtain ⟨W12, F12⟩ := W11.lifted (y := 0) R7 g7 fx7 fm7
  obtain ⟨mk, bt, hmk, er7, ey7a, ey7b⟩ := va_num V7
  rw [ey7a, ey7b] at mi
  have nP5 : p0 ∉ It5 := g5.pm nP (by rw [tn_of i3]; omega)
  have z11P : (z11.1 0 87).toNatClampNeg = (z5.1 0 87).toNatClampNeg := by rw [fm11.2.1 87 (by decide) (by decide) (by decide) (by decide) (by decide)]
  have nP6 : p0 ∉ It6 := (g7.1 0).pm nP5 (by rw [z11P]; omega)
  have len56 : It5.length ≤ It6.length := by
    obtain ⟨⟨E, _, e1', _⟩, _⟩ := g7.1 0
    rw [e1', List.length_append]; omega
  have b7 : r7.2.1 39 6 = q5.1 39 6 := by rw [fx7.2.2.1 6 (by decide)]; exact fx11.2.1 39 6 (by decide) (by decide) (by decide) (by omega)
  have b72 : r7.2.1 39 2 = q5.1 39 2 := by rw [fx7.2.2.1 2 (by decide)]; exact fx11.2.1 39 2 (by decide) (by decide) (by decide) (by omega)
  have hbd6 : (B2 : Int) + 1 + (r7.2.1 39 2).toInt ≤ (v : Int) + 2 + 2 * (It6.length : Int) + 2 * ((ob + 1 : Nat) : Int) := by
    rw [b72]
    rw [b7] at hB2
    rw [v39f] at y5
    omega
  have mi' := mi
  obtain ⟨⟨mi1, mi2, mi3, mi4⟩, _, ⟨mi5, mi6, mi7, mi8, mi9⟩, hmm, _⟩ := mi'
  obtain ⟨W13, f13, l44m, keepM, hxm, ⟨v138c, v138d, v138e, v139b⟩, E1, hfinM⟩ := cho_mid W12 hB2 nb2 (by omega) hq8 mi hmk er7 nP6 hbd6 u65
  have hBB : B < B2 := by have := W12.1.1.2.2.2.1.2.2.2.2.2; omega
  have e6m : (q8.1 39 6).toNatClampNeg = B2 + 1 := tn_of f13
  have q8i : ∀ i k, i ≠ 137 → i ≠ 138 → i ≠ 39 → i ≠ 42 → i ≠ 43 → q8.1 i k = r7.2.1 i k := fun i k a1 a2 a3 a4 a5 => by rw [hq8, sF_i a2, sF_i a1, nb2.2.2.2.2.2.2 i k a3 a4 a5]; rfl
  have l44B : q8.2.1 44 B = r7.1 := by
    rw [hq8]; show q6.2.1 44 B = _
    rw [nb2.2.2.2.2.2.1, if_neg (by omega), sL_at, if_pos ⟨rfl, rfl⟩]
  have pc8 : (q8.1 137 9).toInt = ((d2 + 1 : Nat) : Int) := by
    rw [hq8, sF_i (by decide), sF_k (by decide), nb2.2.2.2.2.2.2 137 9 (by decide) (by decide) (by decide)]
    show (r7.2.1 137 9).toInt = _
    rw [fx7.2.1 137 9 (by decide) (by decide) (by decide) (by decide) (by decide)]; exact pc11
  have bu8 : Bu9 (a5 + 1) q8 (X + ((d2 - (d + 1) : Nat) : Int) + 1) (Y + ((m2 - m' : Nat) : Int)) := bu11.same (by rw [hxm.2.2.2.2.1 3 (by decide) (by decide), fx7.2.2.1 3 (by decide)]) (by rw [q8i 30 5 (by decide) (by decide) (by decide) (by decide) (by decide), fx7.2.1 30 5 (by decide) (by decide) (by decide) (by decide) (by decide)])
  have e1p : p0 < e1 := by
    have g87 := (g7.1 0).2.1.1
    rw [z11P, tn_of mi1] at g87
    omega
  have W13 : W9 P C G v B2 (e1 + 1) h D N (m + 1 + 1) (bc + 1) (ob + 1) q8 z8 It6 Bk6 (fun y => cl5 y ∨ y = B) := W13
  refine ic K Post q8 z8 It6 Bk6 _ v B2 (e1 + 1) h D (m + 1) (bc + 1) (ob + 1) (a5 + 1) n8 fu8 _ _ W13 ⟨o + m2, rfl, cd_sh (W13.t9 hF) c', am81.1, am81.2⟩ pc8 bu8 (by omega) (by omega) (by omega) (by omega) (by omega) ?_ bad
  intro q14 z14 It14 Bk14 cl14 a14 n14 fu14 W14 F14 hpc14 hbu14
  rw [e6m] at F14
  have g14 := F14.1
  have P14 : e1 + 1 ≤ (z14.1 0 87).toNatClampNeg := by have := g14.2.1.1; rw [tn_of mi3] at this; exact this
  have am14 : z14.1 37 m = 7 ∧ (z14.1 38 m).toInt = (p0 : Int) ∧ z14.1 39 m = s7.1 := ⟨by rw [F14.2.2.1.2.2 37 m (Or.inl rfl) (by omega)]; exact am8.1, by rw [F14.2.2.1.2.2 38 m (Or.inr (Or.inl rfl)) (by omega)]; exact am8.2.1, by rw [F14.2.2.1.2.2 39 m (Or.inr (Or.inr rfl)) (by omega)]; exact am8.2.2⟩
  have xb14 : X + ((d2 - (d + 1) : Nat) : Int) + 1 + ((e - (d2 + 1) : Nat) : Int) + 1 ≤ 1000000 + 1 := by omega
  have xb14' : X + ((d2 - (d + 1) : Nat) : Int) + 1 + ((e - (d2 + 1) : Nat) : Int) + 1 ≤ 1000000 := by omega
  obtain ⟨q20, z20, fx20, fm20, S20, z65b, pc20, b520, bu20, stp2, ez20⟩ := W14.beg (h := h) h4 hpc14 hbu14 xb14'
  have bu20 : Bu9 (a14 + 1) q20 (X + ((d2 - (d + 1) : Nat) : Int) + 1 + ((e - (d2 + 1) : Nat) : Int) + 1) (Y + ((m2 - m' : Nat) : Int) + ((j - m2 : Nat) : Int)) := by
    have := hbu14.step (q := q20) (y := 0) (by omega) (fx20.2.1 39 3 (by decide) (by decide) (by decide) (by omega)) (by rw [b520]; omega) (by rw [b520]; omega)
    rw [Int.add_zero] at this; exact this
  obtain ⟨x20, w20, dd20, u1, u2, u3⟩ := S20.2.2 h (by omega)
  have D20 := sk_down S20
  have gp2 := c_pop (μ := q20) S20.1
  have gg2 := m_gone (μ := z20) S20.2.1
  generalize hq21 : sF q20 30 7 (q20.1 30 7 - 1) = q21 at gp2 D20
  generalize hz21 : sF z20 0 66 (z20.1 0 66 - 1) = z21 at gg2 D20
  have hv21 : Va7 q21 z21 (q20.2.1 36 h) x20 w20 dd20 := u2.gr D20.2.1 D20.2.2
  have fx21 : Qx8 h q14 q21 := by rw [← hq21]; exact fx20.tr (Qx8.top _)
  have fm21 : Qm8 h m z14 z21 := by rw [← hz21]; exact fm20.tr (Qm8.F _ (by omega))
  have z65b' : (z21.1 0 65).toInt = (m : Int) := by rw [← hz21, sF_k (by decide)]; exact z65b
  have W21 : W9 P C G v B2 (e1 + 1) h D N m (bc + 1) (ob + 1) q21 z21 It14 Bk14 cl14 := W14.low fx21 fm21 (by omega) D20.1.1 D20.1.2.1 z65b'
  have pc21 : (q21.1 137 9).toInt = ((e + 1 : Nat) : Int) := by rw [← hq21, sF_i (by decide)]; exact pc20
  have bu21 : Bu9 (a14 + 1) q21 (X + ((d2 - (d + 1) : Nat) : Int) + 1 + ((e - (d2 + 1) : Nat) : Int) + 1) (Y + ((m2 - m' : Nat) : Int) + ((j - m2 : Nat) : Int)) := bu20.same (by rw [← hq21, sF_i (by decide)]) (by rw [← hq21, sF_k (by decide)])
  obtain ⟨⟨t11, t12, t13, t14, t15, t16⟩, n21, _, n891, n30014⟩ := W21.f43
  have c122 := W21.1.2.2.2.2.2.2.1.1
  have c132 := W21.1.2.2.2.2.2.2.1.2.1
  have w138 : ∀ k, k < 3 * (bc + 1) → q21.1 138 k = q8.1 138 k := fun k hk => by rw [fx21.2.1 138 _ (by decide) (by decide) (by decide) (by omega), F14.2.1.2.2.2.1 _ hk]
  have w138a : q21.1 138 (3 * bc) = nI b := by
    rw [w138 _ (by omega), v138c, fx7.2.1 138 _ (by decide) (by decide) (by decide) (by decide) (by decide), fx11.2.1 138 _ (by decide) (by decide) (by decide) (by omega), F5.2.1.2.2.2.1 _ (by omega), v138a]
    exact ti_eq.mpr (by rw [s3, ni_ti (by omega)])
  have w138b : q21.1 138 (3 * bc + 1) = nI B := by
    rw [w138 _ (by omega), v138d, fx7.2.1 138 _ (by decide) (by decide) (by decide) (by decide) (by decide)]; exact v138b'
  have w138c : q21.1 138 (3 * bc + 2) = nI B2 := by rw [w138 _ (by omega)]; exact v138e
  have w139 : q21.2.1 139 bc = s_X0_make (nI 3) cbt := by
    rw [fx21.2.2.2.1 139 _ (by decide) (by decide) (by omega), F14.2.1.2.2.2.2.1 _ (by omega), v139b, fx7.2.2.2.2 139 _ (by decide), fx11.2.2.2.1 139 _ (by decide) (by decide) (by omega), F5.2.1.2.2.2.2.1 _ (by omega)]; exact v139
  have y14 := F14.2.2.2.2.1.2.2
  have n8' : (q8.1 39 1).toInt = (It6.length : Int) := W13.1.1.1.1
  have n14' : (q14.1 39 1).toInt = (It14.length : Int) := W14.1.1.1.1
  have v8f : q8.1 39 2 = q5.1 39 2 := by rw [hxm.2.2.2.2.1 2 (by decide) (by decide)]; exact b72
  have hB672 : (q21.1 39 6).toInt ≤ 672 := by
    have a0 : q21.1 39 6 = q14.1 39 6 := fx21.2.1 39 6 (by decide) (by decide) (by decide) (by omega)
    have a1 := F5.2.2.2.2.1.1.1
    have a2 := F14.2.2.2.2.1.1.1
    rw [a0]
    rw [v8f] at a2 y14
    rw [v39f] at a1 y5
    rw [b7] at hB2
    omega
  refine op_run2 W14 hbu14 xb14' (R := fun q z => (q.1 137 6 = -2 ∧ z.1 0 68 = -2 ∧ q.2.2 = q21.2.2) ∨ ∃ (r : Int64 × Mem) (s : Int32 × Mem) (It2 Bk2 : List Nat) (y o1 : Nat), (Re7 r.2 s.2 It2 Bk2 cl14 v B2 (e1 + 1) ∧ Gl8 B2 q21 z21 It14 Bk14 cl14 r.2 s.2 It2 Bk2 cl14 ∧ Va7 r.2 s.2 r.1 y 1 0 ∧ s.1.toInt = (y : Int) ∧ Fx7 v q21 r.2 ∧ Fm7 (z21.1 0 87).toNatClampNeg (z21.1 0 88).toNatClampNeg z21 s.2) ∧ (s.2.1 0 88).toInt = (o1 : Int) ∧ (∃ (mq : Nat) (bq : Int32), (mq = 0 ∨ mq = 1 ∨ mq = 3) ∧ r.1 = s_X0_make (nI mq) bq ∧ s.2.1 30 y = nI mq ∧ s.2.1 31 y = bq ∧ ((300 ≤ It2.length ∧ q.1 137 6 = -2 ∧ q.2.2 = r.2.2.2) ∨ (It2.length < 300 ∧ ∃ q7 q9 qc, q7 = sF (sL r.2 44 B2 r.1) 137 8 (nI b) ∧ Lv7 6 0 (s_X0_make (nI 3) cbt) 0 v b It2.length q7 q9 ∧ qc = sF (sF (sF (sF q9 137 12 (q9.1 137 12 - 1)) 137 13 (q9.1 137 13 - 1)) 40 (8 * It2.length + 3) (nI B)) 40 (8 * It2.length + 4) (nI B2) ∧ (((mk ≤ 1 ∧ mk = mq ∧ bt = bq) ∧ q = sF (sL qc 36 h r7.1) 30 7 (qc.1 30 7 + 1)) ∨ (¬ (mk ≤ 1 ∧ mk = mq ∧ bt = bq) ∧ q = sF (sL qc 36 h (s_X0_make (nI 3) (q7.1 45 (4 * v + 2)))) 30 7 (qc.1 30 7 + 1)))))) ∧ ((300 ≤ It2.length ∧ z.1 0 68 = -2) ∨ (It2.length < 300 ∧ ∃ (e2 : Nat) (zc : Mem), Ci8 h m p0 e2 o1 It2.length (s.2.1 30 y) (s.2.1 31 y) s.2 zc ∧ zc.1 0 65 = s.2.1 0 65 ∧ ((Cn8 s.2 y7 y ∧ z = sF (sF zc 40 h s7.1) 0 66 (zc.1 0 66 + 1)) ∨ (¬ Cn8 s.2 y7 y ∧ ∃ (yr : Nat) (zn : Mem) (r' : Int32), Nn7 zc zn yr 3 (s.2.1 0 93) ∧ r'.toInt = (yr : Int) ∧ z = sF (sF zn 40 h r') 0 66 (zn.1 0 66 + 1)))))) ?_ ?_
  · refine pk2_step stp2 ?_
    rw [ez20, am14.1]
    show pk2 (bw (p_X10_endElse q20) (fun μ36 => some μ36)) _ _
    rw [p_X12_goOne_eq, if_neg (by decide), if_neg (by decide), if_neg (by decide), if_neg (by decide), if_neg (by decide), if_neg (by decide), if_neg (by decide)]
    refine pk2_ids ?_
    have q20i : ∀ i k, i ≠ 30 → q21.1 i k = q20.1 i k := fun i k hi => by rw [← hq21, sF_i hi]
    have m39 : z20.1 39 m = s7.1 := by rw [fm20.2.2.1 39 m |> fun _ => show z20.1 39 m = z14.1 39 m from by rw [← ez20, sF_i (by decide)]]; exact am14.2.2
    rw [p_X10_endElse_eq, p_X12_whole_eq, tn_of z65b, m39]
    refine pk2_gdr (fun _ => ?_)
    refine pk2_bvr ?_
    rw [p_X12_mark_eq, bd_bd]
    refine pk2_bdvl (r0 := nI B) (μ0 := q20) (pk_mono (c_branch (n := bc) (c := 1) (by rw [← q20i _ _ (by decide)]; exact c122) hbc26 i1n (by decide)) (fun r hr => ⟨by rw [hr.1, ← q20i _ _ (by decide)]; exact w138b, hr.2⟩)) ?_
    refine pk2_bdvl (r0 := nI B2) (μ0 := q20) (pk_mono (c_branch (n := bc) (c := 2) (by rw [← q20i _ _ (by decide)]; exact c122) hbc26 i2n (by decide)) (fun r hr => ⟨by rw [hr.1, ← q20i _ _ (by decide)]; exact w138c, hr.2⟩)) ?_
    rw [if_neg (nI_ne1 (show B < 2147483648 by omega)), if_pos (by rw [ti_le, ← q20i _ _ (by decide), c122, e1']; omega)]
    refine pk2_bdvl (r0 := q20.2.1 36 h) (μ0 := q21) gp2 (pk2_bdvr (r0 := z20.1 40 h) (μ0 := z21) gg2 ?_)
    rw [bd_bd]
    refine pk2_bd2 (lift_both W21.1.1 hv21 u3 u1 i0n) ?_
    rintro r22 μ6 r4 μ3 hq
    show pk2 (cend (q20.1 137 8) (nI B) (nI B2) r22 μ6) _ _
    rcases hq with ⟨It2, Bk2, y, R22, g22, V22, hy22, fx22, fm22⟩ | ⟨g6, g68, g22⟩
    · have R22 : Re7 μ6 μ3 It2 Bk2 cl14 v B2 (e1 + 1) := R22
      have hy22 : r4.toInt = (y : Int) := hy22
      have V22 : Va7 μ6 μ3 r22 y 1 0 := V22
      have fx22 : Fx7 v q21 μ6 := fx22
      have fm22 : Fm7 (z21.1 0 87).toNatClampNeg (z21.1 0 88).toNatClampNeg z21 μ3 := fm22
      have h68 : μ3.1 0 68 = 0 := R22.2.2.2.2.2.1.1
      obtain ⟨nn1, nn2, nn3, P3, O3, hP3, hO3⟩ := R22.n
      obtain ⟨mq, bq, hmq, er22, ey22a, ey22b⟩ := va_num V22
      obtain ⟨hT22, hL22, hC22, ⟨x1, x2, x3, x4, x5, x6⟩, _⟩ := R22
      have f39 : μ6.1 39 6 = q21.1 39 6 := fx22.2.2.1 6 (by decide)
      have f44 : μ6.2.1 44 B = r7.1 := by
        rw [fx22.2.2.2.2 44 B (by decide), fx21.2.2.2.1 44 B (by decide) (by decide) (by omega), (g14.2.2.2.1 B (by omega)).2 (by omega)]; exact l44B
      have hb39 : (b : Int) < (μ6.1 39 6).toInt := by omega
      rw [if_pos h68]
      refine pk2_of2 (cend_ok (bc := bc) (v := v) (h := h) (n := It2.length) (B := B) (B2 := B2) (b := b) (x1 := r7.1) (cond := s_X0_make (nI 3) cbt) (m1 := mk) (m2 := mq) (c1 := bt) (c2 := bq) (by rw [← q20i _ _ (by decide)]; exact t13) rfl rfl hBB x6 (by rw [f39]; exact hB672) hbB (by rw [fx22.2.1 137 12 (by decide) (by decide) (by decide) (by decide) (by decide)]; exact c122) hbc26 (by rw [fx22.2.1 138 _ (by decide) (by decide) (by decide) (by decide) (by decide)]; exact w138a) (by rw [fx22.2.2.2.2 139 bc (by decide)]; exact w139) x1 x2 x4 x5 hT22.1 (fun hne => by obtain ⟨l, el, hl⟩ := cn_last hC22 hb39 hne; exact ⟨l, el, by omega⟩) (by rw [fx22.2.1 30 7 (by decide) (by decide) (by decide) (by decide) (by decide)]; exact W21.x7.1) (by omega) f44 hmk hmq er7 er22) (m_closetail (m := m) (h := h) (hh := h) (yx := y7) am14.2.1 hy7 hy22 h68 hO3 (by rw [fm22.2.1 65 (by decide) (by decide) (by decide) (by decide) (by decide)]; exact z65b') (by rw [fm22.2.1 66 (by decide) (by decide) (by decide) (by decide) (by decide)]; exact W21.x7.2) nn2 nn3 ?_) ?_
      · have a1 := (g22.1 0).2.1.1
        have a2 : (z21.1 0 87).toNatClampNeg = (z14.1 0 87).toNatClampNeg := by rw [fm21.2.1 87 (by decide) (by decide) (by decide) (by decide) (by decide)]
        have hP3' : (μ3.1 0 87).toNatClampNeg = P3 := tn_of hP3
        have a1 : (z21.1 0 87).toNatClampNeg ≤ (μ3.1 0 87).toNatClampNeg := a1
        rw [hP3]; omega
      · intro q z hc hz
        exact Or.inr ⟨(r22, μ6), (r4, μ3), It2, Bk2, y, O3, ⟨⟨hT22, hL22, hC22, ⟨x1, x2, x3, x4, x5, x6⟩, by assumption⟩, g22, V22, hy22, fx22, fm22⟩, hO3, ⟨mq, bq, hmq, er22, ey22a, ey22b, hc⟩, hz⟩
    · have g6 : μ6.1 137 6 = -2 := g6
      have g68 : μ3.1 0 68 = -2 := g68
      rw [if_neg (by rw [g68]; decide)]
      refine pk2_of2 (cend_bad g6) (B := fun z => z.1 0 68 = -2) ?_ (fun q z hq hz => Or.inl ⟨by rw [hq.1]; exact g6, hz, by rw [hq.2]; exact g22⟩)
      show pk (if μ3.1 0 68 = 0 then _ else p_X12_whole_b31 (z14.1 38 m) s7.1 r4 μ3) _
      rw [if_neg (by rw [g68]; decide), p_X12_whole_b31_eq, if_neg (by rw [g68]; decide)]
      exact pk_some g68
  intro qf2 zf2 nf fuf hR
  rcases hR with ⟨w1, w2, w3⟩ | ⟨r8, s8, It22, Bk22, y8, o8, ⟨R8, g8, V8, hy8, fx8, fm8⟩, hO8, ⟨mq, bq, hmq, er8, ey8a, ey8b, hcl⟩, hrf⟩
  · exact bad qf2 zf2 (a14 + 1) nf fuf (-2) w1 w2 (by decide) (Su5.of W21.2.2.2.2.2.1 w3)
  rcases hcl with ⟨n1, n2, n3⟩ | ⟨n1, q7, q9, qc, hq7, lv, hqc, hfin⟩
  · rcases hrf with ⟨_, n4⟩ | ⟨n4, _⟩
    · exact bad qf2 zf2 (a14 + 1) nf fuf (-2) n2 n4 (by decide) (Su5.of W21.2.2.2.2.2.1 (by rw [n3, fx8.1]))
    · omega
  rcases hrf with ⟨n4, _⟩ | ⟨_, e2, zc, ci, zc65, hrf⟩
  · omega
  rw [ey8a, ey8b] at ci
  have h871 : (z11.1 0 87).toNatClampNeg = (z5.1 0 87).toNatClampNeg := z11P
  have h872 : (z21.1 0 87).toNatClampNeg = (z14.1 0 87).toNatClampNeg := by rw [fm21.2.1 87 (by decide) (by decide) (by decide) (by decide) (by decide)]
  have h882 : (z21.1 0 88).toNatClampNeg = (z14.1 0 88).toNatClampNeg := by rw [fm21.2.1 88 (by decide) (by decide) (by decide) (by decide) (by decide)]
  have h881 : (z11.1 0 88).toNatClampNeg = (z5.1 0 88).toNatClampNeg := by rw [fm11.2.1 88 (by decide) (by decide) (by decide) (by decide) (by decide)]
  obtain ⟨W22, F22⟩ := W21.lifted (y := 0) R8 g8 fx8 fm8
  have G7 : Gw8 B (B + 1) q5 z5 It5 Bk5 cl5 r7.2 s7.2 It6 Bk6 cl5 := ((F11 (B + 1)).1).tr (g7.1 (B + 1)) (Nat.le_refl _)
  have G1 := g5.tr G7 (Nat.le_refl _)
  have G21 : Gw8 B2 (B2 + 1) q14 z14 It14 Bk14 cl14 r8.2 s8.2 It22 Bk22 cl14 := (Gw8.same (q_sc fx21 fm21)).tr (g8.1 (B2 + 1)) (Nat.le_refl _)
  have G2 := g14.tr G21 (Nat.le_refl _)
  obtain ⟨ci1, ci2, _, hmc, _⟩ := id ci
  obtain ⟨c1, c2, c3, c4⟩ := ci1
  have nP22 : p0 ∉ It22 := G2.pm nP6 (by rw [tn_of mi3]; omega)
  have h87l : e1 + 1 ≤ e2 := by have := G2.2.1.1; rw [tn_of mi3, tn_of c1] at this; exact this
  have kzM : ∀ i, 46 ≤ i → i ≤ 52 → i ≠ 49 → z8.1 i p0 = ze.1 i p0 := fun i x1 x2 x3 => by
    rw [hfinM i p0 x1 x2 e1p (fun e => x3 e.1)]
    exact G1.2.2.2.2.1 i p0 x1 x2 (by rw [tn_of i3]; omega)
  have kz8 : ∀ i k, 46 ≤ i → i ≤ 52 → k ≤ e1 → s8.2.1 i k = z8.1 i k := fun i k x1 x2 x3 => G2.2.2.2.2.1 i k x1 x2 (by rw [tn_of mi3]; omega)
  have o01 : o0 + 1 ≤ o1 := by have := G1.2.1.2; rw [tn_of i4, tn_of mi2] at this; exact this
  have o18 : o1 + 1 ≤ o8 := by have := G2.2.1.2; rw [tn_of mi4, tn_of c2] at this; exact this
  have kzo : ∀ i, i = 53 ∨ i = 54 → s8.2.1 i o0 = ze.1 i o0 := fun i hi => by
    rw [G2.2.2.2.2.2 i o0 hi (by rw [tn_of mi4]; omega), hmm.2.2.1 i o0 (by omega) (by omega) (by omega) (by omega) (by omega) (by omega) (by omega) (by omega)]
    exact G1.2.2.2.2.2 i o0 hi (by rw [tn_of i4]; omega)
  have t62 : s8.2.1 62 v = z2.1 62 v := by
    rw [fm8.2.2.1 62 v (by decide) (by decide) (by omega) (by omega) (by decide) (by decide), fm21.2.2.1 62 v (by decide) (by decide) (by omega) (by omega), F14.2.2.2.2.2 62 v (by decide) (by decide), hmm.2.2.1 62 v (by decide) (by decide) (by omega) (by omega) (by omega) (by omega) (by decide) (by decide), fm7.2.2.1 62 v (by decide) (by decide) (by omega) (by omega) (by decide) (by decide), fm11.2.2.1 62 v (by decide) (by decide) (by omega) (by omega), F5.2.2.2.2.2 62 v (by decide) (by decide)]
    exact hmo.2.2.1 62 v (by decide) (by decide) (by omega) (by omega) (by omega) (by omega) (by decide) (by decide)
  have hb2 : ¬ cl14 b := fun h => by
    rcases (g14.2.2.2.1 b (by omega)).1.mp h with x | x
    · exact ncb ((g5.2.2.2.1 b (by omega)).1.mp x)
    · omega
  have hB14 : cl14 B := (g14.2.2.2.1 B (by omega)).1.mpr (Or.inr rfl)
  have S1 : Sf8 r8.2 s8.2 It22 Bk22 cl14 b a p0 := by
    have x1 := keepO b a p0 hbB (Nat.le_refl _) S1o
    have x2 := G1.2.2.1 b a p0 (by omega) (by omega) (by rw [tn_of i3]; omega) x1
    have x3 := keepM b a p0 (by omega) (Or.inl (Nat.le_refl _)) (by omega) x2
    exact G2.2.2.1 b a p0 (by omega) (by omega) (by rw [tn_of mi3]; omega) x3
  have S2 : Sf8 r8.2 s8.2 It22 Bk22 cl14 B (p0 + 1) e1 := by
    have x2 : Sf8 r7.2 s7.2 It6 Bk6 cl5 B (p0 + 1) e1 := by
      have := W12.1.1.2.2.2.2.2.2
      rw [tn_of mi1] at this; exact this
    have x3 := keepM B (p0 + 1) e1 hBB (Or.inr (by omega)) (Nat.le_refl _) x2
    exact G2.2.2.1 B (p0 + 1) e1 (by omega) (by omega) (by rw [tn_of mi3]; omega) x3
  have E1' : En7 (r8.2.2.1 44) (s8.2.1 51) (s8.2.1 53) (s8.2.1 54) (s8.2.1 0 88).toNatClampNeg B e1 := by
    obtain ⟨em, ex, ef, x1, x2, x3, x4, x5, x6⟩ := E1
    have l4 : ef < (z8.1 0 88).toNatClampNeg := x4
    refine ⟨em, ex, ef, x1, ?_, ?_, ?_, ?_, ?_⟩
    · rw [(G2.2.2.2.1 B (by omega)).2 (by omega)]; exact x2
    · rw [kz8 51 e1 (by decide) (by decide) (Nat.le_refl _)]; exact x3
    · have := G2.2.1.2; omega
    · rw [G2.2.2.2.2.2 53 ef (Or.inl rfl) l4]; exact x5
    · rw [G2.2.2.2.2.2 54 ef (Or.inr rfl) l4]; exact x6
  have q9i : q9.1 137 13 = r8.2.1 137 13 := by
    rw [lv.fx.2.1 137 13 (by decide) (by decide) (by decide) (by decide) (by decide), hq7, sF_k (by decide)]; rfl
  have c13 := W22.1.2.2.2.2.2.2.1.2.1
  have ht13 : (q9.1 137 13 - 1).toInt = (ob : Int) := by
    rw [q9i, ti_sub (by rw [c13, e1']; omega) (by rw [c13, e1']; omega), c13, e1']; omega
  obtain ⟨W23, k3', l3', hxc, c396, c391, hfinC⟩ := cho_close (m2 := m) W22 n1 hq7 lv hqc ht13 ci hmq er8 nP22 ⟨e1p, by omega⟩ rfl (by rw [kz8 46 p0 (by decide) (by decide) (by omega), kzM 46 (by decide) (by decide) (by decide)]; exact k46) (by rw [kz8 48 p0 (by decide) (by decide) (by omega), kzM 48 (by decide) (by decide) (by decide)]; exact k48) (by rw [kz8 51 p0 (by decide) (by decide) (by omega), kzM 51 (by decide) (by decide) (by decide)]; exact k51) (by rw [kz8 52 p0 (by decide) (by decide) (by omega), kzM 52 (by decide) (by decide) (by decide)]; exact k52) (by omega) (by rw [kzo 53 (Or.inl rfl)]; exact k53) (by rw [kzo 54 (Or.inr rfl)]; exact k54) rfl (by rw [t62]; exact tb62) ⟨hbB, hBB⟩ hb2 hB14 S1 S2 (by rw [kz8 46 e1 (by decide) (by decide) (Nat.le_refl _)]; exact mi5) (by rw [kz8 49 p0 (by decide) (by decide) (by omega)]; exact mi7) E1' (by rw [zc65, fm8.2.1 65 (by decide) (by decide) (by decide) (by decide) (by decide)]; exact z65b')
  have gw := gw_if G1 G2 (by omega) (by omega) hBB i1 i3 mi1 mi3 c1 c3 i2 i4 mi2 mi4 c2 c4 keepO keepM k3' l44o l44m l3' (fun i k x1 x2 x3 => hmo.2.2.1 i k (by omega) (by omega) (by omega) (by omega) (by omega) (by omega) (by omega) (by omega)) hfinM hfinC k46 mi5 ci.2.2.1.1 (fun i k hi hk => hmo.2.2.1 i k (by omega) (by omega) (by omega) (by omega) (by omega) (by omega) (by omega) (by omega)) (fun i k hi hk => hmm.2.2.1 i k (by omega) (by omega) (by omega) (by omega) (by omega) (by omega) (by omega) (by omega)) (fun i k hi hk => hmc.2.2.1 i k (by omega) (by omega) (by omega) (by omega) (by omega) (by omega) (by omega) (by omega))
  have fyc : Fy9 v h D N.length bc m r7.2 s7.2 r8.2 s8.2 := (((Fy9.hop hxm hmm (Nat.le_refl _) (Nat.le_refl _) (Nat.le_refl _) (by rw [tn_of hB2, e6m]; exact Nat.le_succ _)).tr F14.fy (Nat.le_refl _) (Nat.le_refl _) (Nat.le_succ _) (Nat.le_succ _)).tr (F9.q (v := v) (b := b) (B := B) (D := D) (n := N.length) (bc := bc) (It := It14) (Bk := Bk14) (cl := cl14) fx21 fm21 (Nat.le_refl h) (Nat.le_refl m)).fy (Nat.le_refl _) (Nat.le_refl _) (Nat.le_refl _) (Nat.le_refl _)).tr (F22 0).fy (Nat.le_refl _) (Nat.le_refl _) (Nat.le_succ _) (Nat.le_refl _)
  have fyM : Fy9 v h D N.length bc m r7.2 s7.2 qc zc := fyc.tr (Fy9.hop hxc hmc (Nat.le_refl _) (Nat.le_refl _) (Nat.le_refl _) (by rw [c396]; exact Nat.le_refl _)) (Nat.le_refl _) (Nat.le_refl _) (Nat.le_refl _) (Nat.le_refl _)
  have fy1 : Fy9 v h D N.length bc m q2 z2 r7.2 s7.2 := (((Fy9.hop hxo hmo (Nat.le_refl _) (Nat.le_refl _) (Nat.le_refl _) (by rw [tn_of hB, e6f]; exact Nat.le_succ _)).tr F5.fy (Nat.le_refl _) (Nat.le_refl _) (Nat.le_succ _) (Nat.le_succ _)).tr (F11 0).fy (Nat.le_refl _) (Nat.le_refl _) (Nat.le_succ _) (Nat.le_refl _)).tr (F12 0).fy (Nat.le_refl _) (Nat.le_refl _) (Nat.le_succ _) (Nat.le_refl _)
  have fy := fy1.tr fyM (Nat.le_refl _) (Nat.le_refl _) (Nat.le_refl _) (Nat.le_refl _)
  have qci : ∀ i k, i ≠ 39 → i ≠ 40 → i ≠ 42 → i ≠ 43 → i ≠ 45 → ¬ (i = 137 ∧ (k = 8 ∨ k = 12 ∨ k = 13)) → qc.1 i k = q21.1 i k := fun i k x1 x2 x3 x4 x5 x6 => by
    rw [hqc, sF_at, if_neg (by omega), sF_at, if_neg (by omega), sF_at, if_neg (by omega), sF_at, if_neg (by omega), lv.fx.2.1 i k x1 x2 x3 x4 x5, hq7, sF_at, if_neg (by omega)]
    show r8.2.1 i k = _
    exact fx8.2.1 i k x1 x2 x3 x4 x5
  have qc2 : qc.1 39 2 = q14.1 39 2 := by
    rw [hxc.2.2.2.2.1 2 (by decide) (by decide), fx8.2.2.1 2 (by decide)]; exact fx21.2.1 39 2 (by decide) (by decide) (by decide) (by omega)
  have qc3 : qc.1 39 3 = q21.1 39 3 := by
    rw [hxc.2.2.2.2.1 3 (by decide) (by decide), fx8.2.2.1 3 (by decide)]
  have qc6 : qc.1 39 6 = q14.1 39 6 := by
    rw [c396, fx8.2.2.1 6 (by decide)]; exact fx21.2.1 39 6 (by decide) (by decide) (by decide) (by omega)
  have len2 : It14.length ≤ It22.length := by
    obtain ⟨⟨E, _, e1', _⟩, _⟩ := g8.1 0
    rw [e1', List.length_append]; omega
  have F23 : F9 v b B h D N.length bc m q2 z2 It Bk cl qc zc (It22 ++ [p0]) (Bk22 ++ [b]) (fun y => cl14 y ∨ y = B2) := fy.f9 gw (by
    have a1 := W2.1.1.1.1
    rw [c391, qc2, qc6, a1, hB]
    rw [v8f, n8', n14', f13] at y14
    rw [b7] at hB2
    rw [v39f, n39', n395, f6, hB2] at y5
    omega)
  have pcc : (qc.1 137 9).toInt = ((e + 1 : Nat) : Int) := by rw [qci 137 9 (by decide) (by decide) (by decide) (by decide) (by decide) (by omega)]; exact pc21
  have buc : Bu9 (a14 + 1) qc (X + ((e - d : Nat) : Int)) (Y + ((j - m' : Nat) : Int)) := (bu21.same qc3 (qci 30 5 (by decide) (by decide) (by decide) (by decide) (by decide) (by omega))).mono (by omega) (by omega)
  have B0 : (q2.1 39 6).toNatClampNeg = B := tn_of hB
  rw [← B0] at F23
  obtain ⟨n30, n31, _⟩ := fyc.2.2.1.2.2 y7 (va_kind V7).1
  have e93 : q7.1 45 (4 * v + 2) = s8.2.1 0 93 := by
    rw [hq7, sF_i (by decide)]
    exact W22.1.1.1.2.2.2.1
  rw [e93] at hfin
  exact cho_last W23 F23 pcc buc ok (V7.gr fyM.2.2.1.1 fyM.2.2.1.2) hy7 (cn_iff hmk hmq (n30.trans ey7a) (n31.trans ey7b) ey8a ey8b) (by omega) hfin hrf
end

section
theorem cho_all {β : Type} {K : Mem → Option β} {Post : Int32 × Mem → β → Prop} {P : Nat} {C : List Th3} {G : List Fn5} {df : Nat} {T : List Th3} {o r : Nat} {N : List Int32} {i m' m2 j d d2 e : Nat} (hF : Fn9 G T o) (h1 : T[i]? = some (7, 0, 3)) (hml : m' ≤ T.length) (h2 : C[d]? = some (6, Int32.ofNat (d2 + 1), 0)) (b' : Cd6 (at5 T) (at5 C) r 1 N m' m2 (d + 1) d2) (ib : E9 P C G df o r 1 N m' m2 (d + 1) d2) (h3 : C[d2]? = some (7, Int32.ofNat (e + 1), 0)) (c' : Cd6 (at5 T) (at5 C) r 1 N m2 j (d2 + 1) e) (ic : E9 P C G df o r 1 N m2 j (d2 + 1) e) (h4 : C[e]? = some (8, 0, 0)) {q3 z3 : Mem} {It Bk : List Nat} {cl : Nat → Prop} {v b a h D m bc ob : Nat} {a3 : Int32} {nn fu : Nat} {X Y : Int} (W3 : W9 P C G v b a (h + 1) D N (m + 1) bc ob q3 z3 It Bk cl) (k37 : z3.1 37 m = 2) (k38 : (z3.1 38 m).toInt = ((o + i : Nat) : Int)) (hsh : Sh (iv z3 9) 1 (o + (i + 1)) (o + m')) (hpc3 : (q3.1 137 9).toInt = (d : Int)) (hbu3 : Bu9 a3 q3 X Y) (hh : h + (j - m') + 1 ≤ 80 * (D + 1)) (hbc : bc + (r + 1) ≤ 20 * (D + 1)) (hob : ob + (r + 1) ≤ 20 ∧ 12 ≤ D + df) (hX : X + ((e + 1 - d : Nat) : Int) ≤ 1000000) (hY : Y + ((j - m' : Nat) : Int) ≤ 30200) (ok : Ok9 K Post P C G v b a (h + 1) D N m bc ob h m q3 z3 It Bk cl (e + 1) (X + ((e + 1 - d : Nat) : Int)) (Y + ((j - m' : Nat) : Int))) (bad : Bd9 K Post) : Rn9 K Post nn a3 q3 fu z3 := by
  have e1' : (1 : Int32).toInt = 1 := by decide
  have i1n : (1 : Int32).toInt = ((1 : Nat) : Int) := by decide
  have i2n : (2 : Int32).toInt = ((2 : Nat) : Int) := by decide
  have i0n : (0 : Int32).toInt = ((0 : Nat) : Int) := by decide
  have hD : D ≤ 12 := W3.1.2.2.2.2.2.1.2.2.2
  have lb := b'.le
  have lc := c'.le
  have hm2l := cd_len b' hml
  have hjl := cd_len c' hm2l
  have hil : i < T.length := lt_some h1
  have hol := fn_len hF
  have htot := W3.tot
  have hCl : C.length ≤ 2472 := W3.2.1.2.2.2.1
  have hel := lt_some h4
  have hbc26 : bc < 260 := by omega
  have xb : X + 1 ≤ 1000000 := by omega
  obtain ⟨q0, z4, fx0, fm0, S0, z65, pc0, b5, bu0, stp, ez0⟩ := W3.beg (h := h) h2 hpc3 hbu3 xb
  have bu0 : Bu9 (a3 + 1) q0 (X + 1) Y := by
    have := hbu3.step (q := q0) (y := 0) (by omega) (fx0.2.1 39 3 (by decide) (by decide) (by decide) (by omega)) (by rw [b5]; omega) (by rw [b5]; omega)
    rw [Int.add_zero] at this; exact this
  obtain ⟨x1, y1, u1, V1, p1, g1, n1⟩ := pn_both S0
  have D2 := sk_down S0
  generalize hq2 : sF q0 30 7 (q0.1 30 7 - 1) = q2 at V1 p1 D2
  generalize hz2 : sF z4 0 66 (z4.1 0 66 - 1) = z2 at V1 g1 n1 D2
  have fx2 : Qx8 h q3 q2 := by rw [← hq2]; exact fx0.tr (Qx8.top _)
  have fm2 : Qm8 h m z3 z2 := by rw [← hz2]; exact fm0.tr (Qm8.F _ (by omega))
  obtain ⟨m1, b1, hm1, eu1, ey1, eb1⟩ := va_num V1
  have z65' : (z2.1 0 65).toInt = (m : Int) := by rw [← hz2, sF_k (by decide)]; exact z65
  have hpc2 : (q2.1 137 9).toInt = ((d + 1 : Nat) : Int) := by rw [← hq2, sF_i (by decide)]; exact pc0
  have bu2 : Bu9 (a3 + 1) q2 (X + 1) Y := bu0.same (by rw [← hq2, sF_i (by decide)]) (by rw [← hq2, sF_k (by decide)])
  have W2 : W9 P C G v b a h D N m bc ob q2 z2 It Bk cl := W3.low fx2 fm2 (by omega) D2.1.1 D2.1.2.1 z65'
  have F2 : ∀ B, F9 v b B h D N.length bc m q3 z3 It Bk cl q2 z2 It Bk cl := fun B => F9.q (h0 := h) (m0 := m) fx2 fm2 (Nat.le_refl _) (Nat.le_refl _)
  obtain ⟨c12, c13, c90⟩ := W2.1.2.2.2.2.2.2.1
  have sb : Sh (iv z2 9) 1 (o + m') (o + m2) := cd_sh (W2.t9 hF) b'
  have sh2 : Sh (iv z2 9) 1 (o + (i + 1)) (o + m') := hsh.cong (fun k _ _ => by unfold iv; rw [fm2.2.2.1 9 k (by decide) (by omega) (by omega) (by omega)])
  have lsb := sb.le
  have lsh := sh2.le
  have b10a : (z2.1 10 (o + (i + 1))).toInt = ((o + m' : Nat) : Int) := W2.bh (by omega) sh2
  have b10b : (z2.1 10 (o + m')).toInt = ((o + m2 : Nat) : Int) := W2.bh (by omega) sb
  have t1 : (z3.1 38 m + 1).toInt = ((o + (i + 1) : Nat) : Int) := by rw [ti_add (by omega) (by omega), k38, e1']; omega
  have hbody : ∀ {A : Mem → Prop}, pk (if (s_X0_isKnown u1) = 0 then bd (p_X5_addBlock q2) (fun r5 μ4 => bw (p_X10_openBranch u1 r5 μ4) (fun μ6 => bv (sF μ6 137 13 ((μ6.1 137 13) + 1)) (fun μ8 => bv (sF μ8 137 8 r5) (fun μ9 => some μ9)))) else bw (p_X10_openBranch u1 (-1) q2) (fun μ10 => (if (s_X0_isTrue u1) = 0 then bv (sF μ10 137 9 (Int32.ofNat (d2 + 1))) (fun μ13 => some μ13) else bv (sF μ10 137 9 (μ10.1 137 9)) (fun μ14 => some μ14)))) A → pk (p_X10_step q3) A := by
    intro A hA
    refine stp (show pk (bw (p_X10_test (Int32.ofNat (d2 + 1)) q0) (fun μ18 => some μ18)) A from ?_)
    refine pk_bw (P := A) ?_ (fun q hq => pk_some hq)
    rw [p_X10_test_eq]
    exact pk_bdv p1 hA
  have hact : ∀ {B : Mem → Prop}, (∀ r4 : Int32, r4.toInt = (y1 : Int) → pk (bd (p_X12_isKnown r4 z2) (fun r7 μ6 => (if r7 = 0 then bd (p_X12_item 6 μ6) (fun r10 μ9 => bw (p_X12_operand r10 r4 μ9) (fun μ11 => bv (sF μ11 0 90 ((μ11.1 0 90) + 1)) (fun μ13 => gd (inb (z2.1 10 (o + (i + 1))) 800) (bw (p_X12_push 6 r10 (μ13.1 10 (z2.1 10 (o + (i + 1))).toNatClampNeg) μ13) (fun μ14 => bw (p_X12_push 0 (z2.1 10 (o + (i + 1))) 0 μ14) (fun μ16 => some μ16)))))) else gd (inb r4 100000) (gd (inb r4 100000) ((if (s_X12_isTrue (μ6.1 30 r4.toNatClampNeg) (μ6.1 31 r4.toNatClampNeg)) = 0 then gd (inb (z2.1 10 (o + (i + 1))) 800) (bw (p_X12_push 0 (μ6.1 10 (z2.1 10 (o + (i + 1))).toNatClampNeg) 0 μ6) (fun μ19 => some μ19)) else bw (p_X12_push 0 (z2.1 10 (o + (i + 1))) 0 μ6) (fun μ21 => some μ21))))))) B) → pk (p_X12_goOne (z3.1 37 m) (z3.1 38 m) (z3.1 39 m) (sF z3 0 65 (z3.1 0 65 - 1))) B := by
    intro B hB
    rw [ez0, k37, p_X12_goOne_eq, if_neg (by decide), if_neg (by decide), if_pos rfl]
    refine pk_bw (P := B) ?_ (fun q hq => pk_some hq)
    rw [p_X12_choose_eq]
    refine gone_num g1 n1 (fun r4 hr4 => ?_)
    rw [tn_of t1]
    exact pk_gd (fun _ => pk_bvs (hB r4 hr4))
  by_cases k1 : m1 ≤ 1
  · -- known
    have kt := na_true k1 b1
    have okK : ∀ (q z : Mem) (n fu : Nat) (qb : Mem) (pc : Int32) (t p1 p2 e0 tt : Nat), Ob7 bc u1 (-1) q2 qb → q = sF qb 137 9 pc → pc.toInt = (t : Int) → Qm8 h m z2 z → (z.1 0 65).toInt = ((m + 1 : Nat) : Int) → z.1 0 66 = z2.1 0 66 → z.1 37 m = 0 → (z.1 38 m).toInt = ((o + p1 : Nat) : Int) → Cd6 (at5 T) (at5 C) r 1 N p1 p2 t e0 → E9 P C G df o r 1 N p1 p2 t e0 → ((C[e0]? = some (7, Int32.ofNat (e + 1), 0) ∧ (Int32.ofNat (e + 1)).toInt = (tt : Int)) ∨ (C[e0]? = some (8, 0, 0) ∧ tt = e0 + 1)) → tt = e + 1 → m' ≤ p1 → p2 ≤ j → d + 1 ≤ t → e0 ≤ e → Rn9 K Post n (a3 + 1) q fu z := by
      intro q z n fu qb pc t p1 p2 e0 tt hob7 hq hpc fm w65 w66 w37 w38 cd ie hkk htt l1 l2 l3 l4
      obtain ⟨W5, F5, v138, hx5⟩ := W2.opk hob7 hq fm w65 w66
      have lcd := cd.le
      have hpcq : (q.1 137 9).toInt = (t : Int) := by rw [hq, sF_v]; exact hpc
      have bu5 : Bu9 (a3 + 1) q (X + 1) Y := bu2.same (hx5.2.2.2.2.1 3 (by decide) (by decide)) (by rw [hq, sF_i (by decide), hob7.2.2.2.2.2 30 5 (by decide) (by decide)])
      refine ie K Post q z It Bk cl v b a h D m (bc + 1) ob (a3 + 1) n fu (X + 1) Y W5 ⟨o + p1, rfl, cd_sh (W5.t9 hF) cd, w37, w38⟩ hpcq bu5 (by omega) (by omega) (by omega) (by omega) (by omega) ?_ bad
      intro q7 z7 It7 Bk7 cl7 a7 n7 f7 W7 F7 hpc7 hbu7
      have v138' : q7.1 138 (3 * bc + 1) = -1 := by rw [F7.2.1.2.2.2.1 _ (by omega)]; exact v138
      refine k_close W7 hkk hpc7 v138' hbc26 hbu7 (by omega) ?_
      intro q8 n8 W8 F8 hpc8 hbu8
      refine ok q8 z7 It7 Bk7 cl7 (a7 + 1) n8 f7 W8 ?_ (by rw [hpc8, htt]) (hbu8.mono (by omega) (by omega))
      have c39 : (q.1 39 6) = q3.1 39 6 := by rw [hx5.2.1 39 6 |> fun _ => show q.1 39 6 = q2.1 39 6 from by rw [hq, sF_i (by decide), hob7.2.2.2.2.2 39 6 (by decide) (by decide)]]; exact fx2.2.1 39 6 (by decide) (by decide) (by decide) (by omega)
      exact (((F2 _).tr (F5 _) (Nat.le_refl _) (Nat.le_refl _) (Nat.le_refl _) (Nat.le_refl _) (Nat.le_refl _)).tr F7 (Nat.le_refl _) (Nat.le_refl _) (by omega) (Nat.le_refl _) (by rw [c39]; exact Nat.le_refl _)).tr (F8 (q7.1 39 6).toNatClampNeg) (by omega) (Nat.le_refl _) (Nat.le_refl _) (Nat.le_refl _) (by have := F7.2.2.2.2.1.1.2; rw [c39] at this; exact this)
    refine op_run W3 hbu3 xb (A := fun q => ∃ qb, Ob7 bc u1 (-1) q2 qb ∧ q = sF qb 137 9 (if s_X12_isTrue (nI m1) b1 = 0 then Int32.ofNat (d2 + 1) else q2.1 137 9)) (B := fun z => Qm8 h m z2 z ∧ (z.1 0 65).toInt = ((m + 1 : Nat) : Int) ∧ z.1 0 66 = z2.1 0 66 ∧ z.1 37 m = 0 ∧ (z.1 38 m).toInt = ((o + (if s_X12_isTrue (nI m1) b1 = 0 then m2 else m') : Nat) : Int)) (hbody ?_) (hact ?_) ?_
    · rw [if_neg (by rw [eu1]; exact isk_le _ k1)]
      refine pk_bw (c_openBranch c12 hbc26) (fun qb hob7 => ?_)
      have b9 : qb.1 137 9 = q2.1 137 9 := hob7.2.2.1 9 (by decide)
      rw [eu1, kt, b9]
      refine pk_ite (fun ct => pk_bvs (pk_some ⟨qb, by rw [← eu1]; exact hob7, ?_⟩)) (fun ct => pk_bvs (pk_some ⟨qb, by rw [← eu1]; exact hob7, ?_⟩))
      · rw [if_pos ct]
      · rw [if_neg ct]
    · intro r4 hr4
      refine m_known2 hr4 (fun r7 hr7 => ?_)
      rw [if_neg (fun c => by have := hr7.mp c; rw [ey1] at this; exact nI_n3 k1 this), tn_of hr4, ey1, eb1]
      have pushed : ∀ (w : Int32) (p : Nat), w.toInt = (p : Int) → pk (bw (p_X12_push 0 w 0 z2) (fun μ19 => some μ19)) (fun z => Qm8 h m z2 z ∧ (z.1 0 65).toInt = ((m + 1 : Nat) : Int) ∧ z.1 0 66 = z2.1 0 66 ∧ z.1 37 m = 0 ∧ (z.1 38 m).toInt = (p : Int)) := by
        intro w p hw
        refine pk_bw (m_push 0 w 0 z65') (fun z hz => pk_some ?_)
        obtain ⟨hz, hm6⟩ := hz
        refine ⟨by rw [hz]; exact Qm8.act (Nat.le_refl _) _ _ _ _, by rw [hz, sF_v, ti_add (by omega) (by omega), z65', e1']; omega, by rw [hz, sF_k (by decide), sF_i (by decide), sF_i (by decide), sF_i (by decide)], by rw [hz, sF_i (by decide), sF_i (by decide), sF_i (by decide), sF_v], by rw [hz, sF_i (by decide), sF_i (by decide), sF_v]; exact hw⟩
      refine pk_gd (fun _ => pk_gd (fun _ => pk_ite (fun ct => pk_gd (fun _ => ?_)) (fun ct => ?_)))
      · rw [if_pos ct, tn_of b10a]; exact pushed _ _ b10b
      · rw [if_neg ct]; exact pushed _ _ b10a
    · rintro q z n fu ⟨qb, hob7, hq⟩ ⟨fm, w65, w66, w37, w38⟩
      by_cases ct : s_X12_isTrue (nI m1) b1 = 0
      · rw [if_pos ct] at hq w38
        exact okK q z n fu qb _ (d2 + 1) m2 j e (e + 1) hob7 hq (Int32.toInt_ofNat_of_lt (by omega)) fm w65 w66 w37 w38 c' ic (Or.inr ⟨h4, rfl⟩) rfl (by omega) (Nat.le_refl _) (by omega) (Nat.le_refl _)
      · rw [if_neg ct] at hq w38
        exact okK q z n fu qb _ (d + 1) m' m2 d2 (e + 1) hob7 hq hpc2 fm w65 w66 w37 w38 b' ib (Or.inl ⟨h3, Int32.toInt_ofNat_of_lt (by omega)⟩) rfl (Nat.le_refl _) (by omega) (Nat.le_refl _) (by omega)
  · -- unknown
    have hm3 : m1 = 3 := by omega
    subst hm3
    obtain ⟨⟨s1, s2, s3, s4, s5, s6⟩, n39, hl43, n89, n300⟩ := W2.f43
    have hbd2 := W2.2.2.2.2.1
    obtain ⟨B, hB⟩ : ∃ B : Nat, (q2.1 39 6).toInt = (B : Int) := ⟨(q2.1 39 6).toInt.toNat, by omega⟩
    have hB6 : B < 672 := by omega
    obtain ⟨_, _, _, _, _, O, _, hO⟩ := W2.1.1.1
    have hO : (z2.1 0 88).toInt = (O : Int) := hO.1
    refine op_run W3 hbu3 xb (A := fun q => ∃ qa qb, Nb7 B q2 qa ∧ Ob7 bc (s_X0_make (nI 3) b1) (nI B) qa qb ∧ q = sF (sF qb 137 13 (qb.1 137 13 + 1)) 137 8 (nI B)) (B := fun ze => ∃ p0 : Nat, m < 6000 ∧ Oi8 h m p0 O (z2.1 30 y1) (z2.1 31 y1) z2 ze ∧ ze.1 0 90 = z2.1 0 90 + 1 ∧ (ze.1 0 65).toInt = ((m + 2 : Nat) : Int) ∧ (ze.1 37 m = 6 ∧ (ze.1 38 m).toInt = (p0 : Int) ∧ ze.1 39 m = z2.1 10 (o + m')) ∧ (ze.1 37 (m + 1) = 0 ∧ ze.1 38 (m + 1) = z2.1 10 (o + (i + 1)))) (hbody ?_) (hact ?_) ?_
    · rw [if_pos (by rw [eu1]; exact isk_3 _)]
      refine pk_bd (c_addBlock hB hB6) (fun r5 qa hr => ?_)
      obtain ⟨hr1, nb⟩ := hr
      have hr1 : r5 = nI B := hr1
      rw [hr1, eu1]
      exact pk_bw (c_openBranch (by rw [nb.2.2.2.2.2.2 137 12 (by decide) (by decide) (by decide)]; exact c12) hbc26) (fun qb ob7 => pk_bvs (pk_bvs (pk_some ⟨qa, qb, nb, ob7, rfl⟩)))
    · intro r4 hr4
      refine m_known2 hr4 (fun r7 hr7 => ?_)
      rw [if_pos (hr7.mpr ey1)]
      exact m_open (v5 := o + m') hr4 b10a hO z65' rfl
    · rintro q z n fu ⟨qa, qb, nb, ob7, hq⟩ ⟨p0, hm6, oi, h90, h65, am, am1⟩
      rw [ey1, eb1] at oi
      have qk : ∀ i k, i ≠ 39 → i ≠ 42 → i ≠ 43 → i ≠ 137 → i ≠ 138 → q.1 i k = q2.1 i k := fun i k x1 x2 x3 x4 x5 => by
        rw [hq, sF_i x4, sF_i x4, ob7.2.2.2.2.2 i k x4 x5, nb.2.2.2.2.2.2 i k x1 x2 x3]
      have q393 : q.1 39 3 = q2.1 39 3 := by
        rw [hq, sF_i (by decide), sF_i (by decide), ob7.2.2.2.2.2 39 3 (by decide) (by decide), nb.2.2.1 3 (by decide)]
      have q9 : q.1 137 9 = q2.1 137 9 := by
        rw [hq, sF_k (by decide), sF_k (by decide), ob7.2.2.1 9 (by decide), nb.2.2.2.2.2.2 137 9 (by decide) (by decide) (by decide)]
      have c39 : q2.1 39 6 = q3.1 39 6 := fx2.2.1 39 6 (by decide) (by decide) (by decide) (by omega)
      refine cho_unk (w10 := 0) (a1 := a3 + 1) (X := X + 1) hF b' ib h3 c' ic h4 W2 hB nb ob7 hq oi h90 h65 ⟨am.1, am.2.1, by rw [am.2.2]; exact b10b⟩ ⟨am1.1, by rw [am1.2]; exact b10a⟩ (by rw [q9]; exact hpc2) (bu2.same q393 (qk 30 5 (by decide) (by decide) (by decide) (by decide) (by decide))) hh hbc hob (by omega) hY ?_ bad
      intro q5 z5 It5 Bk5 cl5 a5 n5 f5 W5 F5 hpc5 hbu5
      rw [c39] at F5
      exact ok q5 z5 It5 Bk5 cl5 a5 n5 f5 W5 ((F2 _).tr F5 (Nat.le_refl _) (Nat.le_refl _) (Nat.le_refl _) (Nat.le_refl _) (Nat.le_refl _)) hpc5 (hbu5.mono (by omega) (Int.le_refl _))
end

section
theorem e9_cho {P : Nat} {C : List Th3} {G : List Fn5} {df : Nat} {T : List Th3} {o r : Nat} {N : List Int32} {i m' m2 j c d d2 e : Nat} (hF : Fn9 G T o) (h1 : T[i]? = some (7, 0, 3)) (a' : Cd6 (at5 T) (at5 C) r 1 N (i + 1) m' c d) (ia : E9 P C G df o r 1 N (i + 1) m' c d) (h2 : C[d]? = some (6, Int32.ofNat (d2 + 1), 0)) (b' : Cd6 (at5 T) (at5 C) r 1 N m' m2 (d + 1) d2) (ib : E9 P C G df o r 1 N m' m2 (d + 1) d2) (h3 : C[d2]? = some (7, Int32.ofNat (e + 1), 0)) (c' : Cd6 (at5 T) (at5 C) r 1 N m2 j (d2 + 1) e) (ic : E9 P C G df o r 1 N m2 j (d2 + 1) e) (h4 : C[e]? = some (8, 0, 0)) : E9 P C G df o (r + 1) 1 N i j c (e + 1) := by
  intro β K Post μx μm It Bk cl v b a h D m bc ob a1 nn fu X Y W hA hpc hbu hh hbc hob hX hY ok bad
  have e1 : (1 : Int32).toInt = 1 := by decide
  have hD : D ≤ 12 := W.1.2.2.2.2.2.1.2.2.2
  have la := a'.le
  have lb := b'.le
  have lc := c'.le
  have hil : i < T.length := lt_some h1
  have hml := cd_len a' hil
  have hm2l := cd_len b' hml
  have hjl := cd_len c' hm2l
  have hol := fn_len hF
  have htot := W.tot
  obtain ⟨r', A1, _, A3, A4⟩ := hA
  have A1 : o + i = r' := A1
  subst A1
  obtain ⟨t7, _, _⟩ := fn_at W.pn hF i _ h1
  have t7 : μm.1 7 (o + i) = 7 := t7
  have sh1 : Sh (iv μm 9) 1 (o + (i + 1)) (o + m') := cd_sh (W.t9 hF) a'
  have lsh := sh1.le
  have q1 : Qm8 h m μm (sF μm 0 65 (μm.1 0 65 - 1)) := Qm8.F _ (by omega)
  have c1 : ∀ i l, i ≠ 0 → (sF μm 0 65 (μm.1 0 65 - 1)).1 i l = μm.1 i l := fun i l hi => by rw [sF_i hi]
  have x65 : ((sF μm 0 65 (μm.1 0 65 - 1)).1 0 65).toInt = (m : Int) := by
    have := ti_hi (μm.1 0 65)
    have h5 := W.x65
    rw [sF_v, ti_sub (by omega) (by omega), h5, e1]; omega
  have x66 : (sF μm 0 65 (μm.1 0 65 - 1)).1 0 66 = μm.1 0 66 := by rw [sF_k (by decide)]
  generalize hz0 : sF μm 0 65 (μm.1 0 65 - 1) = z0 at q1 c1 x65 x66
  refine gx_step W.x65 W.x68.1 (A := fun z => Qm8 h m z0 z ∧ (z.1 0 65).toInt = ((m + 2 : Nat) : Int) ∧ z.1 37 m = 2 ∧ (z.1 38 m).toInt = ((o + i : Nat) : Int) ∧ z.1 37 (m + 1) = 0 ∧ (z.1 38 (m + 1)).toInt = ((o + i + 1 : Nat) : Int) ∧ z.1 0 66 = z0.1 0 66) ?_ ?_
  · rw [hz0, A3]
    exact m_work_two A4 (by rw [c1 7 _ (by decide)]; exact t7) (Or.inl ⟨rfl, rfl⟩) (by omega) x65
  rintro f2 z1 _ ⟨y1, y2, y3, y4, y5, y6, y7⟩
  have qz : Qm8 h m μm z1 := q1.tr y1
  have W1 : W9 P C G v b a h D N (m + 1 + 1) bc ob μx z1 It Bk cl := W.low Qx8.rf qz (Nat.le_refl _) W.x7.1 (by rw [y7, x66]; exact W.x7.2) y2
  have sh1' : Sh (iv z1 9) 1 (o + (i + 1)) (o + m') := cd_sh (W1.t9 hF) a'
  refine ia K Post μx z1 It Bk cl v b a h D (m + 1) bc ob a1 nn f2 X Y W1 ⟨o + (i + 1), rfl, sh1', y5, y6⟩ hpc hbu (by omega) (by omega) (by omega) (by omega) (by omega) ?_ bad
  intro q3 z3 It3 Bk3 cl3 a3 n3 fu3 W3 F3 hpc3 hbu3
  have k37 : z3.1 37 m = 2 := by rw [F3.2.2.1.2.2 37 m (Or.inl rfl) (by omega)]; exact y3
  have k38 : (z3.1 38 m).toInt = ((o + i : Nat) : Int) := by rw [F3.2.2.1.2.2 38 m (Or.inr (Or.inl rfl)) (by omega)]; exact y4
  refine cho_all hF h1 hml h2 b' ib h3 c' ic h4 W3 k37 k38 (cd_sh (W3.t9 hF) a') hpc3 hbu3 (by omega) (by omega) (by omega) (by omega) (by omega) ?_ bad
  intro q5 z5 It5 Bk5 cl5 a5 n5 f5 W5 F5 hpc5 hbu5
  exact ok q5 z5 It5 Bk5 cl5 a5 n5 f5 W5 (((F9.q (v := v) (b := b) (B := (μx.1 39 6).toNatClampNeg) (D := D) (n := N.length) (bc := bc) (It := It) (Bk := Bk) (cl := cl) (Qx8.rf (h := h)) qz (Nat.le_refl _) (Nat.le_refl _)).tr (F3.low (Nat.le_succ _)) (Nat.le_refl _) (Nat.le_refl _) (Nat.le_refl _) (Nat.le_refl _) (Nat.le_refl _)).tr F5 (Nat.le_refl _) (Nat.le_refl _) (Nat.le_refl _) (Nat.le_refl _) F3.2.2.2.2.1.1.2) hpc5 (hbu5.mono (by omega) (by omega))
end

section
theorem fn_ex : ∀ {G : List Fn5} {j : Nat}, j < G.length → ∃ f G1 G2, G = G1 ++ f :: G2 ∧ G2.length = j := by
  intro G
  induction G with
  | nil => intro j h; exact absurd h (by simp)
  | cons g G ih =>
    intro j h
    by_cases c : j = G.length
    · exact ⟨g, [], G, rfl, c.symm⟩
    · obtain ⟨f, G1, G2, e, el⟩ := ih (j := j) (by have : j < G.length + 1 := h; omega)
      exact ⟨f, g :: G1, G2, by rw [e]; rfl, el⟩
theorem Fs5.tail {P : Nat} {μ : Mem} : ∀ {G1 G2 : List Fn5}, Fs5 P (G1 ++ G2) μ → Fs5 P G2 μ := by
  intro G1
  induction G1 with
  | nil => intro G2 h; exact h
  | cons g G1 ih => intro G2 h; exact ih h.2
theorem c_start {P : Nat} {G G1 G2 : List Fn5} {f : Fn5} {μ : Mem} {a : Int32} (hG : G = G1 ++ f :: G2) (hK : Kw (G.map fkey)) (h : Kt P (G.map fkey) μ) (hF : Fs5 P G μ) (ha : a.toInt = (ky (fkey f) : Int)) : pk (p_X3_startOf P a μ) (fun r => r.2 = μ ∧ r.1.toInt = (f.2.2.2 : Int)) := by
  have e0 : (0 : Int32).toInt = 0 := by decide
  have e72 : (72 : Int32).toInt = 72 := by decide
  have hx : Kv (fkey f) := hK.2 _ (List.mem_map.mpr ⟨f, by rw [hG]; simp, rfl⟩)
  have hl := ky_lt hx
  rw [hG] at hF
  obtain ⟨⟨_, _, _, _, _, _, f7, f8⟩, _⟩ := hF.tail
  have hlen : (G.map fkey).length = G1.length + G2.length + 1 := by rw [hG]; simp; omega
  rw [p_X3_startOf_eq, tn_of ha, tn_of f8]
  refine pk_ite (fun c => ?_) (fun _ => pk_ite (fun c => ?_) (fun _ => pk_gd (fun _ => pk_ite (fun c => ?_) (fun _ => pk_gd (fun _ => pk_ite (fun _ => pk_gd (fun _ => pk_gd (fun _ => pk_some ⟨rfl, f7⟩))) (fun c => ?_))))))
  · rw [ti_lt, ha, e0] at c; omega
  · rw [ti_le, ha, e72] at c; omega
  · rw [ti_lt, f8, e0] at c; omega
  · rw [ti_lt, f8, h.1, hlen] at c; omega
theorem m_fn {G : List Fn5} {μ : Mem} {w k : Int32} (hP : Pn5 μ G) : pk (p_X12_functionOf w k μ) (fun r => r.2 = μ ∧ ((r.1 = -1 ∧ ∀ f, f ∈ G → ¬ (f.1 - 97 + 1 = w ∧ (f.2.1.length : Int) = k.toInt)) ∨ ∃ f G1 G2, G = G1 ++ f :: G2 ∧ r.1.toInt = (G2.length : Int) ∧ f.1 - 97 + 1 = w ∧ (f.2.1.length : Int) = k.toInt)) := by
  have e1 : (1 : Int32).toInt = 1 := by decide
  obtain ⟨h17, _, hK⟩ := hP
  have row : ∀ {f G1 G2}, G = G1 ++ f :: G2 → μ.1 2 G2.length = f.1 - 97 + 1 ∧ (μ.1 3 G2.length).toInt = (f.2.1.length : Int) := by
    intro f G1 G2 e
    rw [e] at hK
    obtain ⟨⟨a1, a2, _⟩, _⟩ := hK.tail
    exact ⟨a1, a2⟩
  rw [p_X12_functionOf_eq]
  have loop : ∀ (n : Nat) (a3 : Int32) (i : Nat), a3.toInt = (i : Int) → (∀ f G1 G2, G = G1 ++ f :: G2 → G2.length < i → ¬ (f.1 - 97 + 1 = w ∧ (f.2.1.length : Int) = k.toInt)) → pk (p_X12_functionOf_b2 n w k a3 μ) (fun r => r.2 = μ ∧ ((r.1 = -1 ∧ ∀ f, f ∈ G → ¬ (f.1 - 97 + 1 = w ∧ (f.2.1.length : Int) = k.toInt)) ∨ ∃ f G1 G2, G = G1 ++ f :: G2 ∧ r.1.toInt = (G2.length : Int) ∧ f.1 - 97 + 1 = w ∧ (f.2.1.length : Int) = k.toInt)) := by
    intro n
    induction n with
    | zero => intro a3 i _ _ r e; rw [p_X12_functionOf_b2_z] at e; exact absurd e (by simp)
    | succ n ih =>
      intro a3 i hi hno
      rw [p_X12_functionOf_b2_s, tn_of hi]
      refine pk_ite (fun c => pk_some ⟨rfl, Or.inl ⟨rfl, fun f hf => ?_⟩⟩) (fun c => pk_gd fun hb => ?_)
      · rw [ti_le, hi, h17] at c
        obtain ⟨G1, G2, e⟩ := List.append_of_mem hf
        exact hno f G1 G2 e (by have := congrArg List.length e; simp at this; omega)
      · rw [ti_le, hi, h17] at c
        have hb := inb_iff.mp hb
        obtain ⟨f, G1, G2, e, el⟩ := fn_ex (G := G) (j := i) (by omega)
        obtain ⟨r2, r3⟩ := row e
        rw [el] at r2 r3
        have nx : ¬ (f.1 - 97 + 1 = w ∧ (f.2.1.length : Int) = k.toInt) → pk (p_X12_functionOf_b32 (p_X12_functionOf_b2 n) w k a3 μ) (fun r => r.2 = μ ∧ ((r.1 = -1 ∧ ∀ f, f ∈ G → ¬ (f.1 - 97 + 1 = w ∧ (f.2.1.length : Int) = k.toInt)) ∨ ∃ f G1 G2, G = G1 ++ f :: G2 ∧ r.1.toInt = (G2.length : Int) ∧ f.1 - 97 + 1 = w ∧ (f.2.1.length : Int) = k.toInt)) := by
          intro hn
          rw [p_X12_functionOf_b32_eq]
          refine pk_bv (ih _ (i + 1) (by rw [ti_add (by omega) (by omega), e1, hi]; omega) (fun g H1 H2 e2 el2 => ?_))
          by_cases c2 : H2.length = i
          · have hl := e.symm.trans e2
            have : G1.length = H1.length := by
              have := congrArg List.length hl
              simp at this; omega
            obtain ⟨_, e3⟩ := List.append_inj hl this
            have e4 : f = g := by injection e3
            rw [← e4]; exact hn
          · exact hno g H1 H2 e2 (by omega)
        rw [r2]
        refine pk_ite (fun c1 => pk_gd fun _ => pk_ite (fun c2 => pk_some ⟨rfl, Or.inr ⟨f, G1, G2, e, by rw [el]; exact hi, c1, by rw [← c2, r3]⟩⟩) (fun c2 => nx (fun x => c2 ?_))) (fun c1 => nx (fun x => c1 x.1))
        exact ti_eq.mpr (by rw [r3]; exact x.2)
  exact loop _ _ 0 (by decide) (fun f G1 G2 _ h => absurd h (by omega))
theorem W9.m45 {P : Nat} {C : List Th3} {G : List Fn5} {v b a h D m bc ob : Nat} {N : List Int32} {μx μm z : Mem} {It Bk : List Nat} {cl : Nat → Prop} (W : W9 P C G v b a h D N m bc ob μx μm It Bk cl) (z1 : ∀ i k, i ≠ 45 → z.1 i k = μm.1 i k) : W9 P C G v b a h D N m bc ob μx z It Bk cl := by
  obtain ⟨⟨hR, hB, hS, hV, hN, ⟨d1, d2, d3, d4⟩, ⟨o1, o2, o3⟩, hm, ⟨u1, u2, u3⟩, hL, hA⟩, hP, hPa, hc, hb, hs, hq⟩ := W
  have gx : Gs7 μx μx := Gs7.rf
  have gz : Gh7 μm z := gh_same (z1 0 56 (by decide)) (fun i k a1 a2 => z1 i k (by omega))
  refine ⟨⟨hR.of (fun i k _ => rfl) (fun k _ => rfl) (fun i k hi => rfl) (fun k _ => z1 0 k (by decide)) (fun i k a1 a2 _ _ => z1 i k (by omega)), hB, hS.of gx gz rfl (z1 0 66 (by decide)) (fun k _ => rfl) (fun k _ => z1 40 k (by decide)), fun c hc => ?_, hN, ⟨d1, by rw [z1 0 67 (by decide)]; exact d2, by rw [z1 0 92 (by decide)]; exact d3, d4⟩, ⟨o1, o2, by rw [z1 0 90 (by decide)]; exact o3⟩, by rw [z1 0 65 (by decide)]; exact hm, ⟨by rw [z1 0 91 (by decide)]; exact u1, by rw [z1 0 96 (by decide)]; exact u2, by rw [z1 0 97 (by decide)]; exact u3⟩, fun k hk => by rw [z1 29 k (by decide)]; exact hL k hk, by rw [z1 0 111 (by decide)]; exact hA⟩, hP.of rfl (fun i k _ _ => rfl) (fun k _ => z1 0 k (by decide)) (fun i k a1 a2 => z1 i k (by omega)) (bh_cong hP.2.2.2.2.2.2.2.2.2 (z1 0 18 (by decide)) (fun k => z1 9 k (by decide)) (fun k => z1 10 k (by decide))), hPa.of rfl (fun i k a1 a2 => ⟨rfl, rfl⟩) (fun u => rfl) (z1 0 110 (by decide)) (fun i k hi => z1 i k (by omega)) (fun u _ => rfl) (z1 0 111 (by decide)), hc, hb, hs, fun u hu => ?_⟩
  · obtain ⟨x, w, dd, c1, c2, c3⟩ := hV c hc
    exact ⟨x, w, dd, by rw [z1 41 _ (by decide)]; exact c1, c2.gr gx gz, c3⟩
  rw [hq u hu]
  unfold Ct9
  have e46 : z.1 46 = μm.1 46 := funext (fun k => z1 46 k (by decide))
  have e48 : z.1 48 = μm.1 48 := funext (fun k => z1 48 k (by decide))
  rw [e46, e48]
def Dc9 (n h : Nat) (μ z : Mem) : Prop := z.2 = μ.2 ∧ (z.1 0 66).toInt = (h : Int) ∧ (∀ i k, i ≠ 45 → ¬ (i = 0 ∧ k = 66) → z.1 i k = μ.1 i k) ∧ ∀ k, k < n → z.1 45 k = μ.1 40 (h + k)
theorem m_docall {z0 : Mem} {n h : Nat} {w k : Int32} {A : Mem → Prop} (hk : k.toInt = (n : Int)) (hn : n ≤ 5) (z66 : (z0.1 0 66).toInt = ((h + n : Nat) : Int)) (h69 : z0.1 0 69 = 1) (hA : ∀ zd, Dc9 n h z0 zd → pk (bd (p_X12_functionOf w k zd) (fun r4 μ3 => (if (μ3.1 0 69) = 0 then (if r4 = -1 then bv (sF μ3 0 68 4) (fun μ12 => some μ12) else bd (p_X12_beginsCall μ3) (fun r8 μ7 => (if r8 = 0 then some μ7 else bw (p_X12_enter r4 μ7) (fun μ10 => some μ10)))) else bw (p_X12_thinkCall r4 k μ3) (fun μ13 => some μ13)))) A) : pk (p_X12_doCall w k z0) A := by
  have e1 : (1 : Int32).toInt = 1 := by decide
  have em : (-1 : Int32).toInt = -1 := by decide
  have e0 : (0 : Int32).toInt = 0 := by decide
  rw [p_X12_doCall_eq]
  have loop : ∀ (l : Nat) (f : Nat) (a3 : Int32) (z : Mem), l ≤ n → a3.toInt = (l : Int) - 1 → z.2 = z0.2 → (z.1 0 66).toInt = ((h + l : Nat) : Int) → (∀ i k, i ≠ 45 → ¬ (i = 0 ∧ k = 66) → z.1 i k = z0.1 i k) → (∀ k, l ≤ k → k < n → z.1 45 k = z0.1 40 (h + k)) → pk (p_X12_doCall_b4 f w k a3 z) A := by
    intro l
    induction l with
    | zero =>
      intro f a3 z hl h3 y1 y2 y3 y4
      cases f with
      | zero => intro r e; rw [p_X12_doCall_b4_z] at e; exact absurd e (by simp)
      | succ f =>
        rw [p_X12_doCall_b4_s]
        refine pk_ite (fun _ => hA z ⟨y1, y2, y3, fun k hk => y4 k (by omega) hk⟩) (fun c => ?_)
        rw [ti_lt, h3, e0] at c; omega
    | succ l ih =>
      intro f a3 z hl h3 y1 y2 y3 y4
      cases f with
      | zero => intro r e; rw [p_X12_doCall_b4_z] at e; exact absurd e (by simp)
      | succ f =>
        rw [p_X12_doCall_b4_s]
        have h3' : a3.toInt = (l : Int) := by rw [h3]; omega
        refine pk_ite (fun c => ?_) (fun c => ?_)
        · rw [ti_lt, h3, e0] at c; omega
        refine pk_bd (m_gone (n := h + l) y2) (fun r μ15 hr => ?_)
        obtain ⟨hr1, hr2⟩ := hr
        have hr1 : r = z.1 40 (h + l) := hr1
        have hr2 : μ15 = sF z 0 66 (z.1 0 66 - 1) := hr2
        rw [tn_of h3', hr1, hr2]
        refine pk_gd (fun _ => pk_bvs (pk_bvs (ih f _ _ (by omega) ?_ ?_ ?_ ?_ ?_)))
        · rw [ti_add (by rw [em]; omega) (by rw [em]; omega), em, h3']; omega
        · exact y1
        · have := ti_hi (z.1 0 66)
          rw [sF_i (by decide), sF_v, ti_sub (by rw [y2, e1]; omega) (by rw [y2, e1]; omega), y2, e1]; omega
        · intro i k hi hk
          rw [sF_i hi, sF_at, if_neg hk]; exact y3 i k hi hk
        · intro k x1 x2
          by_cases c2 : k = l
          · subst c2
            rw [sF_v]; exact y3 40 _ (by decide) (by omega)
          · rw [sF_k c2, sF_i (by decide)]; exact y4 k (by omega) x2
  refine pk_bvy (fun v1 q1 => loop n FUEL v1 z0 (Nat.le_refl _) ?_ rfl z66 (fun _ _ _ _ => rfl) (fun k x1 x2 => absurd x2 (by omega)))
  rw [q1, ti_sub (by omega) (by omega), hk, e1]
end

section
theorem pk_done {α : Type} {f : Option (α × Mem)} {g : α → Mem → Option Mem} {k : Int32 → Mem → Option Mem} {A B : Mem → Prop} (h : pk (bd f (fun r μ => bw (g r μ) (fun μ8 => some μ8))) A) (hk : ∀ μ, A μ → pk (k 1 μ) B) : pk (bd (bd f (fun r μ => bw (g r μ) (fun μ8 => some ((1 : Int32), μ8)))) k) B := by
  cases f with
  | none => intro q e; exact absurd e (by simp [bd])
  | some r =>
    have h : pk (bw (g r.1 r.2) (fun μ8 => some μ8)) A := h
    show pk (bd (bw (g r.1 r.2) (fun μ8 => some ((1 : Int32), μ8))) k) B
    cases e : g r.1 r.2 with
    | none => intro q e2; exact absurd e2 (by simp [bd, bw])
    | some μ =>
      rw [e] at h
      exact hk μ (h μ rfl)
theorem F9.m45 {v b B h D n bc m : Nat} {μx μm z : Mem} {It Bk : List Nat} {cl : Nat → Prop} (z1 : ∀ i k, i ≠ 45 → z.1 i k = μm.1 i k) : F9 v b B h D n bc m μx μm It Bk cl μx z It Bk cl :=
  ⟨Gw8.same ⟨fun _ => rfl, fun _ => rfl, ⟨z1 0 87 (by decide), z1 0 88 (by decide)⟩, fun i k a b => z1 i k (by omega)⟩, Xs8.rf, ⟨fun k _ => z1 40 k (by decide), fun k _ => z1 41 k (by decide), fun i k hi _ => z1 i k (by omega)⟩, ⟨Gs7.rf, gh_same (z1 0 56 (by decide)) (fun i k a1 a2 => z1 i k (by omega))⟩, Yx9.rf, fun i k _ _ => z1 i k (by omega)⟩
theorem W9.given {P : Nat} {C : List Th3} {G : List Fn5} {v b a h n D m m' bc ob : Nat} {N : List Int32} {μx μm q1 z0 zd : Mem} {It Bk : List Nat} {cl : Nat → Prop} (W : W9 P C G v b a (h + n) D N m' bc ob μx μm It Bk cl) (fx : Qx8 h μx q1) (fm : Qm8 h m μm z0) (q7 : (q1.1 30 7).toInt = (h : Int)) (z65 : (z0.1 0 65).toInt = (m : Int)) (dc : Dc9 n h z0 zd) : W9 P C G v b a h D N m bc ob q1 zd It Bk cl ∧ (∀ B, F9 v b B h D N.length bc m μx μm It Bk cl q1 zd It Bk cl) := by
  obtain ⟨y1, y2, y3, y4⟩ := dc
  have hg : ∀ i k, i ≠ 45 → zd.1 i k = (((fun i k => if i = 45 then z0.1 45 k else zd.1 i k, zd.2) : Mem)).1 i k := fun i k hi => by
    show _ = (if i = 45 then z0.1 45 k else zd.1 i k)
    rw [if_neg hi]
  have g1 : ∀ i k, ¬ (i = 0 ∧ k = 66) → (((fun i k => if i = 45 then z0.1 45 k else zd.1 i k, zd.2) : Mem)).1 i k = z0.1 i k := fun i k hk => by
    show (if i = 45 then z0.1 45 k else zd.1 i k) = _
    by_cases c : i = 45
    · rw [if_pos c, c]
    · rw [if_neg c]; exact y3 i k c hk
  have g2 : (((fun i k => if i = 45 then z0.1 45 k else zd.1 i k, zd.2) : Mem)).2 = z0.2 := y1
  have g3 : ((((fun i k => if i = 45 then z0.1 45 k else zd.1 i k, zd.2) : Mem)).1 0 66).toInt = (h : Int) := y2
  generalize ((fun i k => if i = 45 then z0.1 45 k else zd.1 i k, zd.2) : Mem) = zg at hg g1 g2 g3
  have f1 : Qm8 h m z0 zg := ⟨g2, fun k _ _ _ _ x5 => g1 0 k (by omega), fun i k x1 _ _ _ => g1 i k (by omega), gh_same (g1 0 56 (by omega)) (fun i k a1 a2 => g1 i k (by omega))⟩
  have fz := fm.tr f1
  have W1 := W.low fx fz (by omega) q7 g3 (by rw [g1 0 65 (by omega)]; exact z65)
  exact ⟨W1.m45 hg, fun B => (F9.q fx fz (Nat.le_refl _) (Nat.le_refl _)).tr (F9.m45 hg) (Nat.le_refl _) (Nat.le_refl _) (Nat.le_refl _) (Nat.le_refl _) (Nat.le_refl _)⟩
theorem Ok9.re {β : Type} {K : Mem → Option β} {Post : Int32 × Mem → β → Prop} {P : Nat} {C : List Th3} {G : List Fn5} {v b a h D m bc ob h1 m1 : Nat} {N : List Int32} {μx μm q1 z1 : Mem} {It Bk : List Nat} {cl : Nat → Prop} {e : Nat} {X Y : Int} (ok : Ok9 K Post P C G v b a h D N m bc ob h1 m1 μx μm It Bk cl e X Y) (F : ∀ B, F9 v b B h1 D N.length bc m1 μx μm It Bk cl q1 z1 It Bk cl) (h6 : (q1.1 39 6).toNatClampNeg = (μx.1 39 6).toNatClampNeg) : Ok9 K Post P C G v b a h D N m bc ob h1 m1 q1 z1 It Bk cl e X Y := fun q z It2 Bk2 cl2 a1 n fu W F2 hpc hbu => by
  rw [h6] at F2
  exact ok q z It2 Bk2 cl2 a1 n fu W ((F _).tr F2 (Nat.le_refl _) (Nat.le_refl _) (Nat.le_refl _) (Nat.le_refl _) (Nat.le_refl _)) hpc hbu
theorem imax_h {a b : Int32} {h n : Nat} (ha : a.toInt = ((h + n : Nat) : Int)) (hb : b.toInt = (n : Int)) : (imax 0 (a - b)).toInt = (h : Int) := by
  have e0 : (0 : Int32).toInt = 0 := by decide
  have := ti_hi a
  have hs : (a - b).toInt = (h : Int) := by rw [ti_sub (by omega) (by omega), ha, hb]; omega
  unfold imax
  split
  · next c => exact hs
  · next c => rw [ti_lt, e0, hs] at c; rw [e0]; omega
theorem Kt.of {P : Nat} {K : List Ky} {μ q : Mem} (h : Kt P K μ) (e : ∀ i k, i = P ∨ i = P + 2 ∨ i = P + 3 → q.1 i k = μ.1 i k) : Kt P K q := by
  obtain ⟨h1, h2, h3, h4⟩ := h
  exact ⟨by rw [e P 0 (Or.inl rfl)]; exact h1, by rw [e P 2 (Or.inl rfl)]; exact h2, fun i hi => by rw [e (P + 2) i (Or.inr (Or.inl rfl))]; exact h3 i hi, fun k hk => by rw [e (P + 3) k (Or.inr (Or.inr rfl))]; exact h4 k hk⟩
theorem bw_bvs {β : Type} {x : Mem} (k : Mem → Option β) : bw (bv x (fun μ => some μ)) k = k x := rfl
theorem key_ti {l : Int32} {n : Nat} (hl : isL l = true) (hn : n ≤ 5) : ((l - 97) * 6 + Int32.ofNat n).toInt = (ky (l, n) : Int) := by
  have hr := isL_r hl
  have d0 : (97 : Int32).toInt = 97 := by decide
  have d1 : (l - 97).toInt = l.toInt - 97 := by rw [ti_sub (by omega) (by omega), d0]
  have d2 : ((l - 97) * 6).toInt = (l.toInt - 97) * 6 := by rw [ti_mulc (n := 6) (by decide) (by omega) (by omega), d1]
  have d3 : (Int32.ofNat n).toInt = (n : Int) := Int32.toInt_ofNat_of_lt (by omega)
  unfold ky
  rw [ti_add (by omega) (by omega), d2, d3]
  show _ = (((l.toInt - 97).toNat * 6 + n : Nat) : Int)
  omega
theorem let_eq {l x : Int32} (hl : isL l = true) (hx : isL x = true) (h : x - 97 + 1 = l - 97 + 1) : x = l := by
  have r1 := isL_r hl
  have r2 := isL_r hx
  have d0 : (97 : Int32).toInt = 97 := by decide
  have e1 : (1 : Int32).toInt = 1 := by decide
  have d1 : (l - 97).toInt = l.toInt - 97 := by rw [ti_sub (by omega) (by omega), d0]
  have d2 : (x - 97).toInt = x.toInt - 97 := by rw [ti_sub (by omega) (by omega), d0]
  have := congrArg Int32.toInt h
  rw [ti_add (by omega) (by omega), ti_add (by omega) (by omega), d1, d2, e1] at this
  exact ti_eq.mpr (by omega)
theorem op_untold {P : Nat} {C : List Th3} {G : List Fn5} {df : Nat} {T : List Th3} {o n : Nat} {N : List Int32} {i e : Nat} {l : Int32} (hF : Fn9 G T o) (h1 : T[i]? = some (12, l - 97 + 1, Int32.ofNat n)) (hl : isL l = true ∧ n ≤ 5) (h2 : C[e]? = some (13, (l - 97) * 6 + Int32.ofNat n, Int32.ofNat n)) (no : ¬ (l, n) ∈ G.map fkey) : Op9 P C G df (o + i) n N e := by
  intro β K Post μx μm It Bk cl v b a h D m bc ob a1 nn fu X Y W h37 h38 hpc hbu hhb hbc hob hX hY ok bad
  have hD : D ≤ 12 := W.1.2.2.2.2.2.1.2.2.2
  have hnt : (Int32.ofNat n).toInt = (n : Int) := Int32.toInt_ofNat_of_lt (by omega)
  obtain ⟨t7, t8, t9⟩ := fn_at W.pn hF i _ h1
  have t7 : μm.1 7 (o + i) = 12 := t7
  have t8 : μm.1 8 (o + i) = l - 97 + 1 := t8
  have t9 : μm.1 9 (o + i) = Int32.ofNat n := t9
  obtain ⟨q0, z0, fx0, fm0, S0, z65, pc0, b5, bu0, stp, ez0⟩ := W.beg h h2 hpc hbu hX
  obtain ⟨f43a, f43b, f43c, f43d, f43e⟩ := W.f43
  have h69 : z0.1 0 69 = 1 := by rw [fm0.2.1 69 (by decide) (by decide) (by decide) (by decide) (by decide)]; exact W.x68.2
  have q7 : ((sF q0 30 7 (imax 0 (q0.1 30 7 - Int32.ofNat n))).1 30 7).toInt = (h : Int) := by rw [sF_v]; exact imax_h S0.1 hnt
  have fx1 : Qx8 h μx (sF q0 30 7 (imax 0 (q0.1 30 7 - Int32.ofNat n))) := fx0.tr (Qx8.top _)
  have c22 : (sF q0 30 7 (imax 0 (q0.1 30 7 - Int32.ofNat n))).2.2 = q0.2.2 := rfl
  have c137 : ∀ k, (sF q0 30 7 (imax 0 (q0.1 30 7 - Int32.ofNat n))).1 137 k = q0.1 137 k := fun k => by rw [sF_i (by decide)]
  have c395 : (sF q0 30 7 (imax 0 (q0.1 30 7 - Int32.ofNat n))).1 30 5 = q0.1 30 5 := by rw [sF_k (by decide)]
  have c393 : (sF q0 30 7 (imax 0 (q0.1 30 7 - Int32.ofNat n))).1 39 3 = q0.1 39 3 := by rw [sF_i (by decide)]
  generalize hq1 : sF q0 30 7 (imax 0 (q0.1 30 7 - Int32.ofNat n)) = q1 at q7 fx1 c22 c137 c395 c393
  have hPr := W.2.1
  have hsel : sel 2 (q0.2.2 137 5) = P := by rw [fx0.1]; exact hPr.2.1
  have hP9 : P = 2 ∨ P = 9 := hPr.1
  have hKt : Kt P (G.map fkey) q0 := Kt.of hPr.2.2.2.2.2.1 (fun i k hi => fx0.2.1 i k (by omega) (by omega) (by omega) (by omega))
  refine op_run W hbu hX (A := Ai8 12 0 0 0 v b It.length h q1) (B := fun z => ∃ zd, Dc9 n h z0 zd ∧ Bi8 12 0 [] It.length h zd z) (stp ?_) ?_ ?_
  · show pk (bd (p_X10_workCall ((l - 97) * 6 + Int32.ofNat n) (Int32.ofNat n) q0) (fun r60 μ59 => (if r60 = 0 then bw (p_X10_shapeCall ((l - 97) * 6 + Int32.ofNat n) (Int32.ofNat n) μ59) (fun μ62 => bw (p_X10_leaveCall ((l - 97) * 6 + Int32.ofNat n) μ62) (fun μ64 => some μ64)) else some μ59))) _
    rw [p_X10_workCall_eq, hsel]
    rw [bd_bd]
    have hst := q_start (x := (l, n)) hPr.2.2.2.2.1 hKt (show Kv (l, n) from hl) (key_ti hl.1 hl.2)
    refine pk_bd hst ?_
    rintro r2 μ1 ⟨g1, g2⟩
    have g1 : μ1 = q0 := g1
    have g2 : r2 = -1 ↔ ¬ (l, n) ∈ G.map fkey := g2
    rw [g1, if_pos (g2.mpr no), p_X8_drop_eq, hq1, bw_bvs]
    exact pk_done (W.cins fx1 (by decide) q7 (by omega)) (fun μ hμ => by rw [if_neg (by decide)]; exact pk_some hμ)
  · rw [ez0]
    refine do_act fm0 h37 h38 t7 t8 t9 (body := p_X12_doCall (l - 97 + 1) (Int32.ofNat n) z0) (fun hb => ?_) ?_
    · rw [if_neg (by decide), if_neg (by decide), if_neg (by decide), if_neg (by decide), if_neg (by decide), if_neg (by decide), if_neg (by decide), if_neg (by decide), if_neg (by decide)]
      exact pk_gd (fun _ => pk_gd (fun _ => pk_bw hb (fun q hq => pk_some hq)))
    refine m_docall hnt hl.2 S0.2.1 h69 (fun zd dc => ?_)
    obtain ⟨W1, F1⟩ := W.given fx1 fm0 q7 z65 dc
    refine pk_bd (m_fn W1.pn) ?_
    rintro r4 μ3 ⟨g1, g2⟩
    have g1 : μ3 = zd := g1
    have k69 : zd.1 0 69 = 1 := W1.x68.2
    have k68 : zd.1 0 68 = 0 := W1.x68.1
    rw [g1, k69, if_neg (by decide)]
    rcases g2 with ⟨g3, _⟩ | ⟨f, G1, G2, x1, x2, x3, x4⟩
    · have g3 : r4 = -1 := g3
      refine pk_bw (P := fun z => ∃ zd, Dc9 n h z0 zd ∧ Bi8 12 0 [] It.length h zd z) ?_ (fun q hq => pk_some hq)
      rw [g3, p_X12_thinkCall_eq, if_pos rfl]
      obtain ⟨o88, ho88⟩ := W1.o88
      have hn2 := W1.f43.2.2.2.1
      refine pk_bd (m_instr 12 1 ho88 hn2 f43e) ?_
      rintro r2 μ1 ⟨p, hp, hr, hp9, h⟩
      have hr : r2.toInt = (p : Int) := hr
      rcases h with ⟨hn, z, hI, e⟩ | ⟨hn, hL⟩
      · have e : μ1 = sF z 0 68 (-2) := e
        have e68 : μ1.1 0 68 = -2 := by rw [e, sF_v]
        rw [if_neg (by rw [e68]; decide)]
        exact pk_some ⟨zd, dc, Or.inl ⟨hn, e68⟩⟩
      · have hL : La7 12 0 true [] p o88 It.length zd μ1 := hL
        have e68 : μ1.1 0 68 = 0 := by rw [hL.2.2.2.2.2.2.1 68 (by decide) (by decide) (by decide) (by decide)]; exact k68
        rw [if_pos e68]
        refine pk_mono (m_regcome hL hr W1.x7.2) ?_
        rintro z ⟨yy, z2, r, g1, g2, g3⟩
        exact ⟨zd, dc, Or.inr ⟨hn, p, o88, yy, _, z2, r, hp, ho88, hL, g1, g2, g3⟩⟩
    · exfalso
      rw [hnt] at x4
      have hfG : f ∈ G := by rw [x1]; simp
      refine no (List.mem_map.mpr ⟨f, hfG, ?_⟩)
      have : f.1 = l := let_eq hl.1 (hPr.2.2.2.2.1.2 _ (List.mem_map.mpr ⟨f, hfG, rfl⟩)).1 x3
      unfold fkey
      rw [this, show f.2.1.length = n from by omega]
  · rintro q z n2 fu2 hA ⟨zd, dc, hB⟩
    obtain ⟨W1, F1⟩ := W.given fx1 fm0 q7 z65 dc
    have h6 : (q1.1 39 6).toNatClampNeg = (μx.1 39 6).toNatClampNeg := by rw [fx1.2.1 39 6 (by decide) (by decide) (by decide) (by omega)]
    exact W1.ins (X := []) Qx8.rf Qm8.rf (Nat.le_refl _) (by omega) (by decide) (by decide) (by decide) (by decide) (show (0 : Nat) ≤ 2 by decide) (fun u hu => by simp at hu) (fun u hu => by simp at hu) W1.x7.1 W1.x7.2 W1.x65 hA hB (by rw [c137]; exact pc0) (bu0.same c393 c395) (ok.re F1 h6) bad
end
