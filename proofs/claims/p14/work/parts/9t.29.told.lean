def Kv6 (μ q : Mem) : Prop := Kq6 μ q ∧ (∀ i k, 18 ≤ i → i ≤ 23 → q.1 i k = μ.1 i k ∧ q.2.1 i k = μ.2.1 i k) ∧ q.2.2 0 6 = μ.2.2 0 6 ∧ q.2.2 0 7 = μ.2.2 0 7
theorem q_val11L {T : Nat} {μ : Mem} {L : List Tkn} (hT : (μ.1 0 1).toInt = (T : Int)) (h8 : T ≤ 800) (hR : Rfi μ) (hP : PL μ (sel 1 (μ.2.2 0 6)) L) : pk (p_X11_values μ) (fun r => Kv6 μ r.2 ∧ match rvL (fun j => μ.1 1 j) T (stc L) with
    | .inl f => r.1 = -1 ∧ (r.2.1 0 2).toInt = (f : Int) ∧ r.2.1 0 10 = μ.1 0 10 ∧ (∀ k, r.2.2.2 0 k = μ.2.2 0 k) ∧ ∀ i k, ¬ (sel 1 (μ.2.2 0 9) ≤ i ∧ i ≤ sel 1 (μ.2.2 0 9) + 2) → 18 ≤ i → i ≤ 29 → r.2.1 i k = μ.1 i k ∧ r.2.2.1 i k = μ.2.1 i k
    | .inr V => r.2.1 0 2 = -1 ∧ r.2.1 0 10 = 1 ∧ r.1.toInt = (stc L : Int) ∧ PL r.2 (sel 1 (r.2.2.2 0 8)) V) := by
  have main : ∀ a b d : Nat, (a = 24 ∨ a = 27) → (b = 24 ∨ b = 27) → (d = 18 ∨ d = 21) → a ≠ b → μ.2.2 0 9 = a → μ.2.2 0 8 = b → μ.2.2 0 6 = d → pk (p_X11_values μ) (fun r => Kv6 μ r.2 ∧ match rvL (fun j => μ.1 1 j) T (stc L) with
    | .inl f => r.1 = -1 ∧ (r.2.1 0 2).toInt = (f : Int) ∧ r.2.1 0 10 = μ.1 0 10 ∧ (∀ k, r.2.2.2 0 k = μ.2.2 0 k) ∧ ∀ i k, ¬ (sel 1 (μ.2.2 0 9) ≤ i ∧ i ≤ sel 1 (μ.2.2 0 9) + 2) → 18 ≤ i → i ≤ 29 → r.2.1 i k = μ.1 i k ∧ r.2.2.1 i k = μ.2.1 i k
    | .inr V => r.2.1 0 2 = -1 ∧ r.2.1 0 10 = 1 ∧ r.1.toInt = (stc L : Int) ∧ PL r.2 (sel 1 (r.2.2.2 0 8)) V) := by
    intro a b d ha hb hd hab h9 h8' h6
    have sa : sel 1 a = a := by rcases ha with rfl | rfl; exact sel_24; exact sel_27
    have sb : sel 1 b = b := by rcases hb with rfl | rfl; exact sel_24; exact sel_27
    have sd : sel 1 d = d := by rcases hd with rfl | rfl; exact sel_18; exact sel_21
    have hs : sh 0 a = (0, 1) := by rcases ha with rfl | rfl; exact shx_24; exact shx_27
    rw [h6, sd] at hP
    rw [p_X11_values_eq]
    refine pk_bw (pk_both (q_take11 hT h8) (q_take11F μ)) ?_
    rintro μ1 ⟨⟨f1, w1⟩, _, g1⟩
    have P1 : PL μ1 d L := hP.of (g1 d 2 (by omega) (by omega)) (fun i => by rw [f1])
    rw [show μ1.2.2 0 6 = d by rw [f1]; exact h6, sd]
    refine pk_bd (q_stars P1.pm) ?_
    rintro r4 μ2 ⟨e, h4⟩
    have e : μ2 = μ1 := e
    subst e
    have h4 : r4.toInt = (stc L : Int) := h4
    have hm : stc L ≤ 30 := Nat.le_trans (stc_le L) hP.2.1
    rw [show μ2.2.2 0 9 = a by rw [f1]; exact h9, sa]
    refine pk_bw (q_XvaluesL hs ⟨by omega, by omega⟩ h4 hm w1) ?_
    rintro μ3 ⟨⟨f3, g3, l3⟩, o3⟩
    have f3' : μ3.2.2 = μ.2.2 := by rw [f3, f1]
    refine pk_bd (P := fun r => r.2 = μ3 ∧ r.1 = μ3.1 16 3) (by rw [p_X4_badPlace_eq]; exact pk_some ⟨rfl, rfl⟩) ?_
    rintro r6 μ5 ⟨e, hr6⟩
    have e : μ5 = μ3 := e
    subst e
    have hr6 : r6 = μ5.1 16 3 := hr6
    refine pk_bvy (fun μ7 m7 => ?_)
    have t2 : μ7.1 0 2 = μ5.1 16 3 := by rw [m7, sF_v, hr6]
    have f7 : μ7.2 = μ5.2 := by rw [m7]; rfl
    have i7 : ∀ i k, i ≠ 16 → i ≠ a → ¬ (i = 0 ∧ (k = 1 ∨ k = 2)) → μ7.1 i k = μ.1 i k := by
      intro i k x y z
      have h1 : μ5.1 i k = μ.1 i k := (g3 i k x y).trans (g1 i k x (by omega))
      rw [m7, sF_1]
      by_cases e : i = 0
      · rw [if_pos e, if_neg (by omega), ← e]; exact h1
      · rw [if_neg e]; exact h1
    have l7 : ∀ i k, i ≠ a + 1 → i ≠ a + 2 → μ7.2.1 i k = μ.2.1 i k := fun i k x y => by rw [f7, l3 i k x y, f1]
    have r7 : μ7.2.2 = μ.2.2 := by rw [f7]; exact f3'
    cases ho : rvL (fun j => μ.1 1 j) T (stc L) with
    | inl f =>
      rw [ho] at o3
      have o3 : Xf _ T f μ5 := o3
      rw [if_neg (by rw [t2]; exact xf_bad o3)]
      refine pk_some ⟨⟨⟨fun i k x y => i7 i k (by omega) (by omega) (by omega), fun k hk => i7 137 k (by omega) (by omega) (by omega), fun i k _ => by show μ7.2.2 i k = _; rw [r7]⟩, fun i k x y => ⟨i7 i k (by omega) (by omega) (by omega), l7 i k (by omega) (by omega)⟩, by show μ7.2.2 0 6 = _; rw [r7], by show μ7.2.2 0 7 = _; rw [r7]⟩, rfl, by show (μ7.1 0 2).toInt = _; rw [t2]; exact o3.2, i7 0 10 (by omega) (by omega) (by omega), fun k => by show μ7.2.2 0 k = _; rw [r7], fun i k x y z => ?_⟩
      rw [h9, sa] at x
      exact ⟨i7 i k (by omega) (by omega) (by omega), l7 i k (by omega) (by omega)⟩
    | inr V =>
      rw [ho] at o3
      obtain ⟨o3, hV⟩ : μ5.1 16 3 = -1 ∧ PL μ5 a V := o3
      rw [if_pos (by rw [t2]; exact o3)]
      have i9 : μ7.2.2 0 9 = a := by rw [r7]; exact h9
      have i8 : μ7.2.2 0 8 = b := by rw [r7]; exact h8'
      rw [i9, i8, sa, sb]
      refine pk_bvy (fun μ9 m9 => pk_bvy (fun μ10 m10 => pk_bvy (fun μ11 m11 => pk_some ?_)))
      have r11 : ∀ i k, μ11.2.2 i k = if i = 0 then (if k = 9 then b else if k = 8 then a else μ7.2.2 0 k) else μ7.2.2 i k := by
        intro i k
        rw [m11, sF_2, m10, sR_3, m9, sR_3, sR_3]
        by_cases e : i = 0
        · subst e; rw [if_pos rfl, if_pos rfl, if_pos rfl]
        · rw [if_neg e, if_neg e, if_neg e]
      have l11 : μ11.2.1 = μ7.2.1 := by rw [m11, sF_2, m10, sR_2, m9, sR_2]
      have i11 : ∀ i k, ¬ (i = 0 ∧ k = 10) → μ11.1 i k = μ7.1 i k := by
        intro i k hi
        rw [m11, sF_1]
        by_cases e : i = 0
        · rw [if_pos e, if_neg (fun e2 => hi ⟨e, e2⟩), m10, sR_1, m9, sR_1, ← e]
        · rw [if_neg e, m10, sR_1, m9, sR_1]
      refine ⟨⟨⟨fun i k x y => ?_, fun k hk => ?_, fun i k hi => ?_⟩, fun i k x y => ⟨?_, ?_⟩, ?_, ?_⟩, ?_, ?_, h4, ?_⟩
      · show μ11.1 i k = _; rw [i11 i k (by omega)]; exact i7 i k (by omega) (by omega) (by omega)
      · show μ11.1 137 k = _; rw [i11 137 k (by omega)]; exact i7 137 k (by omega) (by omega) (by omega)
      · show μ11.2.2 i k = _
        rw [r11]
        by_cases e : i = 0
        · rw [if_pos e, if_neg (by omega), if_neg (by omega), r7, e]
        · rw [if_neg e, r7]
      · show μ11.1 i k = _; rw [i11 i k (by omega)]; exact i7 i k (by omega) (by omega) (by omega)
      · show μ11.2.1 i k = _; rw [l11]; exact l7 i k (by omega) (by omega)
      · show μ11.2.2 0 6 = _; rw [r11, if_pos rfl, if_neg (by decide), if_neg (by decide), r7]
      · show μ11.2.2 0 7 = _; rw [r11, if_pos rfl, if_neg (by decide), if_neg (by decide), r7]
      · show μ11.1 0 2 = -1; rw [i11 0 2 (by omega), t2]; exact o3
      · show μ11.1 0 10 = 1; rw [m11, sF_v]
      · show PL μ11 (sel 1 (μ11.2.2 0 8)) V
        rw [r11, if_pos rfl, if_neg (by decide), if_pos rfl, sa]
        exact hV.of (by rw [i11 a 2 (by omega), m7, sF_i (by omega)]) (fun i => by rw [l11, f7])
  rcases hR.2 with ⟨x, y⟩ | ⟨x, y⟩
  · rcases hR.1 with ⟨z, _⟩ | ⟨z, _⟩
    · exact main 27 24 18 (by omega) (by omega) (by omega) (by omega) y x z
    · exact main 27 24 21 (by omega) (by omega) (by omega) (by omega) y x z
  · rcases hR.1 with ⟨z, _⟩ | ⟨z, _⟩
    · exact main 24 27 18 (by omega) (by omega) (by omega) (by omega) y x z
    · exact main 24 27 21 (by omega) (by omega) (by omega) (by omega) y x z
def Km6 (μ q : Mem) : Prop := (∀ i k, (2 ≤ i ∧ i ≤ 10) ∨ i = 29 → q.1 i k = μ.1 i k) ∧ q.1 0 17 = μ.1 0 17 ∧ q.1 0 18 = μ.1 0 18
def Kn6 (μ q : Mem) : Prop := (∀ i k, 25 ≤ i → i ≤ 28 → q.1 i k = μ.1 i k) ∧ ∀ k, 42 ≤ k → k ≤ 47 → q.1 0 k = μ.1 0 k
def Lr5 (μ : Mem) (a : Nat) (L : List Tkn) : Prop := ∀ i x, L[i]? = some x → μ.1 a i = x.1 ∧ μ.1 (a + 1) i = x.2
theorem lt_of_tok {L : List Tkn} {i : Nat} {x : Tkn} (h : L[i]? = some x) : i < L.length := by
  rcases Nat.lt_or_ge i L.length with e | e
  · exact e
  · rw [List.getElem?_eq_none e] at h; cases h
theorem q_task12L {t : Nat → Int32} {n : Nat} {μ : Mem} (hs : Ms t n μ) : pk (p_X12_task μ) (fun r => Km6 μ r.2 ∧ match rtL t n with
    | .inl f => r.1 = -1 ∧ (r.2.1 0 5).toInt = (f : Int) ∧ Kn6 μ r.2
    | .inr (j, L) => r.1.toInt = (stc L : Int) ∧ r.2.1 0 5 = -1 ∧ r.2.1 0 42 = hr t n 0 - 97 + 1 ∧ (r.2.1 0 43).toInt = (j : Int) ∧ (r.2.1 0 44).toInt = (L.length : Int) ∧ Lr5 r.2 25 L ∧ (r.2.1 0 45).toInt = (stc L : Int) ∧ r.2.1 0 47 = 0) := by
  rw [p_X12_task_eq]
  refine pk_bd (q_MtaskL hs) ?_
  rintro r2 μ1 ⟨F, hO⟩
  have F : Mgt μ μ1 := F
  refine pk_bvy (fun μ3 m3 => ?_)
  have g3 : ∀ i k, ¬ (i = 0 ∧ (k = 3 ∨ k = 4 ∨ k = 5 ∨ k = 6 ∨ k = 7 ∨ k = 36 ∨ k = 37 ∨ k = 48 ∨ k = 49)) → i ≠ 22 → i ≠ 23 → i ≠ 24 → μ3.1 i k = μ.1 i k := by
    intro i k a b c d
    rw [m3, sF_1]
    by_cases e : i = 0
    · rw [if_pos e, if_neg (by omega), ← e]; exact F i k (by omega) b c d
    · rw [if_neg e]; exact F i k (by omega) b c d
  cases ho : rtL t n with
  | inl f =>
    rw [ho] at hO
    obtain ⟨o1, o2⟩ : r2 = 0 ∧ Mf t n f μ1 := hO
    rw [if_pos o1]
    exact pk_some ⟨⟨fun i k h => g3 i k (by omega) (by omega) (by omega) (by omega), g3 0 17 (by omega) (by omega) (by omega) (by omega), g3 0 18 (by omega) (by omega) (by omega) (by omega)⟩, rfl, by show (μ3.1 0 5).toInt = _; rw [m3, sF_k (by decide)]; exact o2.2, fun i k a b => g3 i k (by omega) (by omega) (by omega) (by omega), fun k a b => g3 0 k (by omega) (by omega) (by omega) (by omega)⟩
  | inr v =>
    obtain ⟨j, L⟩ := v
    rw [ho] at hO
    obtain ⟨o1, o5, ⟨p1, p2, p3, p4⟩, o48, o49⟩ : r2 = 1 ∧ μ1.1 0 5 = -1 ∧ MpL μ1 L ∧ (μ1.1 0 48).toInt = (j : Int) ∧ μ1.1 0 49 = hr t n 0 - 97 + 1 := hO
    rw [if_neg (by rw [o1]; decide)]
    refine pk_bvy (fun μ5 m5 => pk_bvy (fun μ6 m6 => pk_bvy (fun μ7 m7 => pk_bvy (fun μ8 m8 => ?_))))
    have k8 : ∀ k, k ≠ 3 → k ≠ 95 → k ≠ 42 → k ≠ 43 → k ≠ 44 → μ8.1 0 k = μ1.1 0 k := fun k a b c d e => by rw [m8, sF_k e, m7, sF_k d, m6, sF_k c, m5, sF_k b, m3, sF_k a]
    have a8 : ∀ i k, i ≠ 0 → μ8.1 i k = μ1.1 i k := fun i k hi => by rw [m8, sF_i hi, m7, sF_i hi, m6, sF_i hi, m5, sF_i hi, m3, sF_i hi]
    have k36 : (μ8.1 0 36).toInt = (L.length : Int) := by rw [k8 36 (by decide) (by decide) (by decide) (by decide) (by decide)]; exact p1
    refine pk_bw (q_copyV (by decide) k36 _) (fun μ9 h9 => ?_)
    refine pk_bw (q_copyV (by decide) (by rw [h9.1 0 36 (by decide)]; exact k36) _) (fun μ11 h11 => ?_)
    refine pk_bvy (fun μ13 m13 => pk_bvy (fun μ14 m14 => pk_bvy (fun μ15 m15 => pk_some ?_)))
    have k11 : ∀ k, μ11.1 0 k = μ8.1 0 k := fun k => (h11.1 0 k (by decide)).trans (h9.1 0 k (by decide))
    have k15 : ∀ k, k ≠ 45 → k ≠ 46 → k ≠ 47 → μ15.1 0 k = μ8.1 0 k := fun k a b c => by rw [m15, sF_k b, m14, sF_k c, m13, sF_k a, k11]
    have a15 : ∀ i k, i ≠ 0 → i ≠ 25 → i ≠ 26 → μ15.1 i k = μ1.1 i k := fun i k hi x y => by rw [m15, sF_i hi, m14, sF_i hi, m13, sF_i hi, h11.1 i k y, h9.1 i k x, a8 i k hi]
    have d25 : ∀ k, k < L.length → μ15.1 25 k = μ1.1 22 k := fun k hk => by rw [m15, sF_i (by decide), m14, sF_i (by decide), m13, sF_i (by decide), h11.1 25 k (by decide), h9.2 k hk, a8 22 k (by decide)]
    have d26 : ∀ k, k < L.length → μ15.1 26 k = μ1.1 23 k := fun k hk => by rw [m15, sF_i (by decide), m14, sF_i (by decide), m13, sF_i (by decide), h11.2 k hk, h9.1 23 k (by decide), a8 23 k (by decide)]
    have c45 : (μ15.1 0 45).toInt = (stc L : Int) := by rw [m15, sF_k (by decide), m14, sF_k (by decide), m13, sF_v, k11, k8 37 (by decide) (by decide) (by decide) (by decide) (by decide)]; exact p3
    refine ⟨⟨fun i k h => ?_, ?_, ?_⟩, c45, ?_, ?_, ?_, ?_, fun i x hx => ?_, c45, ?_⟩
    · show μ15.1 i k = _; rw [a15 i k (by omega) (by omega) (by omega)]; exact F i k (by omega) (by omega) (by omega) (by omega)
    · show μ15.1 0 17 = _; rw [k15 17 (by decide) (by decide) (by decide), k8 17 (by decide) (by decide) (by decide) (by decide) (by decide)]; exact F 0 17 (by omega) (by omega) (by omega) (by omega)
    · show μ15.1 0 18 = _; rw [k15 18 (by decide) (by decide) (by decide), k8 18 (by decide) (by decide) (by decide) (by decide) (by decide)]; exact F 0 18 (by omega) (by omega) (by omega) (by omega)
    · show μ15.1 0 5 = -1; rw [k15 5 (by decide) (by decide) (by decide), k8 5 (by decide) (by decide) (by decide) (by decide) (by decide)]; exact o5
    · show μ15.1 0 42 = _; rw [k15 42 (by decide) (by decide) (by decide), m8, sF_k (by decide), m7, sF_k (by decide), m6, sF_v, m5, sF_k (by decide), m3, sF_k (by decide)]; exact o49
    · show (μ15.1 0 43).toInt = _; rw [k15 43 (by decide) (by decide) (by decide), m8, sF_k (by decide), m7, sF_v, m6, sF_k (by decide), m5, sF_k (by decide), m3, sF_k (by decide)]; exact o48
    · show (μ15.1 0 44).toInt = _; rw [k15 44 (by decide) (by decide) (by decide), m8, sF_v, m7, sF_k (by decide), m6, sF_k (by decide), m5, sF_k (by decide), m3, sF_k (by decide)]; exact p1
    · have hi := lt_of_tok hx
      show μ15.1 25 i = x.1 ∧ μ15.1 26 i = x.2
      rw [d25 i hi, d26 i hi]; exact p4 i x hx
    · show μ15.1 0 47 = 0; rw [m15, sF_k (by decide), m14, sF_v]
theorem q_val12L {t : Nat → Int32} {n m : Nat} {μ : Mem} (hs : Ms t n μ) (hm : (μ.1 0 45).toInt = (m : Int)) (hm8 : m ≤ 30) : pk (p_X12_values μ) (fun r => Km6 μ r.2 ∧ (∀ k, 42 ≤ k → k ≤ 45 → r.2.1 0 k = μ.1 0 k) ∧ (∀ i k, i = 25 ∨ i = 26 → r.2.1 i k = μ.1 i k) ∧ match rvL t n m with
    | .inl f => r.1 = -1 ∧ (r.2.1 0 5).toInt = (f : Int) ∧ Kn6 μ r.2
    | .inr L => r.1.toInt = (m : Int) ∧ r.2.1 0 5 = -1 ∧ r.2.1 0 47 = r.2.1 0 45 ∧ (r.2.1 0 46).toInt = (L.length : Int) ∧ Lr5 r.2 27 L) := by
  rw [p_X12_values_eq]
  refine pk_bd (q_MvaluesL hs hm hm8) ?_
  rintro r2 μ1 ⟨F, hO⟩
  have F : Mgt μ μ1 := F
  refine pk_bvy (fun μ3 m3 => ?_)
  have g3 : ∀ i k, ¬ (i = 0 ∧ (k = 3 ∨ k = 4 ∨ k = 5 ∨ k = 6 ∨ k = 7 ∨ k = 36 ∨ k = 37 ∨ k = 48 ∨ k = 49)) → i ≠ 22 → i ≠ 23 → i ≠ 24 → μ3.1 i k = μ.1 i k := by
    intro i k a b c d
    rw [m3, sF_1]
    by_cases e : i = 0
    · rw [if_pos e, if_neg (by omega), ← e]; exact F i k (by omega) b c d
    · rw [if_neg e]; exact F i k (by omega) b c d
  cases ho : rvL t n m with
  | inl f =>
    rw [ho] at hO
    obtain ⟨o1, o2⟩ : r2 = 0 ∧ Mf t n f μ1 := hO
    rw [if_pos o1]
    exact pk_some ⟨⟨fun i k h => g3 i k (by omega) (by omega) (by omega) (by omega), g3 0 17 (by omega) (by omega) (by omega) (by omega), g3 0 18 (by omega) (by omega) (by omega) (by omega)⟩, fun k a b => g3 0 k (by omega) (by omega) (by omega) (by omega), fun i k h => g3 i k (by omega) (by omega) (by omega) (by omega), rfl, by show (μ3.1 0 5).toInt = _; rw [m3, sF_k (by decide)]; exact o2.2, fun i k a b => g3 i k (by omega) (by omega) (by omega) (by omega), fun k a b => g3 0 k (by omega) (by omega) (by omega) (by omega)⟩
  | inr L =>
    rw [ho] at hO
    obtain ⟨o1, o5, p1, p2, p3, p4⟩ : r2 = 1 ∧ μ1.1 0 5 = -1 ∧ MpL μ1 L := hO
    rw [if_neg (by rw [o1]; decide)]
    refine pk_bvy (fun μ5 m5 => pk_bvy (fun μ6 m6 => ?_))
    have k6 : ∀ k, k ≠ 3 → k ≠ 46 → k ≠ 47 → μ6.1 0 k = μ1.1 0 k := fun k a b c => by rw [m6, sF_k b, m5, sF_k c, m3, sF_k a]
    have a6 : ∀ i k, i ≠ 0 → μ6.1 i k = μ1.1 i k := fun i k hi => by rw [m6, sF_i hi, m5, sF_i hi, m3, sF_i hi]
    have k36 : (μ6.1 0 36).toInt = (L.length : Int) := by rw [k6 36 (by decide) (by decide) (by decide)]; exact p1
    refine pk_bw (q_copyV (by decide) k36 _) (fun μ7 h7 => ?_)
    refine pk_bw (q_copyV (by decide) (by rw [h7.1 0 36 (by decide)]; exact k36) _) (fun μ9 h9 => pk_some ?_)
    have k9 : ∀ k, μ9.1 0 k = μ6.1 0 k := fun k => (h9.1 0 k (by decide)).trans (h7.1 0 k (by decide))
    have a9 : ∀ i k, i ≠ 0 → i ≠ 27 → i ≠ 28 → μ9.1 i k = μ1.1 i k := fun i k hi x y => by rw [h9.1 i k y, h7.1 i k x, a6 i k hi]
    have d27 : ∀ k, k < L.length → μ9.1 27 k = μ1.1 22 k := fun k hk => by rw [h9.1 27 k (by decide), h7.2 k hk, a6 22 k (by decide)]
    have d28 : ∀ k, k < L.length → μ9.1 28 k = μ1.1 23 k := fun k hk => by rw [h9.2 k hk, h7.1 23 k (by decide), a6 23 k (by decide)]
    have c45 : μ9.1 0 45 = μ.1 0 45 := by rw [k9, k6 45 (by decide) (by decide) (by decide)]; exact F 0 45 (by omega) (by omega) (by omega) (by omega)
    refine ⟨⟨fun i k h => ?_, ?_, ?_⟩, fun k a b => ?_, fun i k h => ?_, ?_, ?_, ?_, ?_, fun i x hx => ?_⟩
    · show μ9.1 i k = _; rw [a9 i k (by omega) (by omega) (by omega)]; exact F i k (by omega) (by omega) (by omega) (by omega)
    · show μ9.1 0 17 = _; rw [k9, k6 17 (by decide) (by decide) (by decide)]; exact F 0 17 (by omega) (by omega) (by omega) (by omega)
    · show μ9.1 0 18 = _; rw [k9, k6 18 (by decide) (by decide) (by decide)]; exact F 0 18 (by omega) (by omega) (by omega) (by omega)
    · show μ9.1 0 k = _; rw [k9, k6 k (by omega) (by omega) (by omega)]; exact F 0 k (by omega) (by omega) (by omega) (by omega)
    · show μ9.1 i k = _; rw [a9 i k (by omega) (by omega) (by omega)]; exact F i k (by omega) (by omega) (by omega) (by omega)
    · show (μ9.1 0 45).toInt = _; rw [c45]; exact hm
    · show μ9.1 0 5 = -1; rw [k9, k6 5 (by decide) (by decide) (by decide)]; exact o5
    · show μ9.1 0 47 = μ9.1 0 45; rw [c45, k9, m6, sF_k (by decide), m5, sF_v, m3, sF_k (by decide)]; exact F 0 45 (by omega) (by omega) (by omega) (by omega)
    · show (μ9.1 0 46).toInt = _; rw [k9, m6, sF_v, m5, sF_k (by decide), m3, sF_k (by decide)]; exact p1
    · have hi := lt_of_tok hx
      show μ9.1 27 i = x.1 ∧ μ9.1 28 i = x.2
      rw [d27 i hi, d28 i hi]; exact p4 i x hx
