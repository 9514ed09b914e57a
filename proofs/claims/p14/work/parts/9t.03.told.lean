abbrev Tkn := Int32 × Int32
def stc (L : List Tkn) : Nat := (L.filter (fun x => decide (x.1 = 3))).length
theorem stc_app (A C : List Tkn) : stc (A ++ C) = stc A + stc C := by unfold stc; rw [List.filter_append, List.length_append]
theorem stc_one (x : Tkn) : stc [x] = if x.1 = 3 then 1 else 0 := by
  unfold stc
  by_cases c : x.1 = 3
  · rw [if_pos c, List.filter_cons_of_pos (by simp [c])]; rfl
  · rw [if_neg c, List.filter_cons_of_neg (by simp [c])]; rfl
theorem stc_le (L : List Tkn) : stc L ≤ L.length := List.length_filter_le _ _
noncomputable def tkl (x : Tkn) : Int64 := if x.1 = 3 then 17179869184 else if x.1 = 2 then 8589934592 else s_X0_make x.1 x.2
def Tv (x : Tkn) : Prop := x.1 = 0 ∨ x.1 = 1 ∨ x = (2, 0) ∨ x = (3, 0)
theorem tkl_st {x : Tkn} (h : Tv x) : st1 (tkl x) = if x.1 = 3 then 1 else 0 := by
  unfold st1 tkl
  by_cases c : x.1 = 3
  · rw [if_pos c, if_pos c, if_pos kd_star]
  · rw [if_neg c, if_neg c]
    by_cases c2 : x.1 = 2
    · rw [if_pos c2, if_neg kd_pair]
    · rw [if_neg c2]
      have h01 : x.1 = 0 ∨ x.1 = 1 := by
        rcases h with h | h | h | h
        · exact Or.inl h
        · exact Or.inr h
        · exact absurd (by rw [h]) c2
        · exact absurd (by rw [h]) c
      rw [if_neg (kd_num _ h01)]
def Row (μ : Mem) (a : Nat) (L : List Int64) : Prop := (μ.1 a 2).toInt = (L.length : Int) ∧ ∀ i x, L[i]? = some x → μ.2.1 (a + 1) i = x
def PL (μ : Mem) (a : Nat) (L : List Tkn) : Prop := Row μ a (L.map tkl) ∧ L.length ≤ 30 ∧ ∀ x, x ∈ L → Tv x
theorem PL.len {μ : Mem} {a : Nat} {L : List Tkn} (h : PL μ a L) : (μ.1 a 2).toInt = (L.length : Int) := by
  have := h.1.1
  rw [List.length_map] at this; exact this
theorem sc_row {r : Nat → Int64} {L : List Tkn} (h : ∀ i x, (L.map tkl)[i]? = some x → r i = x) (hv : ∀ x, x ∈ L → Tv x) : ∀ m, m ≤ L.length → sc r m = stc (L.take m) := by
  intro m
  induction m with
  | zero => intro _; rfl
  | succ m ih =>
    intro hm
    have hx : L[m]? = some L[m] := List.getElem?_eq_getElem (by omega)
    rw [sc_s, ih (by omega), List.take_add_one, stc_app, hx]
    show _ = _ + stc [L[m]]
    rw [h m (tkl L[m]) (by rw [List.getElem?_map, hx]; rfl), stc_one, tkl_st (hv _ (List.getElem_mem _))]
theorem PL.pm {μ : Mem} {a : Nat} {L : List Tkn} (h : PL μ a L) : Pm μ a L.length (stc L) := by
  refine ⟨h.len, h.2.1, ?_⟩
  rw [sc_row h.1.2 h.2.2 L.length (Nat.le_refl _), List.take_length]
def Fa (a : Nat) (μ q : Mem) : Prop := q.2.2 = μ.2.2 ∧ (∀ i k, i ≠ 16 → i ≠ a → q.1 i k = μ.1 i k) ∧ (∀ i k, i ≠ a + 1 → i ≠ a + 2 → q.2.1 i k = μ.2.1 i k)
theorem Fa.rf {a : Nat} {μ : Mem} : Fa a μ μ := ⟨rfl, fun _ _ _ _ => rfl, fun _ _ _ _ => rfl⟩
theorem Fa.tr {a : Nat} {μ q z : Mem} (h : Fa a μ q) (h2 : Fa a q z) : Fa a μ z := ⟨h2.1.trans h.1, fun i k x y => (h2.2.1 i k x y).trans (h.2.1 i k x y), fun i k x y => (h2.2.2 i k x y).trans (h.2.2 i k x y)⟩
theorem Fa.xe {a : Nat} {μ q : Mem} (h : Xe μ q) : Fa a μ q := ⟨by rw [h.1], fun i k x _ => h.2.2 i k x, fun i k _ _ => by rw [h.1]⟩
theorem PL.xe {μ q : Mem} {a : Nat} {L : List Tkn} (ha : a ≠ 16) (h : PL μ a L) (hE : Xe μ q) : PL q a L :=
  ⟨⟨by rw [hE.2.2 a 2 ha]; exact h.1.1, fun i x hx => by rw [hE.1]; exact h.1.2 i x hx⟩, h.2⟩
theorem Row.add {μ q : Mem} {a : Nat} {L : List Int64} {tok : Int64} (h : Row μ a L) (h2 : (q.1 a 2).toInt = (L.length : Int) + 1) (hr : ∀ i, q.2.1 (a + 1) i = if i = L.length then tok else μ.2.1 (a + 1) i) : Row q a (L ++ [tok]) := by
  refine ⟨by rw [h2, List.length_append]; rfl, fun i x hx => ?_⟩
  rw [hr]
  by_cases c : i = L.length
  · rw [if_pos c]
    rw [c, List.getElem?_append_right (Nat.le_refl _), Nat.sub_self] at hx
    exact Option.some.inj hx
  · rw [if_neg c]
    by_cases c2 : i < L.length
    · rw [List.getElem?_append_left c2] at hx; exact h.2 i x hx
    · rw [List.getElem?_eq_none (by rw [List.length_append]; show L.length + 1 ≤ i; omega)] at hx; cases hx
theorem q_radd {μ : Mem} {a : Nat} {L : List Int64} (hs : sh 0 a = (0, 1)) (h : Row μ a L) (hm : L.length < (sh 0 (a + 1)).2) (tok z : Int64) : pk (p_X2_add a tok z μ) (fun q => Row q a (L ++ [tok]) ∧ q.2.2 = μ.2.2 ∧ (∀ i k, ¬ (i = a ∧ k = 2) → q.1 i k = μ.1 i k) ∧ (∀ i k, i ≠ a + 1 → i ≠ a + 2 → q.2.1 i k = μ.2.1 i k) ∧ ∀ i, q.2.1 (a + 2) i = if i = L.length then z else μ.2.1 (a + 2) i) := by
  have e1 : (1 : Int32).toInt = 1 := by decide
  obtain ⟨c1, c2⟩ := cap30 hs
  have h1 := h.1
  have hn : (μ.1 a 2).toNatClampNeg = L.length := tn_of h1
  rw [p_X2_add_eq]
  refine pk_ite (fun c => ?_) (fun c => pk_gd (fun _ => pk_bvy (fun μ2 e2 => pk_gd (fun _ => pk_bvy (fun μ3 e3 => pk_bvy (fun μ4 e4 => pk_some ?_))))))
  · rw [ti_le, ti_len, h1] at c; omega
  · have g2 : μ2.1 = μ.1 := by rw [e2]; rfl
    have g3 : μ3.1 = μ.1 := by rw [e3]; exact g2
    have hn2 : (μ2.1 a 2).toNatClampNeg = L.length := by rw [g2]; exact hn
    refine ⟨h.add (by rw [e4, sF_v, g3, ti_add (by omega) (by omega), e1, h1]) (fun i => ?_), by rw [e4, e3, e2]; rfl, fun i k hi => ?_, fun i k hi hj => ?_, fun i => ?_⟩
    · rw [e4, sF_2, e3, sL_2, if_neg (by omega), e2, sL_2, if_pos rfl, hn]
    · rw [e4, sF_1]
      by_cases ci : i = a
      · subst ci; rw [if_pos rfl, if_neg (fun e => hi ⟨rfl, e⟩), g3]
      · rw [if_neg ci, g3]
    · rw [e4, sF_2, e3, sL_2, if_neg hj, e2, sL_2, if_neg hi]
    · rw [e4, sF_2, e3, sL_2, if_pos rfl, hn2, e2, sL_2, if_neg (show ¬ a + 2 = a + 1 by omega)]
theorem q_paddL {μ : Mem} {a : Nat} {L : List Tkn} (hs : sh 0 a = (0, 1)) (h : PL μ a L) (hm : L.length < 30) {x : Tkn} (hx : Tv x) (z : Int64) : pk (p_X2_add a (tkl x) z μ) (fun q => PL q a (L ++ [x]) ∧ Fa a μ q ∧ (∀ i k, i ≠ a → q.1 i k = μ.1 i k)) := by
  have hc := (cap30 hs).1
  refine pk_mono (q_radd hs h.1 (by rw [List.length_map]; omega) (tkl x) z) (fun q hq => ⟨⟨?_, ?_, ?_⟩, ⟨hq.2.1, fun i k _ hi => hq.2.2.1 i k (fun e => hi e.1), hq.2.2.2.1⟩, fun i k hi => hq.2.2.1 i k (fun e => hi e.1)⟩)
  · rw [List.map_append]; exact hq.1
  · rw [List.length_append]; show L.length + 1 ≤ 30; omega
  · intro y hy
    rcases List.mem_append.mp hy with e | e
    · exact h.2.2 y e
    · rw [List.mem_singleton.mp e]; exact hx
noncomputable def rpL (t : Nat → Int32) (n sl : Nat) : Nat → Nat → List Tkn → Rd (Nat × List Tkn)
  | 0, p, _ => .inl p
  | k + 1, p, L =>
    if 30 ≤ L.length then .inl p
    else if hr t n p = 91 then
      match rpL t n sl k (p + 1) (L ++ [(2, 0)]) with
      | .inl f => .inl f
      | .inr (p1, L1) => if hr t n p1 = 44 then
          match rpL t n sl k (p1 + 1) L1 with
          | .inl f => .inl f
          | .inr (p2, L2) => if hr t n p2 = 93 then .inr (p2 + 1, L2) else .inl p2
        else .inl p1
    else if hr t n p = 45 ∨ isD (hr t n p) = true then
      match rn t n p with
      | .inl f => .inl f
      | .inr q => .inr (q, L ++ [nvl t n p])
    else if hr t n p = 42 ∧ stc L < sl then .inr (p + 1, L ++ [(3, 0)])
    else .inl p
theorem nvl_tv (t : Nat → Int32) (n p : Nat) : Tv (nvl t n p) := by
  unfold nvl
  split
  · exact Or.inr (Or.inl rfl)
  · exact Or.inl rfl
theorem nvl_n3 (t : Nat → Int32) (n p : Nat) : ¬ (nvl t n p).1 = 3 := by
  unfold nvl
  split
  · show ¬ (1 : Int32) = 3; decide
  · show ¬ (0 : Int32) = 3; decide
theorem nvl_tkl (t : Nat → Int32) (n p : Nat) : tkl (nvl t n p) = s_X0_make (nvl t n p).1 (nvl t n p).2 := by
  have h : (nvl t n p).1 = 0 ∨ (nvl t n p).1 = 1 := by
    unfold nvl
    split
    · exact Or.inr rfl
    · exact Or.inl rfl
  unfold tkl
  rw [if_neg (by rcases h with h | h <;> rw [h] <;> decide), if_neg (by rcases h with h | h <;> rw [h] <;> decide)]
theorem rpL_mono {t : Nat → Int32} {n sl : Nat} : ∀ {k p : Nat} {L : List Tkn} {p1 : Nat} {L1 : List Tkn}, rpL t n sl k p L = .inr (p1, L1) → L.length ≤ L1.length := by
  intro k
  induction k with
  | zero => intro p L p1 L1 h; exact absurd h (by unfold rpL; simp)
  | succ k ih =>
    intro p L p1 L1 h
    unfold rpL at h
    by_cases c : 30 ≤ L.length
    · rw [if_pos c] at h; cases h
    rw [if_neg c] at h
    by_cases c1 : hr t n p = 91
    · rw [if_pos c1] at h
      cases e : rpL t n sl k (p + 1) (L ++ [(2, 0)]) with
      | inl f => rw [e] at h; cases h
      | inr v =>
        obtain ⟨p2, L2⟩ := v
        rw [e] at h
        have i1 := ih e
        rw [List.length_append] at i1
        dsimp only at h
        by_cases c2 : hr t n p2 = 44
        · rw [if_pos c2] at h
          cases e2 : rpL t n sl k (p2 + 1) L2 with
          | inl f => rw [e2] at h; cases h
          | inr v =>
            obtain ⟨p3, L3⟩ := v
            rw [e2] at h
            have i2 := ih e2
            dsimp only at h
            by_cases c3 : hr t n p3 = 93
            · rw [if_pos c3] at h; cases h; omega
            · rw [if_neg c3] at h; cases h
        · rw [if_neg c2] at h; cases h
    · rw [if_neg c1] at h
      by_cases c2 : hr t n p = 45 ∨ isD (hr t n p) = true
      · rw [if_pos c2] at h
        cases e : rn t n p with
        | inl f => rw [e] at h; cases h
        | inr v => rw [e] at h; cases h; rw [List.length_append]; omega
      · rw [if_neg c2] at h
        by_cases c3 : hr t n p = 42 ∧ stc L < sl
        · rw [if_pos c3] at h; cases h; rw [List.length_append]; omega
        · rw [if_neg c3] at h; cases h
def PoXL (t : Nat → Int32) (n : Nat) (μ : Mem) (a : Nat) (o : Rd (Nat × List Tkn)) (q : Mem) : Prop := Fa a μ q ∧ (match o with | .inl f => Xf t n f q | .inr (p, L) => Xw t n p q ∧ PL q a L)
theorem q_paddfL {μ : Mem} (a : Nat) (tok z : Int64) : pk (p_X2_add a tok z μ) (fun q => Fa a μ q ∧ (∀ i k, i ≠ a → q.1 i k = μ.1 i k)) := by
  rw [p_X2_add_eq]
  refine pk_ite (fun c => pk_some ⟨Fa.rf, fun _ _ _ => rfl⟩) (fun c => pk_gd (fun _ => pk_bv (pk_gd (fun _ => pk_bv (pk_bv (pk_some ⟨⟨?_, fun i k _ hi => ?_, fun i k h1 h2 => ?_⟩, fun i k hi => ?_⟩))))))
  · rw [sF_2, sL_3, sL_3]
  · rw [sF_i hi, sL_1, sL_1]
  · rw [sF_2, sL_2, if_neg h2, sL_2, if_neg h1]
  · rw [sF_i hi, sL_1, sL_1]
set_option maxHeartbeats 2000000 in
theorem q_XpartL {t : Nat → Int32} {n a sl : Nat} {a2 : Int32} (hs : sh 0 a = (0, 1)) (ha : a ≠ 16 ∧ a ≠ 1) (h2 : a2.toInt = (sl : Int)) : ∀ (k p : Nat) (L : List Tkn) (a3 : Int32) (μ : Mem), a3.toInt ≤ (L.length : Int) → Xw t n p μ → PL μ a L → pk (pr_X4_readPart k a a2 a3 μ) (PoXL t n μ a (rpL t n sl k p L)) := by
  have e1 : (1 : Int32).toInt = 1 := by decide
  have e30 : (30 : Int32).toInt = 30 := by decide
  have tp : (8589934592 : Int64) = tkl (2, 0) := by unfold tkl; rw [if_neg (by decide), if_pos rfl]
  have tst : (17179869184 : Int64) = tkl (3, 0) := by unfold tkl; rw [if_pos rfl]
  intro k
  induction k with
  | zero => intro p L a3 μ _ _ _ r e; rw [pr_X4_readPart_z] at e; cases e
  | succ k ih =>
    intro p L a3 μ h3 hw hP
    rw [pr_X4_readPart_s, p_X4_readPart_eq]
    refine pk_bd q_Xwell ?_
    rintro r2 μ1 ⟨e, hw1⟩
    have e : μ1 = μ := e
    subst e
    have hw1 : (r2 = 1 ∧ μ1.1 16 3 = -1) ∨ (r2 = 0 ∧ μ1.1 16 3 ≠ -1) := hw1
    rw [if_neg (wl1 hw hw1)]
    refine pk_bd (q_Xhere hw) ?_
    rintro r5 μ4 ⟨e, hh⟩
    have e : μ4 = μ1 := e
    subst e
    have hh : r5 = hr t n p := hh
    rw [hh]
    have hfail : pk (bw (p_X4_fail (μ4.1 16 2) μ4) (fun μ7 => some μ7)) (PoXL t n μ4 a (.inl p)) := pk_bw (q_Xfail hw) (fun q hq => pk_some ⟨Fa.xe hq.1, hq.2⟩)
    show pk _ (PoXL t n μ4 a (if 30 ≤ L.length then .inl p else _))
    refine pk_ite (fun c => ?_) (fun c => ?_)
    · rw [ti_le, e30, hP.len] at c
      rw [if_pos (by omega)]; exact hfail
    · rw [ti_le, e30, hP.len] at c
      have hm : L.length < 30 := by omega
      rw [if_neg (show ¬ 30 ≤ L.length by omega), if_pos (by rw [ti_le, e30]; omega)]
      refine pk_ite (fun c1 => pk_bvy (fun μ27 e27 => ?_)) (fun c1 => ?_)
      · rw [if_pos c1]
        have hp := hr_lt (t := t) (n := n) (p := p) (by rw [c1]; decide)
        have hw27 : Xw t n (p + 1) μ27 := by rw [e27]; exact xw_next hw hp
        have hE27 : Xe μ4 μ27 := by rw [e27]; exact Xe.put (by decide) _
        rw [tp]
        refine pk_bw (q_paddL hs (hP.xe ha.1 hE27) hm (Or.inr (Or.inr (Or.inl rfl))) _) ?_
        rintro μ28 ⟨hP28, hF28, h28'⟩
        have hw28 := xw_of ha hw27 h28'
        have hF28 : Fa a μ4 μ28 := (Fa.xe hE27).tr hF28
        refine pk_bw (ih (p + 1) (L ++ [(2, 0)]) _ μ28 (by rw [ti_add (by have := ti_lo a3; omega) (by have := ti_hi a3; omega), e1, List.length_append]; show _ ≤ ((L.length + 1 : Nat) : Int); omega) hw28 hP28) ?_
        intro μ30 hO
        obtain ⟨hF30, hO⟩ := hO
        have hF30 : Fa a μ4 μ30 := hF28.tr hF30
        cases hrp : rpL t n sl k (p + 1) (L ++ [(2, 0)]) with
        | inl f =>
          rw [hrp] at hO
          have hO : Xf t n f μ30 := hO
          refine pk_bd (q_Xtakef 44 hO) ?_
          intro r33 μ32 e
          have e : μ32 = μ30 := e
          subst e
          refine pk_bw (q_Xpartf k hO) ?_
          intro μ34 e
          have e : μ34 = μ32 := e
          subst e
          refine pk_bd (q_Xtakef 93 hO) ?_
          intro r37 μ36 e
          have e : μ36 = μ34 := e
          subst e
          exact pk_some ⟨hF30, hO⟩
        | inr v =>
          obtain ⟨p1, L1⟩ := v
          rw [hrp] at hO
          have hO : Xw t n p1 μ30 ∧ PL μ30 a L1 := hO
          show pk _ (PoXL t n μ4 a (if hr t n p1 = 44 then _ else .inl p1))
          refine pk_bd (q_Xtake (c := 44) (by decide) hO.1) ?_
          rintro r33 μ32 ⟨hE32, hO32⟩
          have hE32 : Xe μ30 μ32 := hE32
          have hF32 : Fa a μ4 μ32 := hF30.tr (Fa.xe hE32)
          by_cases c2 : hr t n p1 = 44
          · rw [if_pos c2] at hO32
            have hO32 : Xw t n (p1 + 1) μ32 := hO32
            rw [if_pos c2]
            have hP32 := hO.2.xe ha.1 hE32
            have hm1 := rpL_mono hrp
            rw [List.length_append] at hm1
            have hm1 : L.length + 1 ≤ L1.length := hm1
            refine pk_bw (ih (p1 + 1) L1 _ μ32 (by rw [ti_add (by have := ti_lo a3; omega) (by have := ti_hi a3; omega), e1]; omega) hO32 hP32) ?_
            intro μ34 hO34
            obtain ⟨hF34, hO34⟩ := hO34
            have hF34 : Fa a μ4 μ34 := hF32.tr hF34
            cases hrp2 : rpL t n sl k (p1 + 1) L1 with
            | inl f =>
              rw [hrp2] at hO34
              have hO34 : Xf t n f μ34 := hO34
              refine pk_bd (q_Xtakef 93 hO34) ?_
              intro r37 μ36 e
              have e : μ36 = μ34 := e
              subst e
              exact pk_some ⟨hF34, hO34⟩
            | inr v2 =>
              obtain ⟨p2, L2⟩ := v2
              rw [hrp2] at hO34
              have hO34 : Xw t n p2 μ34 ∧ PL μ34 a L2 := hO34
              show pk _ (PoXL t n μ4 a (if hr t n p2 = 93 then .inr (p2 + 1, L2) else .inl p2))
              refine pk_bd (q_Xtake (c := 93) (by decide) hO34.1) ?_
              rintro r37 μ36 ⟨hE36, hO36⟩
              have hE36 : Xe μ34 μ36 := hE36
              refine pk_some ⟨hF34.tr (Fa.xe hE36), ?_⟩
              by_cases c3 : hr t n p2 = 93
              · rw [if_pos c3] at hO36 ⊢
                exact ⟨hO36, hO34.2.xe ha.1 hE36⟩
              · rw [if_neg c3] at hO36 ⊢
                exact hO36
          · rw [if_neg c2] at hO32
            have hO32 : Xf t n p1 μ32 := hO32
            rw [if_neg c2]
            refine pk_bw (q_Xpartf k hO32) ?_
            intro μ34 e
            have e : μ34 = μ32 := e
            subst e
            refine pk_bd (q_Xtakef 93 hO32) ?_
            intro r37 μ36 e
            have e : μ36 = μ34 := e
            subst e
            exact pk_some ⟨hF32, hO32⟩
      · rw [if_neg c1]
        refine pk_ite (fun c2 => ?_) (fun c2 => ?_)
        · rw [num_X] at c2
          rw [if_neg c2]
          refine pk_ite (fun c3 => ?_) (fun c3 => ?_)
          · refine pk_bd (q_stars hP.pm) ?_
            rintro r16 μ15 ⟨e, hst⟩
            have e : μ15 = μ4 := e
            subst e
            have hst : r16.toInt = (stc L : Int) := hst
            refine pk_ite (fun c4 => ?_) (fun c4 => pk_bvy (fun μ20 e20 => ?_))
            · rw [ti_le, h2, hst] at c4
              rw [if_neg (fun h => by omega)]; exact hfail
            · rw [ti_le, h2, hst] at c4
              rw [if_pos ⟨c3, by omega⟩]
              have hp := hr_lt (t := t) (n := n) (p := p) (by rw [c3]; decide)
              have hE20 : Xe μ15 μ20 := by rw [e20]; exact Xe.put (by decide) _
              have hw20 : Xw t n (p + 1) μ20 := by rw [e20]; exact xw_next hw hp
              rw [tst]
              refine pk_bw (q_paddL hs (hP.xe ha.1 hE20) hm (Or.inr (Or.inr (Or.inr rfl))) _) ?_
              rintro μ21 ⟨hP21, hF21, h21'⟩
              exact pk_some ⟨(Fa.xe hE20).tr hF21, xw_of ha hw20 h21', hP21⟩
          · rw [if_neg (fun h => c3 h.1)]; exact hfail
        · rw [num_X] at c2
          have c2 : hr t n p = 45 ∨ isD (hr t n p) = true := Classical.not_not.mp c2
          rw [if_pos c2]
          refine pk_bd (pk_both (q_Xnumber hw) (q_XnumV hw)) ?_
          rintro r24 μ23 ⟨⟨hE23, hO23⟩, hk⟩
          have hE23 : Xe μ4 μ23 := hE23
          cases hrn : rn t n p with
          | inl f =>
            rw [hrn] at hO23
            have hO23 : Xf t n f μ23 := hO23
            refine pk_bw (q_paddfL a r24 0) ?_
            rintro μ25 ⟨h25, h25'⟩
            exact pk_some ⟨(Fa.xe hE23).tr h25, xf_of ha hO23 h25'⟩
          | inr q =>
            rw [hrn] at hO23
            have hO23 : Xw t n q μ23 := hO23
            have hk : r24 = s_X0_make (nvl t n p).1 (nvl t n p).2 := hk q hrn
            rw [hk, ← nvl_tkl]
            refine pk_bw (q_paddL hs (hP.xe ha.1 hE23) hm (nvl_tv t n p) 0) ?_
            rintro μ25 ⟨hP25, hF25, h25'⟩
            exact pk_some ⟨(Fa.xe hE23).tr hF25, xw_of ha hO23 h25', hP25⟩
