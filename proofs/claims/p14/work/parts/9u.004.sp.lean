section
theorem aw_of {z : Mem} {f : Nat → Nat} : ∀ {n M : Nat}, (∀ t, t < n → Sh (iv z 9) 1 (f t) (f (t + 1))) → (∀ l, l < n → z.1 37 (M + l) = 0 ∧ (z.1 38 (M + l)).toInt = (f (n - 1 - l) : Int)) → Aw9 z M n (f 0) (f n) := by
  intro n
  induction n with
  | zero => intro M _ _; rfl
  | succ n ih =>
    intro M h1 h2
    refine ⟨f n, ih (fun t ht => h1 t (by omega)) (fun l hl => ?_), h1 n (by omega), (h2 0 (by omega)).1, ?_⟩
    · have := h2 (l + 1) (by omega)
      rw [show M + 1 + l = M + (l + 1) by omega]
      refine ⟨this.1, ?_⟩
      rw [this.2, show n + 1 - 1 - (l + 1) = n - 1 - l by omega]
    · have := (h2 0 (by omega)).2
      rw [show n + 1 - 1 - 0 = n by omega] at this
      exact this
theorem sh_chain {be : Nat → Int} : ∀ {n p q : Nat}, Sh be n p q → ∃ f : Nat → Nat, f 0 = p ∧ f n = q ∧ ∀ t, t < n → Sh be 1 (f t) (f (t + 1)) ∧ f t < q := by
  intro n
  induction n with
  | zero => intro p q h; exact ⟨fun _ => p, rfl, h.zero, fun t ht => absurd ht (by omega)⟩
  | succ n ih =>
    intro p q h
    obtain ⟨m, h1, h2⟩ := h.one
    obtain ⟨f, f0, fn, ft⟩ := ih h2
    have l1 := h1.le
    have l2 := h2.le
    refine ⟨fun t => if t = 0 then p else f (t - 1), rfl, ?_, fun t ht => ?_⟩
    · show (if n + 1 = 0 then p else f (n + 1 - 1)) = q
      rw [if_neg (by omega), Nat.add_sub_cancel]; exact fn
    · by_cases e : t = 0
      · subst e
        show Sh be 1 p (f 0) ∧ p < q
        rw [f0]; exact ⟨h1, by omega⟩
      · show Sh be 1 (if t = 0 then p else f (t - 1)) (if t + 1 = 0 then p else f (t + 1 - 1)) ∧ (if t = 0 then p else f (t - 1)) < q
        rw [if_neg e, if_neg (by omega), Nat.add_sub_cancel]
        have := ft (t - 1) (by omega)
        rw [show t - 1 + 1 = t by omega] at this
        exact this
theorem m_workBelow {μ : Mem} {p n M h m0 : Nat} {a1 : Int32} {f : Nat → Nat} (ha : a1.toInt = (p : Int)) (h9 : (μ.1 9 p).toInt = (n : Int)) (hn : n ≤ 5) (hp8 : p < 2147483647) (h65 : (μ.1 0 65).toInt = (M : Int)) (hM : m0 ≤ M) (f0 : f 0 = p + 1) (hf : ∀ t, t < n → Sh (iv μ 9) 1 (f t) (f (t + 1)) ∧ (μ.1 10 (f t)).toInt = (f (t + 1) : Int)) : pk (p_X12_workBelow a1 μ) (fun z => Qm8 h m0 μ z ∧ (z.1 0 65).toInt = ((M + n : Nat) : Int) ∧ (∀ i k, k < M → z.1 i k = if i = 0 ∧ k = 65 then z.1 0 65 else μ.1 i k) ∧ z.1 0 66 = μ.1 0 66 ∧ Aw9 z M n (p + 1) (f n)) := by
  have e1 : (1 : Int32).toInt = 1 := by decide
  have e0 : (0 : Int32).toInt = 0 := by decide
  have e2 : (2 : Int32).toInt = 2 := by decide
  have tp := tn_of ha
  have loop2 : ∀ (fu k : Nat) (a3 : Int32) (z : Mem), a3.toInt = (k : Int) → k ≤ n / 2 → Qm8 h m0 μ z → (z.1 0 65).toInt = ((M + n : Nat) : Int) → (∀ i k, k < M → z.1 i k = if i = 0 ∧ k = 65 then z.1 0 65 else μ.1 i k) → z.1 0 66 = μ.1 0 66 → (∀ l, l < n → z.1 37 (M + l) = 0 ∧ (z.1 38 (M + l)).toInt = ((if l < k ∨ n - 1 - l < k then f (n - 1 - l) else f l : Nat) : Int)) → pk (p_X12_workBelow_b38 fu a1 a3 z) (fun z => Qm8 h m0 μ z ∧ (z.1 0 65).toInt = ((M + n : Nat) : Int) ∧ (∀ i k, k < M → z.1 i k = if i = 0 ∧ k = 65 then z.1 0 65 else μ.1 i k) ∧ z.1 0 66 = μ.1 0 66 ∧ Aw9 z M n (p + 1) (f n)) := by
    intro fu
    induction fu with
    | zero => intro k a3 z _ _ _ _ _ _ _ r e; rw [p_X12_workBelow_b38_z] at e; cases e
    | succ fu ih =>
      intro k a3 z hk hk2 hQ z65 zl z66 za
      have z9 : ∀ i, z.1 9 i = μ.1 9 i := fun i => hQ.2.2.1 9 i (by decide) (by omega) (by omega) (by omega)
      have g9 : (z.1 9 p).toInt = (n : Int) := by rw [z9]; exact h9
      have d2 : (z.1 9 p / 2).toInt = ((n / 2 : Nat) : Int) := by
        rw [Int32.toInt_div, e2, g9, Int.tdiv_eq_ediv_of_nonneg (by omega), Int.bmod_eq_of_le (by omega) (by omega)]; omega
      rw [p_X12_workBelow_b38_s, tp]
      refine pk_gd (fun _ => pk_ite (fun c => ?_) (fun c => ?_))
      · rw [ti_le, d2, hk] at c
        refine pk_some ⟨hQ, z65, zl, z66, ?_⟩
        rw [← f0]
        refine aw_of (fun t ht => (hf t ht).1.cong (fun j _ _ => by unfold iv; rw [z9])) (fun l hl => ⟨(za l hl).1, ?_⟩)
        rw [(za l hl).2]
        by_cases e : l < k ∨ n - 1 - l < k
        · rw [if_pos e]
        · rw [if_neg e, show n - 1 - l = l by omega]
      · rw [ti_le, d2, hk] at c
        have i65 := ti_hi (z.1 0 65)
        have u1 : (z.1 0 65 - 1).toInt = ((M + n - 1 : Nat) : Int) := by rw [ti_sub (by omega) (by omega), z65, e1]; omega
        have u2 : (z.1 0 65 - 1 - a3).toInt = ((M + (n - 1 - k) : Nat) : Int) := by rw [ti_sub (by omega) (by omega), u1, hk]; omega
        have w1 : (z.1 0 65 - z.1 9 p).toInt = (M : Int) := by rw [ti_sub (by omega) (by omega), z65, g9]; omega
        have w2 : (z.1 0 65 - z.1 9 p + a3).toInt = ((M + k : Nat) : Int) := by rw [ti_add (by omega) (by omega), w1, hk]; omega
        rw [tn_of u2, tn_of w2]
        refine pk_gd (fun _ => pk_bvy (fun v4 q4 => pk_gd (fun _ => pk_gd (fun _ => pk_bvy (fun v5 q5 => pk_gd (fun _ => pk_bvy (fun μ6 m6 => ?_)))))))
        have x9 : μ6.1 9 p = z.1 9 p := by rw [m6, sF_i (by decide)]
        have x65 : μ6.1 0 65 = z.1 0 65 := by rw [m6, sF_i (by decide)]
        rw [x9, x65, tn_of w2]
        refine pk_gd (fun _ => pk_gd (fun _ => pk_bvy (fun μ7 m7 => pk_bvy (fun v8 q8 => ?_))))
        have c7 : ∀ i l, μ7.1 i l = if i = 38 ∧ l = M + k then z.1 38 (M + (n - 1 - k)) else if i = 38 ∧ l = M + (n - 1 - k) then z.1 38 (M + k) else z.1 i l := by
          intro i l
          rw [m7, sF_at, m6, sF_at, q4, q5]
        have hQ7 : Qm8 h m0 μ μ7 := by rw [m7, m6]; exact hQ.tr ((Qm8.F _ (by omega)).tr (Qm8.F _ (by omega)))
        refine ih (k + 1) v8 μ7 (by rw [q8, ti_add (by omega) (by omega), hk, e1]; omega) (by omega) hQ7 (by rw [c7, if_neg (by omega), if_neg (by omega)]; exact z65) (fun i l hl => ?_) (by rw [c7, if_neg (by omega), if_neg (by omega)]; exact z66) (fun l hl => ⟨by rw [c7, if_neg (by omega), if_neg (by omega)]; exact (za l hl).1, ?_⟩)
        · by_cases e : i = 0 ∧ l = 65
          · obtain ⟨e1', e2'⟩ := e
            subst e1'; subst e2'
            rw [if_pos ⟨rfl, rfl⟩]
          · rw [if_neg e, c7, if_neg (by omega), if_neg (by omega), zl i l hl, if_neg e]
        · rw [c7]
          by_cases c1 : l = k
          · rw [if_pos ⟨rfl, by omega⟩, (za _ (by omega)).2, if_neg (by omega), if_pos (Or.inl (by omega)), c1]
          · rw [if_neg (by omega)]
            by_cases c2 : l = n - 1 - k
            · rw [if_pos ⟨rfl, by omega⟩, (za _ (by omega)).2, if_neg (by omega), if_pos (Or.inr (by omega)), c2, show n - 1 - (n - 1 - k) = k by omega]
            · rw [if_neg (by omega), (za l hl).2]
              by_cases e : l < k ∨ n - 1 - l < k
              · rw [if_pos e, if_pos (by omega)]
              · rw [if_neg e, if_neg (by omega)]
  have loop1 : ∀ (fu t : Nat) (a2 a3 : Int32) (z : Mem), a3.toInt = (t : Int) → t ≤ n → a2.toInt = (f t : Int) → Qm8 h m0 μ z → (z.1 0 65).toInt = ((M + t : Nat) : Int) → (∀ i k, k < M → z.1 i k = if i = 0 ∧ k = 65 then z.1 0 65 else μ.1 i k) → z.1 0 66 = μ.1 0 66 → (∀ l, l < t → z.1 37 (M + l) = 0 ∧ (z.1 38 (M + l)).toInt = (f l : Int)) → pk (p_X12_workBelow_b6 fu a1 a2 a3 z) (fun z => Qm8 h m0 μ z ∧ (z.1 0 65).toInt = ((M + n : Nat) : Int) ∧ (∀ i k, k < M → z.1 i k = if i = 0 ∧ k = 65 then z.1 0 65 else μ.1 i k) ∧ z.1 0 66 = μ.1 0 66 ∧ Aw9 z M n (p + 1) (f n)) := by
    intro fu
    induction fu with
    | zero => intro t a2 a3 z _ _ _ _ _ _ _ _ r e; rw [p_X12_workBelow_b6_z] at e; cases e
    | succ fu ih =>
      intro t a2 a3 z ht ht2 h2 hQ z65 zl z66 za
      have z9 : ∀ i, z.1 9 i = μ.1 9 i := fun i => hQ.2.2.1 9 i (by decide) (by omega) (by omega) (by omega)
      rw [p_X12_workBelow_b6_s, tp]
      refine pk_gd (fun _ => pk_ite (fun c => ?_) (fun c => ?_))
      · rw [ti_le, z9, h9, ht] at c
        have et : t = n := by omega
        subst et
        refine loop2 FUEL 0 0 z e0 (by omega) hQ z65 zl z66 (fun l hl => ⟨(za l hl).1, ?_⟩)
        rw [(za l hl).2, if_neg (by omega)]
      · rw [ti_le, z9, h9, ht] at c
        refine pk_bw (m_push 0 a2 0 z65) (fun μ9 h => ?_)
        obtain ⟨m9, hlt⟩ := h
        have c9 : ∀ i l, μ9.1 i l = if i = 0 ∧ l = 65 then z.1 0 65 + 1 else if i = 39 ∧ l = M + t then 0 else if i = 38 ∧ l = M + t then a2 else if i = 37 ∧ l = M + t then 0 else z.1 i l := by
          intro i l
          rw [m9, sF_at, sF_at, sF_at, sF_at]
        have z10 : μ9.1 10 (f t) = μ.1 10 (f t) := by rw [c9, if_neg (by omega), if_neg (by omega), if_neg (by omega), if_neg (by omega)]; exact hQ.2.2.1 10 _ (by decide) (by omega) (by omega) (by omega)
        rw [tn_of h2, z10]
        refine pk_gd (fun _ => pk_bvy (fun v11 q11 => pk_bvy (fun v12 q12 => ?_)))
        have q65 : (μ9.1 0 65).toInt = ((M + (t + 1) : Nat) : Int) := by
          rw [c9, if_pos ⟨rfl, rfl⟩, ti_add (by omega) (by omega), z65, e1]; omega
        refine ih (t + 1) v11 v12 μ9 (by rw [q12, ti_add (by omega) (by omega), ht, e1]; omega) (by omega) (by rw [q11]; exact (hf t (by omega)).2) (by rw [m9]; exact hQ.tr (Qm8.act (by omega) _ _ _ _)) q65 (fun i l hl => ?_) (by rw [c9, if_neg (by omega), if_neg (by omega), if_neg (by omega), if_neg (by omega)]; exact z66) (fun l hl => ?_)
        · by_cases e : i = 0 ∧ l = 65
          · obtain ⟨e1', e2'⟩ := e
            subst e1'; subst e2'
            rw [if_pos ⟨rfl, rfl⟩]
          · rw [if_neg e, c9, if_neg e, if_neg (by omega), if_neg (by omega), if_neg (by omega), zl i l hl, if_neg e]
        · by_cases e : l = t
          · subst e
            exact ⟨by rw [c9, if_neg (by omega), if_neg (by omega), if_neg (by omega), if_pos ⟨rfl, rfl⟩], by rw [c9, if_neg (by omega), if_neg (by omega), if_pos ⟨rfl, rfl⟩]; exact h2⟩
          · have := za l (by omega)
            exact ⟨by rw [c9, if_neg (by omega), if_neg (by omega), if_neg (by omega), if_neg (by omega)]; exact this.1, by rw [c9, if_neg (by omega), if_neg (by omega), if_neg (by omega), if_neg (by omega)]; exact this.2⟩
  rw [p_X12_workBelow_eq]
  refine pk_bvy (fun v1 q1 => loop1 FUEL 0 v1 0 μ e0 (by omega) ?_ Qm8.rf (by rw [Nat.add_zero]; exact h65) (fun i l hl => ?_) rfl (fun l hl => absurd hl (by omega)))
  · have := ti_hi a1
    rw [q1, ti_add (by omega) (by omega), ha, e1, f0]; omega
  · by_cases e : i = 0 ∧ l = 65
    · obtain ⟨e1', e2'⟩ := e
      subst e1'; subst e2'
      rw [if_pos ⟨rfl, rfl⟩]
    · rw [if_neg e]
end

section
theorem W9.low {P : Nat} {C : List Th3} {G : List Fn5} {v b a h h0 D m m0 m2 bc ob : Nat} {N : List Int32} {μx μm q z : Mem} {It Bk : List Nat} {cl : Nat → Prop} (W : W9 P C G v b a h D N m bc ob μx μm It Bk cl) (fx : Qx8 h0 μx q) (fm : Qm8 h0 m0 μm z) (hh : h0 ≤ h) (q7 : (q.1 30 7).toInt = (h0 : Int)) (z66 : (z.1 0 66).toInt = (h0 : Int)) (hm : (z.1 0 65).toInt = (m2 : Int)) : W9 P C G v b a h0 D N m2 bc ob q z It Bk cl := by
  have fx' : Cx8 v h0 μx q := fx.cx
  have fm' : Cm8 h0 m0 0 0 μm z := fm.cm
  exact W.move (W.1.move fx' fm' (q_re W.1.1 fx fm) (fun y hy => by rw [fx.2.1 39 6 (by decide) (by decide) (by decide) (by omega)]; exact W.1.2.1 y hy) (W.1.2.2.1.low fx' fm' hh q7 z66) hm) fx' fm' (Gl8.same (q_sc fx fm))
theorem W9.known {P : Nat} {C : List Th3} {G : List Fn5} {v b a h h0 D m m0 m2 bc ob x w d : Nat} {N : List Int32} {μx μm q z : Mem} {It Bk : List Nat} {cl : Nat → Prop} (W : W9 P C G v b a h D N m bc ob μx μm It Bk cl) (fx : Qx8 h0 μx q) (fm : Qm8 h0 m0 μm z) (hh : h0 ≤ h) (q7 : (q.1 30 7).toInt = ((h0 + 1 : Nat) : Int)) (z66 : (z.1 0 66).toInt = ((h0 + 1 : Nat) : Int)) (hv : Va7 q z (q.2.1 36 h0) x w d) (hx : (z.1 40 h0).toInt = (x : Int)) (hw : w ≤ 40) (hm : (z.1 0 65).toInt = (m2 : Int)) : W9 P C G v b a (h0 + 1) D N m2 bc ob q z It Bk cl := by
  have fx' : Cx8 v h0 μx q := fx.cx
  have fm' : Cm8 h0 m0 0 0 μm z := fm.cm
  exact W.move (W.1.move fx' fm' (q_re W.1.1 fx fm) (fun y hy => by rw [fx.2.1 39 6 (by decide) (by decide) (by decide) (by omega)]; exact W.1.2.1 y hy) (W.1.2.2.1.res fx' fm' hh q7 z66 hv hx hw) hm) fx' fm' (Gl8.same (q_sc fx fm))
theorem F9.q {v b B h D n bc m h0 m0 : Nat} {μx μm q z : Mem} {It Bk : List Nat} {cl : Nat → Prop} (fx : Qx8 h0 μx q) (fm : Qm8 h0 m0 μm z) (e1 : h ≤ h0) (e2 : m ≤ m0) : F9 v b B h D n bc m μx μm It Bk cl q z It Bk cl := F9.of (p := 0) (o := 0) (Gw8.same (q_sc fx fm)) fx.cx fm.cm e1 e2 (by rw [fx.2.1 39 1 (by decide) (by decide) (by decide) (by omega)]; exact Int.le_refl _)
theorem cd_len {T : List Th3} {cf : Nat → Option Th3} {r k : Nat} {N : List Int32} {i j c e : Nat} (h : Cd6 (at5 T) cf r k N i j c e) : i ≤ T.length → j ≤ T.length := by
  have lt : ∀ {i : Nat} {x : Th3}, at5 T i = some x → i + 1 ≤ T.length := fun h => lt_some h
  refine Cd6.ind (M := fun r k N i j c e => i ≤ T.length → j ≤ T.length) ?_ ?_ ?_ ?_ ?_ ?_ ?_ ?_ ?_ ?_ ?_ ?_ h
  · intro r N i c h; exact h
  · intro r N i c k m j d e _ ia _ ib h; exact ib (ia h)
  · intro r N i c s b2 h1 _ _ _; exact lt h1
  · intro r N i c a h1 _ _ _; exact lt h1
  · intro r N i c d h1 _ _ _; exact lt h1
  · intro r N i c x j e h1 _ ia _ _ _; exact ia (lt h1)
  · intro r N i c d j e h1 _ ia _ _ _; exact ia (lt h1)
  · intro r N i c s m d j e h1 _ ia _ ib _ _ _; exact ib (ia (lt h1))
  · intro r N i c m d j e h1 _ ia _ ib _ _; exact ib (ia (lt h1))
  · intro r N i c m d m2 d2' j e h1 _ ia _ _ ib _ _ ic _ _; exact ic (ib (ia (lt h1)))
  · intro r N i c a0 m d j e h1 _ _ ia _ _ ib _; exact ib (ia (lt h1))
  · intro r N i c l n j e h1 h2 _ ia _ _; exact ia (lt h1)
theorem tot_ap (G1 G2 : List Fn5) : tot (G1 ++ G2) = tot G1 + tot G2 := by unfold tot; rw [List.map_append, List.sum_append]
theorem fn_len {G : List Fn5} {T : List Th3} {o : Nat} (hF : Fn9 G T o) : o + T.length ≤ tot G := by
  obtain ⟨f, G1, G2, rfl, rfl, rfl⟩ := hF
  rw [tot_ap, tot_c]; omega
theorem W9.bh {P : Nat} {C : List Th3} {G : List Fn5} {v b a h D m bc ob : Nat} {N : List Int32} {μx μm : Mem} {It Bk : List Nat} {cl : Nat → Prop} (W : W9 P C G v b a h D N m bc ob μx μm It Bk cl) {p q : Nat} (hp : p < tot G) (hs : Sh (iv μm 9) 1 p q) : (μm.1 10 p).toInt = (q : Int) := by
  have hB : Bh μm 0 (nv μm 18) := W.2.1.2.2.2.2.2.2.2.2.2
  have hn : nv μm 18 = tot G := tn_of W.pn.2.1
  obtain ⟨q', b1, b2, _⟩ := hB p (by omega) (by omega)
  have := hs.det _ b1
  subst this
  exact b2
theorem W9.tot {P : Nat} {C : List Th3} {G : List Fn5} {v b a h D m bc ob : Nat} {N : List Int32} {μx μm : Mem} {It Bk : List Nat} {cl : Nat → Prop} (W : W9 P C G v b a h D N m bc ob μx μm It Bk cl) : tot G ≤ 2147483647 := by
  have := ti_hi (μm.1 0 18)
  have h := W.pn.2.1
  omega
theorem W9.x68 {P : Nat} {C : List Th3} {G : List Fn5} {v b a h D m bc ob : Nat} {N : List Int32} {μx μm : Mem} {It Bk : List Nat} {cl : Nat → Prop} (W : W9 P C G v b a h D N m bc ob μx μm It Bk cl) : μm.1 0 68 = 0 ∧ μm.1 0 69 = 1 := W.1.1.2.2.2.2.2.1
theorem W9.x65 {P : Nat} {C : List Th3} {G : List Fn5} {v b a h D m bc ob : Nat} {N : List Int32} {μx μm : Mem} {It Bk : List Nat} {cl : Nat → Prop} (W : W9 P C G v b a h D N m bc ob μx μm It Bk cl) : (μm.1 0 65).toInt = (m : Int) := W.1.2.2.2.2.2.2.2.1
theorem W9.x7 {P : Nat} {C : List Th3} {G : List Fn5} {v b a h D m bc ob : Nat} {N : List Int32} {μx μm : Mem} {It Bk : List Nat} {cl : Nat → Prop} (W : W9 P C G v b a h D N m bc ob μx μm It Bk cl) : (μx.1 30 7).toInt = (h : Int) ∧ (μm.1 0 66).toInt = (h : Int) := ⟨W.1.2.2.1.1, W.1.2.2.1.2.1⟩
theorem m_work_do {μ : Mem} {p n m q h : Nat} {s a2 a3 : Int32} {f : Nat → Nat} (ha : a2.toInt = (p : Int)) (h7 : μ.1 7 p = s) (hs : s ≠ 0 ∧ s ≠ 1 ∧ s ≠ 4 ∧ s ≠ 7 ∧ s ≠ 11) (h9 : (μ.1 9 p).toInt = (n : Int)) (hn : n ≤ 5) (hp8 : p < 2147483647) (h65 : (μ.1 0 65).toInt = (m : Int)) (f0 : f 0 = p + 1) (fn : f n = q) (hf : ∀ t, t < n → Sh (iv μ 9) 1 (f t) (f (t + 1)) ∧ (μ.1 10 (f t)).toInt = (f (t + 1) : Int)) : pk (p_X12_goOne 0 a2 a3 μ) (fun z => Qm8 h m μ z ∧ (z.1 0 65).toInt = ((m + 1 + n : Nat) : Int) ∧ z.1 37 m = 1 ∧ (z.1 38 m).toInt = (p : Int) ∧ z.1 0 66 = μ.1 0 66 ∧ Aw9 z (m + 1) n (p + 1) q) := by
  have e1 : (1 : Int32).toInt = 1 := by decide
  obtain ⟨s0, s1, s4, s7, s11⟩ := hs
  rw [p_X12_goOne_eq, if_pos rfl, p_X12_work_eq, tn_of ha, h7]
  refine pk_bw (pk_gd (fun _ => pk_bvy (fun v1 q1 => ?_))) (fun q hq => pk_some hq)
  rw [q1, if_neg s0, if_neg s1, if_neg s4, if_neg s7, if_neg s11]
  refine pk_bw (m_push 1 a2 0 h65) (fun μ2 h2 => ?_)
  obtain ⟨m2, hm6⟩ := h2
  have c2 : ∀ i l, μ2.1 i l = if i = 0 ∧ l = 65 then μ.1 0 65 + 1 else if i = 39 ∧ l = m then 0 else if i = 38 ∧ l = m then a2 else if i = 37 ∧ l = m then 1 else μ.1 i l := by
    intro i l
    rw [m2, sF_at, sF_at, sF_at, sF_at]
  have c9 : ∀ i l, i ≠ 0 → i ≠ 37 → i ≠ 38 → i ≠ 39 → μ2.1 i l = μ.1 i l := fun i l a1 a2 a3 a4 => by rw [c2, if_neg (by omega), if_neg (by omega), if_neg (by omega), if_neg (by omega)]
  have q2 : Qm8 h m μ μ2 := by rw [m2]; exact Qm8.act (Nat.le_refl _) _ _ _ _
  refine pk_bw (m_workBelow (M := m + 1) (m0 := m) (h := h) (n := n) (f := f) ha (by rw [c9 9 p (by decide) (by decide) (by decide) (by decide)]; exact h9) hn hp8 (by rw [c2, if_pos ⟨rfl, rfl⟩, ti_add (by omega) (by omega), h65, e1]; omega) (by omega) f0 (fun t ht => ⟨(hf t ht).1.cong (fun j _ _ => by unfold iv; rw [c9 9 j (by decide) (by decide) (by decide) (by decide)]), by rw [c9 10 _ (by decide) (by decide) (by decide) (by decide)]; exact (hf t ht).2⟩)) (fun z hz => pk_some ?_)
  obtain ⟨z1, z2, z3, z4, z5⟩ := hz
  rw [fn] at z5
  refine ⟨q2.tr z1, z2, ?_, ?_, ?_, z5⟩
  · rw [z3 37 m (by omega), if_neg (by omega), c2, if_neg (by omega), if_neg (by omega), if_neg (by omega), if_pos ⟨rfl, rfl⟩]
  · rw [z3 38 m (by omega), if_neg (by omega), c2, if_neg (by omega), if_neg (by omega), if_pos ⟨rfl, rfl⟩]; exact ha
  · rw [z4, c2, if_neg (by omega), if_neg (by omega), if_neg (by omega), if_neg (by omega)]
def Op9 (P : Nat) (C : List Th3) (G : List Fn5) (df : Nat) (p n : Nat) (N : List Int32) (e : Nat) : Prop := ∀ {β : Type} (K : Mem → Option β) (Post : Int32 × Mem → β → Prop) (μx μm : Mem) (It Bk : List Nat) (cl : Nat → Prop) (v b a h D m bc ob : Nat) (a1 : Int32) (nn fu : Nat) (X Y : Int), W9 P C G v b a (h + n) D N (m + 1) bc ob μx μm It Bk cl → μm.1 37 m = 1 → (μm.1 38 m).toInt = (p : Int) → (μx.1 137 9).toInt = (e : Int) → Bu9 a1 μx X Y → h + n + 1 ≤ 80 * (D + 1) → bc ≤ 20 * (D + 1) → ob ≤ 20 ∧ 12 ≤ D + df → X + 1 ≤ 1000000 → Y + 1 ≤ 30200 → Ok9 K Post P C G v b a (h + 1) D N m bc ob h m μx μm It Bk cl (e + 1) (X + 1) (Y + 1) → Bd9 K Post → Rn9 K Post nn a1 μx fu μm
theorem F9.low {v b B h D n bc m m' : Nat} {μx μm q z : Mem} {It Bk It2 Bk2 : List Nat} {cl cl2 : Nat → Prop} (F : F9 v b B h D n bc m μx μm It Bk cl q z It2 Bk2 cl2) (hm : m' ≤ m) : F9 v b B h D n bc m' μx μm It Bk cl q z It2 Bk2 cl2 := ⟨F.1, F.2.1, ⟨F.2.2.1.1, F.2.2.1.2.1, fun i k hi hk => F.2.2.1.2.2 i k hi (by omega)⟩, F.2.2.2⟩
theorem e9_do {P : Nat} {C : List Th3} {G : List Fn5} {df : Nat} {T : List Th3} {o r n : Nat} {N : List Int32} {i j c e : Nat} {s w : Int32} (hF : Fn9 G T o) (h1 : T[i]? = some (s, w, Int32.ofNat n)) (hn : n ≤ 5) (hs : s ≠ 0 ∧ s ≠ 1 ∧ s ≠ 4 ∧ s ≠ 7 ∧ s ≠ 11) (a' : Cd6 (at5 T) (at5 C) r n N (i + 1) j c e) (row : E9 P C G df o r n N (i + 1) j c e) (op : Op9 P C G df (o + i) n N e) : E9 P C G df o (r + 1) 1 N i j c (e + 1) := by
  intro β K Post μx μm It Bk cl v b a h D m bc ob a1 nn fu X Y W hA hpc hbu hh hbc hob hX hY ok bad
  have la := a'.le
  have hil : i < T.length := lt_some h1
  have hjl := cd_len a' hil
  have hol := fn_len hF
  have e1 : (1 : Int32).toInt = 1 := by decide
  obtain ⟨r', A1, _, A3, A4⟩ := hA
  have A1 : o + i = r' := A1
  subst A1
  have hsh : Sh (iv μm 9) n (o + (i + 1)) (o + j) := cd_sh (W.t9 hF) a'
  obtain ⟨f, f0, fn, ft⟩ := sh_chain hsh
  have lsh := hsh.le
  obtain ⟨t7, _, t9⟩ := fn_at W.pn hF i _ h1
  have htot := W.tot
  generalize hμ1 : sF μm 0 65 (μm.1 0 65 - 1) = μ1
  have c1 : ∀ i l, i ≠ 0 → μ1.1 i l = μm.1 i l := fun i l hi => by rw [← hμ1, sF_i hi]
  have q1 : Qm8 h m μm μ1 := by rw [← hμ1]; exact Qm8.F _ (by omega)
  have x65 : (μ1.1 0 65).toInt = (m : Int) := by
    have := ti_hi (μm.1 0 65)
    have h5 := W.x65
    rw [← hμ1, sF_v, ti_sub (by omega) (by omega), h5, e1]; omega
  refine gx_step W.x65 W.x68.1 (A := fun z => Qm8 h m μ1 z ∧ (z.1 0 65).toInt = ((m + 1 + n : Nat) : Int) ∧ z.1 37 m = 1 ∧ (z.1 38 m).toInt = ((o + i : Nat) : Int) ∧ z.1 0 66 = μ1.1 0 66 ∧ Aw9 z (m + 1) n (o + i + 1) (o + j)) ?_ ?_
  · rw [hμ1, A3]
    exact m_work_do (s := s) (f := f) A4 (by rw [c1 7 _ (by decide)]; exact t7) hs (by rw [c1 9 _ (by decide), t9]; show (Int32.ofNat n).toInt = _; exact Int32.toInt_ofNat_of_lt (by omega)) hn (by omega) x65 f0 fn (fun t ht => ⟨(ft t ht).1.cong (fun k _ _ => by unfold iv; rw [c1 9 k (by decide)]), by rw [c1 10 _ (by decide)]; exact W.bh (by have := (ft t ht).2; omega) (ft t ht).1⟩)
  · rintro f2 z _ ⟨z1, z2, z3, z4, z5, z6⟩
    have qz : Qm8 h m μm z := q1.tr z1
    have W1 : W9 P C G v b a h D N (m + 1 + n) bc ob μx z It Bk cl := W.low (Qx8.rf) qz (Nat.le_refl _) W.x7.1 (by rw [z5, ← hμ1, sF_k (by decide)]; exact W.x7.2) z2
    refine row K Post μx z It Bk cl v b a h D (m + 1) bc ob a1 nn f2 X Y W1 z6 hpc hbu (by omega) (by omega) (by omega) (by omega) (by omega) ?_ bad
    intro q3 z3' It3 Bk3 cl3 a3 n3 fu3 W3 F3 hpc3 hbu3
    have k37 : z3'.1 37 m = 1 := by rw [F3.2.2.1.2.2 37 m (Or.inl rfl) (by omega)]; exact z3
    have k38 : (z3'.1 38 m).toInt = ((o + i : Nat) : Int) := by rw [F3.2.2.1.2.2 38 m (Or.inr (Or.inl rfl)) (by omega)]; exact z4
    refine op K Post q3 z3' It3 Bk3 cl3 v b a h D m bc ob a3 n3 fu3 (X + ((e - c : Nat) : Int)) (Y + ((j - (i + 1) : Nat) : Int)) W3 k37 k38 hpc3 hbu3 (by omega) (by omega) (by omega) (by omega) (by omega) ?_ bad
    intro q4 z4' It4 Bk4 cl4 a4 n4 fu4 W4 F4 hpc4 hbu4
    refine ok q4 z4' It4 Bk4 cl4 a4 n4 fu4 W4 ?_ hpc4 (hbu4.mono (by omega) (by omega))
    have F0 : F9 v b (μx.1 39 6).toNatClampNeg h D N.length bc m μx μm It Bk cl μx z It Bk cl := F9.q (h0 := h) Qx8.rf qz (Nat.le_refl _) (Nat.le_refl _)
    exact (F0.tr F3 (Nat.le_refl _) (Nat.le_refl _) (Nat.le_refl _) (by omega) (Nat.le_refl _)).low (Nat.le_refl _) |>.tr F4 (Nat.le_refl _) (Nat.le_refl _) (Nat.le_refl _) (Nat.le_refl _) F3.2.2.2.2.1.1.2
end

section
theorem pk_bdv {α β : Type} {f : Option (α × Mem)} {k : α → Mem → Option β} {Q : β → Prop} {r0 : α} {μ0 : Mem} (h : pk f (fun r => r.1 = r0 ∧ r.2 = μ0)) (hk : pk (k r0 μ0) Q) : pk (bd f k) Q := by
  refine pk_bd h ?_
  intro r μ he
  have e1 : r = r0 := he.1
  have e2 : μ = μ0 := he.2
  rw [e1, e2]; exact hk
theorem pk_bwv {β : Type} {f : Option Mem} {k : Mem → Option β} {Q : β → Prop} {μ0 : Mem} (h : pk f (fun q => q = μ0)) (hk : pk (k μ0) Q) : pk (bw f k) Q := pk_bw h (fun μ e => by rw [e]; exact hk)
theorem pk_bvs {α β : Type} {x : α} {f : α → Option β} {Q : β → Prop} (h : pk (f x) Q) : pk (bv x f) Q := h
noncomputable def bdy (s m t : Int32) (μ7 : Mem) : Option Mem := (if s = 0 then bw (p_X8_push (s_X0_make m t) μ7) (fun μ10 => some μ10) else (if s = 1 then bd (p_X8_varAt m μ7) (fun r14 μ13 => bw (p_X8_push r14 μ13) (fun μ15 => some μ15)) else (if s = 2 then bw (p_X10_reckon m μ7) (fun μ18 => some μ18) else (if s = 3 then bw (p_X10_turn m μ7) (fun μ21 => some μ21) else (if s = 4 then bw (p_X10_takePart m μ7) (fun μ24 => some μ24) else (if s = 5 then bw (p_X10_makePair μ7) (fun μ27 => some μ27) else (if s = 6 then bw (p_X10_test m μ7) (fun μ30 => some μ30) else (if s = 7 then bw (p_X10_endThen m μ7) (fun μ33 => some μ33) else (if s = 8 then bw (p_X10_endElse μ7) (fun μ36 => some μ36) else (if s = 9 then bd (p_X8_fromTop 0 μ7) (fun r40 μ39 => bd (p_X8_num r40 μ39) (fun r42 μ41 => bd (p_X10_leave 7 0 r42 (0 : Int64) μ41) (fun r44 μ43 => some μ43))) else (if s = 10 then bw (p_X10_putAt m μ7) (fun μ46 => some μ46) else (if s = 11 then bd (p_X10_leave 9 m (0 : Int64) (0 : Int64) μ7) (fun r50 μ49 => bw (p_X8_push r50 μ49) (fun μ51 => some μ51)) else (if s = 12 then bd (p_X8_pop μ7) (fun r55 μ54 => bw (p_X8_setVar m r55 μ54) (fun μ56 => some μ56)) else (if s = 13 then bd (p_X10_workCall m t μ7) (fun r60 μ59 => (if r60 = 0 then bw (p_X10_shapeCall m t μ59) (fun μ62 => bw (p_X10_leaveCall m μ62) (fun μ64 => some μ64)) else some μ59)) else bw (p_X10_goBack μ7) (fun μ66 => some μ66)))))))))))))))
theorem c_step {P i : Nat} {C : List Th3} {μ : Mem} {s m t : Int32} {A : Mem → Prop} (hP : sel 2 (μ.2.2 137 5) = P) (hL : Lc P C μ) (hC : C.length ≤ 2472) (hi : C[i]? = some (s, m, t)) (h9 : (μ.1 137 9).toInt = (i : Int)) (hA : pk (bdy s m t (sF μ 137 9 (μ.1 137 9 + 1))) A) : pk (p_X10_step μ) A := by
  have k1 := c_at hL hC hi h9
  rw [p_X10_step_eq, hP]
  refine pk_bdv k1.1 ?_
  rw [hP]
  refine pk_bdv k1.2.1 ?_
  rw [hP]
  refine pk_bdv k1.2.2 ?_
  exact hA
theorem W9.step {P : Nat} {C : List Th3} {G : List Fn5} {v b a h D m bc ob i : Nat} {N : List Int32} {μx μm : Mem} {It Bk : List Nat} {cl : Nat → Prop} {s mk t : Int32} {A : Mem → Prop} (W : W9 P C G v b a h D N m bc ob μx μm It Bk cl) (hi : C[i]? = some (s, mk, t)) (h9 : (μx.1 137 9).toInt = (i : Int)) (hA : pk (bdy s mk t (sF μx 137 9 (μx.1 137 9 + 1))) A) : pk (p_X10_step μx) A := c_step W.2.1.2.1 W.2.1.2.2.1 W.2.1.2.2.2.1 hi h9 hA
theorem op_run {β : Type} {K : Mem → Option β} {Post : Int32 × Mem → β → Prop} {P : Nat} {C : List Th3} {G : List Fn5} {v b a h D m bc ob nn fu : Nat} {N : List Int32} {μx μm : Mem} {It Bk : List Nat} {cl : Nat → Prop} {a1 : Int32} {X Y : Int} {A B : Mem → Prop} (W : W9 P C G v b a h D N (m + 1) bc ob μx μm It Bk cl) (hbu : Bu9 a1 μx X Y) (hX : X + 1 ≤ 1000000) (hA : pk (p_X10_step μx) A) (hB : pk (p_X12_goOne (μm.1 37 m) (μm.1 38 m) (μm.1 39 m) (sF μm 0 65 (μm.1 0 65 - 1))) B) (hK : ∀ q z n fu, A q → B z → Rn9 K Post n (a1 + 1) q fu z) : Rn9 K Post nn a1 μx fu μm := by
  obtain ⟨_, _, _, ⟨s1, s2, _, s4, _⟩, _⟩ := W.1.1
  have hl := hbu.lt
  refine lx_step s1 (by rw [s2]; exact s4) (by omega) hA (fun n' q _ hq => ?_)
  exact gx_step W.x65 W.x68.1 hB (fun f2 z _ hz => hK q z n' f2 hq hz)
theorem va_num {μx μm : Mem} {u : Int64} {y : Nat} (h : Va7 μx μm u y 1 0) : ∃ (m : Nat) (b : Int32), (m = 0 ∨ m = 1 ∨ m = 3) ∧ u = s_X0_make (nI m) b ∧ μm.1 30 y = nI m ∧ μm.1 31 y = b := by
  rcases (va_kind h).2 with ⟨m, hm, e, hs, _⟩ | ⟨k, y1, z1, w1, w2, d1, d2, e, hk, hs, hy, hz', hw, hd, _⟩
  · exact ⟨m, _, hm, e, hs, rfl⟩
  · omega
theorem pn_both {μx μm : Mem} {h : Nat} (s : Sk7 μx μm (h + 1)) : ∃ (x y : Nat) (u : Int64), Va7 (sF μx 30 7 (μx.1 30 7 - 1)) (sF μm 0 66 (μm.1 0 66 - 1)) u y 1 0 ∧ pk (p_X8_popNum μx) (fun r => r.1 = u ∧ r.2 = sF μx 30 7 (μx.1 30 7 - 1)) ∧ pk (p_X12_gone μm) (fun r => r.1.toInt = (x : Int) ∧ r.2 = sF μm 0 66 (μm.1 0 66 - 1)) ∧ ∀ a : Int32, a.toInt = (x : Int) → pk (p_X12_num a (sF μm 0 66 (μm.1 0 66 - 1))) (fun r => r.1.toInt = (y : Int) ∧ r.2 = sF μm 0 66 (μm.1 0 66 - 1)) := by
  obtain ⟨s1, s2, s3⟩ := s
  obtain ⟨x, w, d, c1, c2, c3⟩ := s3 h (by omega)
  obtain ⟨_, g, g2⟩ := sk_down ⟨s1, s2, s3⟩
  have hv := c2.gr g g2
  obtain ⟨y, u, hl, hu, hn⟩ := va_left hv
  have hd := va_pos c2
  have e0 : (0 : Int32).toInt = ((0 : Nat) : Int) := by decide
  refine ⟨x, y, u, hu, ?_, pk_mono (m_gone s2) (fun r hr => ⟨by rw [hr.1]; exact c1, hr.2⟩), fun a ha => pk_mono (m_num hl ha) (fun r hr => ⟨hr.2, hr.1⟩)⟩
  rw [p_X8_popNum_eq]
  refine pk_bd (c_pop s1) ?_
  rintro r2 μ1 ⟨e, e'⟩
  have e : r2 = μx.2.1 36 h := e
  have e' : μ1 = sF μx 30 7 (μx.1 30 7 - 1) := e'
  rw [e, e', p_X8_num_eq]
  refine pk_bd (hn FUEL 0 0 e0 (by omega)) ?_
  rintro r4 μ3 ⟨e1, e2⟩
  exact pk_some ⟨e2, e1⟩
theorem W9.num {P : Nat} {C : List Th3} {G : List Fn5} {v b a h h' D m m' bc ob y s : Nat} {N : List Int32} {μx μm q2 z3 z4 q z : Mem} {It Bk : List Nat} {cl : Nat → Prop} {bt r : Int32} (W : W9 P C G v b a h' D N m' bc ob μx μm It Bk cl) (fx : Qx8 h μx q2) (fm : Qm8 h m μm z3) (hh : h ≤ h') (q7 : (q2.1 30 7).toInt = (h : Int)) (z66 : (z3.1 0 66).toInt = (h : Int)) (z65 : (z3.1 0 65).toInt = (m : Int)) (hs : s = 0 ∨ s = 1 ∨ s = 3) (hN : Nn7 z3 z4 y (nI s) bt) (hr : r.toInt = (y : Int)) (hb : h < 2480) (hq : q = sF (sL q2 36 h (s_X0_make (nI s) bt)) 30 7 (q2.1 30 7 + 1)) (hz : z = sF (sF z4 40 h r) 0 66 (z4.1 0 66 + 1)) : W9 P C G v b a (h + 1) D N m bc ob q z It Bk cl ∧ ∀ B, F9 v b B h D N.length bc m μx μm It Bk cl q z It Bk cl := by
  have e1 : (1 : Int32).toInt = 1 := by decide
  have hF := hN.2.2.2.2.2.2.2
  have qx : Qx8 h μx q := by rw [hq]; exact fx.tr (Qx8.push (Nat.le_refl _) _)
  have c4 : Qm8 h m z4 z := by rw [hz]; exact Qm8.come (Nat.le_refl _) _
  have qm : Qm8 h m μm z := (fm.tr (Fh7.qm hF)).tr c4
  have d66 : z4.1 0 66 = z3.1 0 66 := hF.2.2.1 66 (by decide)
  have hv : Va7 q z (s_X0_make (nI s) bt) y 1 0 := (hN.leaf (μx := q) hs).gr Gs7.rf c4.2.2.2
  refine ⟨W.known qx qm hh ?_ ?_ (w := 1) (d := 0) (x := y) ?_ ?_ (by decide) ?_, fun B => F9.q qx qm (Nat.le_refl _) (Nat.le_refl _)⟩
  · rw [hq, sF_v, ti_add (by omega) (by omega), q7, e1]; omega
  · have := ti_hi (z3.1 0 66)
    rw [hz, sF_v, d66, ti_add (by omega) (by omega), z66, e1]; omega
  · have : q.2.1 36 h = s_X0_make (nI s) bt := by
      rw [hq]
      show (sL q2 36 h _).2.1 36 h = _
      rw [sL_at, if_pos ⟨rfl, rfl⟩]
    rw [this]; exact hv
  · rw [hz, sF_i (by decide), sF_v]; exact hr
  · rw [hz, sF_k (by decide), sF_i (by decide), hF.2.2.1 65 (by decide)]; exact z65
def Ai8 (kind mark : Int32) (x1 x2 : Int64) (v b n h : Nat) (q1 q : Mem) : Prop := (300 ≤ n ∧ q.1 137 6 = -2 ∧ q.2.2 = q1.2.2) ∨ (n < 300 ∧ ∃ q0, Lv7 kind mark x1 x2 v b n q1 q0 ∧ q = sF (sL q0 36 h (s_X0_make (nI 3) (q1.1 45 (4 * v + 2)))) 30 7 (q0.1 30 7 + 1))
def Bi8 (kind mark : Int32) (X : List Nat) (n h : Nat) (z1 z : Mem) : Prop := (300 ≤ n ∧ z.1 0 68 = -2) ∨ (n < 300 ∧ ∃ (p o y : Nat) (z0 z2 : Mem) (r : Int32), (z1.1 0 87).toInt = (p : Int) ∧ (z1.1 0 88).toInt = (o : Int) ∧ La7 kind mark true X p o n z1 z0 ∧ Nn7 z0 z2 y 3 (z1.1 0 93) ∧ r.toInt = (y : Int) ∧ z = sF (sF z2 40 h r) 0 66 (z2.1 0 66 + 1))
theorem W9.ins {β : Type} {K : Mem → Option β} {Post : Int32 × Mem → β → Prop} {P : Nat} {C : List Th3} {G : List Fn5} {v b a h h' D m m' bc ob e nn fu : Nat} {N : List Int32} {μx μm q1 z1 q z : Mem} {It Bk : List Nat} {cl : Nat → Prop} {kind mark a1 : Int32} {x1 x2 : Int64} {X : List Nat} {Xb Yb : Int} (W : W9 P C G v b a h' D N m' bc ob μx μm It Bk cl) (fx : Qx8 h μx q1) (fm : Qm8 h m μm z1) (hh : h ≤ h') (hb : h < 2480) (hk7 : kind ≠ 7) (h11 : kind ≠ 11) (h6 : kind ≠ 6) (hk : kind ≠ 13 ∧ kind ≠ 14) (hX : X.length ≤ 2) (hx : ∀ u, X[0]? = some u → Lo7 z1 x1 u) (hy : ∀ u, X[1]? = some u → Lo7 z1 x2 u) (q7 : (q1.1 30 7).toInt = (h : Int)) (z66 : (z1.1 0 66).toInt = (h : Int)) (z65 : (z1.1 0 65).toInt = (m : Int)) (hA : Ai8 kind mark x1 x2 v b It.length h q1 q) (hB : Bi8 kind mark X It.length h z1 z) (hpc : (q1.1 137 9).toInt = (e : Int)) (hbu : Bu9 a1 q1 Xb Yb) (ok : Ok9 K Post P C G v b a (h + 1) D N m bc ob h m μx μm It Bk cl e Xb Yb) (bad : Bd9 K Post) : Rn9 K Post nn a1 q fu z := by
  rcases hA with ⟨n1, n2, n3⟩ | ⟨n1, q0, n2, n3⟩
  · rcases hB with ⟨_, m1⟩ | ⟨m1, _⟩
    · exact bad q z a1 nn fu (-2) n2 m1 (by decide) (Su5.of W.2.2.2.2.2.1 (by rw [n3]; exact fx.1))
    · omega
  · rcases hB with ⟨m1, _⟩ | ⟨_, p, o, y, z0, z2, r, hp, ho, hL, hN, hr, hz⟩
    · omega
    · obtain ⟨S', g, FX, FM⟩ := W.1.ins fx fm hh hb hk7 h11 h6 hk n1 n2 n3 q7 hL hX hx hy hp ho hN hr hz z66 z65
      have W' := W.move S' FX FM g
      have f1 := n2.fx
      refine ok q z _ _ cl a1 nn fu W' (F9.of (g.1 _) FX FM (Nat.le_refl _) (Nat.le_refl _) (re_le W.1.1 W'.1.1 (g.1 0))) ?_ (hbu.same ?_ ?_)
      · rw [n3, sF_i (by decide)]
        show (q0.1 137 9).toInt = _
        rw [f1.2.1 137 9 (by decide) (by decide) (by decide) (by decide) (by decide)]; exact hpc
      · rw [n3, sF_i (by decide)]
        show q0.1 39 3 = _
        rw [f1.2.2.1 3 (by decide)]
      · rw [n3, sF_k (by decide)]
        show q0.1 30 5 = _
        rw [f1.2.1 30 5 (by decide) (by decide) (by decide) (by decide) (by decide)]
end

section
theorem W9.sk {P : Nat} {C : List Th3} {G : List Fn5} {v b a h D m bc ob : Nat} {N : List Int32} {μx μm : Mem} {It Bk : List Nat} {cl : Nat → Prop} (W : W9 P C G v b a h D N (m + 1) bc ob μx μm It Bk cl) : Sk7 (sF μx 137 9 (μx.1 137 9 + 1)) (sF μm 0 65 (μm.1 0 65 - 1)) h ∧ ((sF μm 0 65 (μm.1 0 65 - 1)).1 0 65).toInt = (m : Int) := by
  have e1 : (1 : Int32).toInt = 1 := by decide
  refine ⟨W.1.2.2.1.of (Qx8.pc (h := 0) _).2.2.2.2 (gh_F (by omega) (by omega)) (by rw [sF_i (by decide)]) (by rw [sF_k (by decide)]) (fun k _ => rfl) (fun k _ => by rw [sF_i (by decide)]), ?_⟩
  have := ti_hi (μm.1 0 65)
  have h5 := W.x65
  rw [sF_v, ti_sub (by omega) (by omega), h5, e1]; omega
theorem W9.f43 {P : Nat} {C : List Th3} {G : List Fn5} {v b a h D m bc ob : Nat} {N : List Int32} {μx μm : Mem} {It Bk : List Nat} {cl : Nat → Prop} (W : W9 P C G v b a h D N m bc ob μx μm It Bk cl) : (μx.1 137 6 = 0 ∧ (μx.1 137 7).toInt = (v : Int) ∧ (μx.1 137 8).toInt = (b : Int) ∧ (v : Int) < (μx.1 39 2).toInt ∧ v < 24 ∧ (b : Int) < (μx.1 39 6).toInt) ∧ (μx.1 39 1).toInt = (It.length : Int) ∧ (μx.1 43 b ≠ -1 → ∃ l : Nat, (μx.1 43 b).toInt = (l : Int) ∧ l < It.length) ∧ (μm.1 0 89).toInt = (It.length : Int) ∧ It.length ≤ 300 := by
  obtain ⟨hT, hB, hC, hs, _⟩ := W.1.1
  refine ⟨hs, hT.1, fun hne => ?_, hT.2.1, hT.2.2.1⟩
  obtain ⟨l, e, hl⟩ := cn_last hC hs.2.2.2.2.2 hne
  exact ⟨l, e, by omega⟩
theorem W9.cins {P : Nat} {C : List Th3} {G : List Fn5} {v b a h h' D m bc ob : Nat} {N : List Int32} {μx μm q1 : Mem} {It Bk : List Nat} {cl : Nat → Prop} {kind mark : Int32} {x1 x2 : Int64} (W : W9 P C G v b a h' D N m bc ob μx μm It Bk cl) (fx : Qx8 h μx q1) (hk7 : kind ≠ 7) (q7 : (q1.1 30 7).toInt = (h : Int)) (hb : h < 2480) : pk (bd (p_X10_leave kind mark x1 x2 q1) (fun r7 μ6 => bw (p_X8_push r7 μ6) (fun μ8 => some μ8))) (Ai8 kind mark x1 x2 v b It.length h q1) := by
  obtain ⟨⟨s1, s2, s3, s4, s5, s6⟩, hn, hl, _⟩ := W.f43
  have c : ∀ i k, i ≠ 30 → i ≠ 33 → i ≠ 34 → i ≠ 137 → q1.1 i k = μx.1 i k := fun i k a1 a2 a3 a4 => fx.2.1 i k a1 a2 a3 (by omega)
  have c7 : ∀ k, k ≠ 9 → q1.1 137 k = μx.1 137 k := fun k hk => fx.2.1 137 k (by decide) (by decide) (by decide) (by omega)
  exact pk_mono (c_ins (x := x1) (y := x2) (v := v) (b := b) (n := It.length) (by rw [c7 6 (by decide)]; exact s1) (by rw [c7 7 (by decide)]; exact s2) (by rw [c7 8 (by decide)]; exact s3) (by rw [c 39 2 (by decide) (by decide) (by decide) (by decide)]; exact s4) s5 (by rw [c 39 6 (by decide) (by decide) (by decide) (by decide)]; exact s6) (by rw [c 39 1 (by decide) (by decide) (by decide) (by decide)]; exact hn) (by rw [c 43 b (by decide) (by decide) (by decide) (by decide)]; exact hl) hk7 q7 hb) (fun q hq => hq)
theorem va_lo2 {μx μm : Mem} {u : Int64} {y m : Nat} {b : Int32} (hm : m = 0 ∨ m = 1 ∨ m = 3) (e : u = s_X0_make (nI m) b) (h1 : μm.1 30 y = nI m) (h2 : μm.1 31 y = b) : Lo7 μm u y := ⟨m, hm, by rw [h2]; exact e, h1⟩
theorem m_ins2 {z1 : Mem} {sg a2 a3 : Int32} {x y n h : Nat} (h2 : a2.toInt = (y : Int)) (h3 : a3.toInt = (x : Int)) (h68 : z1.1 0 68 = 0) (hn : (z1.1 0 89).toInt = (n : Int)) (hn3 : n ≤ 300) (z66 : (z1.1 0 66).toInt = (h : Int)) (ho' : ∃ o : Nat, (z1.1 0 88).toInt = (o : Int)) : pk (p_X12_doSign_b72 sg a2 a3 z1) (Bi8 0 sg [x, y] n h z1) := by
  obtain ⟨o, ho⟩ := ho'
  rw [p_X12_doSign_b72_eq]
  refine pk_bd (m_instr 0 1 ho hn hn3) ?_
  rintro r2 μ1 ⟨p, hp, hr, hp9, h⟩
  have hr : r2.toInt = (p : Int) := hr
  rcases h with ⟨hn, z, hI, e⟩ | ⟨hn, hL⟩
  · have e : μ1 = sF z 0 68 (-2) := e
    have e68 : μ1.1 0 68 = -2 := by rw [e, sF_v]
    rw [if_neg (by rw [e68]; decide)]
    exact pk_some (Or.inl ⟨hn, e68⟩)
  · have hL : La7 0 0 true [] p o n z1 μ1 := hL
    have e68 : μ1.1 0 68 = 0 := by rw [hL.2.2.2.2.2.2.1 68 (by decide) (by decide) (by decide) (by decide)]; exact h68
    rw [if_pos e68, tn_of hr]
    refine pk_gd (fun _ => pk_bvs (pk_bw ((hL.mark (mark := sg)).op hr h3 (by decide)) (fun μ4 h4 => pk_bw (La7.op h4 hr h2 (show (1 : Nat) ≤ 10 by decide)) (fun μ6 h6 => ?_))))
    have h6 : La7 0 sg true [x, y] p o n z1 μ6 := h6
    refine pk_mono (m_regcome h6 hr z66) ?_
    rintro z ⟨yy, z2, r, g1, g2, g3⟩
    exact Or.inr ⟨hn, p, o, yy, μ6, z2, r, hp, ho, h6, g1, g2, g3⟩
theorem W9.o88 {P : Nat} {C : List Th3} {G : List Fn5} {v b a h D m bc ob : Nat} {N : List Int32} {μx μm : Mem} {It Bk : List Nat} {cl : Nat → Prop} (W : W9 P C G v b a h D N m bc ob μx μm It Bk cl) : ∃ o : Nat, (μm.1 0 88).toInt = (o : Int) := by
  obtain ⟨⟨_, _, _, _, P, O, tP, tO, _⟩, _⟩ := W.1.1
  exact ⟨O, tO⟩
theorem gone_num {μ z1 : Mem} {β : Type} {x y : Nat} {k : Int32 → Mem → Option β} {Q : β → Prop} (g : pk (p_X12_gone μ) (fun r => r.1.toInt = (x : Int) ∧ r.2 = z1)) (n : ∀ a : Int32, a.toInt = (x : Int) → pk (p_X12_num a z1) (fun r => r.1.toInt = (y : Int) ∧ r.2 = z1)) (hk : ∀ r : Int32, r.toInt = (y : Int) → pk (k r z1) Q) : pk (bd (p_X12_gone μ) (fun r2 μ1 => bd (p_X12_num r2 μ1) k)) Q := by
  refine pk_bd g ?_
  rintro r2 μ1 ⟨e1, e2⟩
  have e2 : μ1 = z1 := e2
  rw [e2]
  refine pk_bd (n r2 e1) ?_
  rintro r4 μ3 ⟨e3, e4⟩
  have e4 : μ3 = z1 := e4
  rw [e4]
  exact hk r4 e3
theorem m_known2 {μ : Mem} {β : Type} {x : Nat} {a : Int32} {k : Int32 → Mem → Option β} {Q : β → Prop} (ha : a.toInt = (x : Int)) (hk : ∀ r : Int32, (r = 0 ↔ μ.1 30 x = 3) → pk (k r μ) Q) : pk (bd (p_X12_isKnown a μ) k) Q := by
  refine pk_bd (m_known ha) ?_
  rintro r μ1 ⟨e1, e2⟩
  have e1 : μ1 = μ := e1
  rw [e1]; exact hk r e2
theorem m_givecome {z1 z3 : Mem} {s bt : Int32} {h : Nat} (g : Gv8 s bt z1 z3) (z66 : (z1.1 0 66).toInt = (h : Int)) : pk (bd (p_X12_given z3) (fun r30 μ29 => bw (p_X12_come r30 μ29) (fun μ31 => some μ31))) (fun z => ∃ (z4 : Mem) (y : Nat) (r : Int32), Nn7 z3 z4 y s bt ∧ r.toInt = (y : Int) ∧ z = sF (sF z4 40 h r) 0 66 (z4.1 0 66 + 1)) := by
  have g0 : z3.1 0 0 = s := by unfold Gv8 at g; rw [g, sF_k (by decide), sF_v]
  have g1 : z3.1 0 1 = bt := by unfold Gv8 at g; rw [g, sF_v]
  have g66 : z3.1 0 66 = z1.1 0 66 := by unfold Gv8 at g; rw [g, sF_k (by decide), sF_k (by decide)]
  rw [p_X12_given_eq, g0, g1]
  refine pk_bd (P := fun r => ∃ y : Nat, r.1.toInt = (y : Int) ∧ Nn7 z3 r.2 y s bt) ?_ ?_
  · refine pk_bd (m_node s bt z3) ?_
    rintro r μ1 ⟨y, e1, e2⟩
    exact pk_some ⟨y, e1, e2⟩
  · rintro r μ1 ⟨y, e1, e2⟩
    have e2 : Nn7 z3 μ1 y s bt := e2
    exact pk_bw (m_come r (n := h) (by rw [e2.2.2.2.2.2.2.2.2.2.1 66 (by decide), g66]; exact z66)) (fun q hq => pk_some ⟨μ1, y, r, e2, e1, hq.1⟩)
theorem op_sgn {P : Nat} {C : List Th3} {G : List Fn5} {df : Nat} {T : List Th3} {o : Nat} {N : List Int32} {i e : Nat} {s : Int32} (hF : Fn9 G T o) (h1 : T[i]? = some (5, s, 2)) (h2 : C[e]? = some (2, s, 0)) (h3 : isSg s = true) : Op9 P C G df (o + i) 2 N e := by
  intro β K Post μx μm It Bk cl v b a h D m bc ob a1 nn fu X Y W h37 h38 hpc hbu hh hbc hob hX hY ok bad
  have e1 : (1 : Int32).toInt = 1 := by decide
  have hD : D ≤ 12 := W.1.2.2.2.2.2.1.2.2.2
  obtain ⟨t7, t8, _⟩ := fn_at W.pn hF i _ h1
  have t7 : μm.1 7 (o + i) = 5 := t7
  have t8 : μm.1 8 (o + i) = s := t8
  have hl := hbu.lt
  have ha0 := hbu.1
  obtain ⟨S0, z65⟩ := W.sk
  generalize hq0 : sF μx 137 9 (μx.1 137 9 + 1) = q0 at S0
  generalize hz0 : sF μm 0 65 (μm.1 0 65 - 1) = z0 at S0 z65
  have fx0 : Qx8 h μx q0 := by rw [← hq0]; exact Qx8.pc _
  have fm0 : Qm8 h m μm z0 := by rw [← hz0]; exact Qm8.F _ (by omega)
  obtain ⟨x2, y2, u2, V2, p2, g2, n2⟩ := pn_both S0
  have D1 := sk_down S0
  generalize hq1 : sF q0 30 7 (q0.1 30 7 - 1) = q1 at V2 p2 D1
  generalize hz1 : sF z0 0 66 (z0.1 0 66 - 1) = z1 at V2 g2 n2 D1
  obtain ⟨x1, y1, u1, V1, p1, g1, n1⟩ := pn_both D1.1
  have D2 := sk_down D1.1
  generalize hq2 : sF q1 30 7 (q1.1 30 7 - 1) = q2 at V1 p1 D2
  generalize hz2 : sF z1 0 66 (z1.1 0 66 - 1) = z2 at V1 g1 n1 D2
  have fx2 : Qx8 h μx q2 := by rw [← hq2, ← hq1]; exact (fx0.tr (Qx8.top _)).tr (Qx8.top _)
  have fm2 : Qm8 h m μm z2 := by rw [← hz2, ← hz1]; exact (fm0.tr (Qm8.F _ (by omega))).tr (Qm8.F _ (by omega))
  have V2' : Va7 q2 z2 u2 y2 1 0 := V2.gr D2.2.1 D2.2.2
  obtain ⟨m1, b1, hm1, eu1, ey1, eb1⟩ := va_num V1
  obtain ⟨m2, b2, hm2, eu2, ey2, eb2⟩ := va_num V2'
  have q7 := D2.1.1
  have z66 := D2.1.2.1
  have z65' : (z2.1 0 65).toInt = (m : Int) := by rw [← hz2, ← hz1, sF_k (by decide), sF_k (by decide)]; exact z65
  have hpc2 : (q2.1 137 9).toInt = ((e + 1 : Nat) : Int) := by
    rw [← hq2, ← hq1, ← hq0, sF_i (by decide), sF_i (by decide), sF_v]
    have : C.length ≤ 2472 := W.2.1.2.2.2.1
    have := lt_some h2
    rw [ti_add (by omega) (by omega), hpc, e1]; omega
  have b5 : q2.1 30 5 = μx.1 30 5 := by rw [← hq2, ← hq1, ← hq0, sF_k (by decide), sF_k (by decide), sF_i (by decide)]
  have b3 : q2.1 39 3 = μx.1 39 3 := fx2.2.1 39 3 (by decide) (by decide) (by decide) (by omega)
  have hbu2 : Bu9 (a1 + 1) q2 (X + 1) (Y + 1) := (hbu.step (y := 1) (by omega) b3 (by rw [b5]; omega) (by rw [b5]; omega))
  have hbody : ∀ {A : Mem → Prop}, (∀ r4 r2 : Int64, r4 = u1 → r2 = u2 → pk (if (s_X0_isKnown r4) = 0 then p_X10_reckon_b49 s r2 r4 q2 else (if (s_X0_isKnown r2) = 0 then p_X10_reckon_b49 s r2 r4 q2 else bw (p_X8_push (s_X0_apply s r4 r2) q2) (fun μ11 => some μ11))) A) → pk (p_X10_step μx) A := by
    intro A hA
    refine W.step h2 hpc ?_
    rw [hq0]
    show pk (bw (p_X10_reckon s q0) (fun μ18 => some μ18)) A
    refine pk_bw (P := A) ?_ (fun q hq => pk_some hq)
    rw [p_X10_reckon_eq]
    refine pk_bdv p2 ?_
    refine pk_bdv p1 ?_
    exact hA u1 u2 rfl rfl
  have hact : ∀ {B : Mem → Prop}, (∀ r4 r8 : Int32, r4.toInt = (y2 : Int) → r8.toInt = (y1 : Int) → pk (bd (p_X12_isKnown r8 z2) (fun r10 μ9 => (if r10 = 0 then p_X12_doSign_b72 s r4 r8 μ9 else bd (p_X12_isKnown r4 μ9) (fun r25 μ24 => (if r25 = 0 then p_X12_doSign_b72 s r4 r8 μ24 else gd (inb r8 100000) (gd (inb r8 100000) (gd (inb r4 100000) (gd (inb r4 100000) (bw (p_X12_join s (μ24.1 30 r8.toNatClampNeg) (μ24.1 31 r8.toNatClampNeg) (μ24.1 30 r4.toNatClampNeg) (μ24.1 31 r4.toNatClampNeg) μ24) (fun μ27 => bd (p_X12_given μ27) (fun r30 μ29 => bw (p_X12_come r30 μ29) (fun μ31 => some μ31)))))))))))) B) → pk (p_X12_goOne (μm.1 37 m) (μm.1 38 m) (μm.1 39 m) (sF μm 0 65 (μm.1 0 65 - 1))) B := by
    intro B hB
    rw [h37, hz0, p_X12_goOne_eq, if_neg (by decide), if_pos rfl, p_X12_doThing_eq, tn_of h38, fm0.2.2.1 7 _ (by decide) (by omega) (by omega) (by omega), fm0.2.2.1 8 _ (by decide) (by omega) (by omega) (by omega), t7, t8]
    refine pk_bw (P := B) (pk_gd (fun _ => ?_)) (fun q hq => pk_some hq)
    rw [if_neg (by decide), if_neg (by decide), if_neg (by decide), if_pos rfl]
    refine pk_gd (fun _ => pk_bw (P := B) ?_ (fun q hq => pk_some hq))
    rw [p_X12_doSign_eq]
    exact gone_num g2 n2 (fun r4 hr4 => gone_num g1 n1 (fun r8 hr8 => hB r4 r8 hr4 hr8))
  by_cases hkn : m1 ≤ 1 ∧ m2 ≤ 1
  · obtain ⟨k1, k2⟩ := hkn
    obtain ⟨sr, vr, s1, s2, s3⟩ := na_apply k1 k2 b1 b2 h3
    refine op_run W hbu hX (A := fun q => q = sF (sL q2 36 h (s_X0_make (nI sr) vr)) 30 7 (q2.1 30 7 + 1)) (B := fun z => ∃ (z3 z4 : Mem) (y : Nat) (r : Int32), Gv8 (nI sr) vr z2 z3 ∧ Nn7 z3 z4 y (nI sr) vr ∧ r.toInt = (y : Int) ∧ z = sF (sF z4 40 h r) 0 66 (z4.1 0 66 + 1)) (hbody ?_) (hact ?_) ?_
    · intro r4 r2 er4 er2
      have kk : ∀ (mm : Nat) (bb : Int32), mm ≤ 1 → ¬ s_X0_isKnown (s_X0_make (nI mm) bb) = 0 := fun mm bb hmm hc => by
        have := (mk_known mm (by omega) bb).mp hc; omega
      rw [er4, er2, eu1, eu2, if_neg (kk _ _ k1), if_neg (kk _ _ k2), s2]
      exact pk_bw (c_push _ q7 (by omega)) (fun q hq => pk_some hq)
    · intro r4 r8 h4 h8
      refine m_known2 h8 (fun r10 hr10 => ?_)
      rw [if_neg (fun c => by have := hr10.mp c; rw [ey1] at this; rcases (show m1 = 0 ∨ m1 = 1 by omega) with e | e <;> subst e <;> exact absurd this (by decide))]
      refine m_known2 h4 (fun r25 hr25 => ?_)
      rw [if_neg (fun c => by have := hr25.mp c; rw [ey2] at this; rcases (show m2 = 0 ∨ m2 = 1 by omega) with e | e <;> subst e <;> exact absurd this (by decide))]
      rw [tn_of h8, tn_of h4, ey1, ey2, eb1, eb2]
      refine pk_gd (fun _ => pk_gd (fun _ => pk_gd (fun _ => pk_gd (fun _ => pk_bw (s3 z2) (fun z3 hz3 => ?_)))))
      refine pk_mono (m_givecome hz3 z66) ?_
      rintro z ⟨z4, y, r, f1, f2, f3⟩
      exact ⟨z3, z4, y, r, hz3, f1, f2, f3⟩
    · rintro q z n fu hq ⟨z3, z4, y, r, f0, f1, f2, f3⟩
      have fm3 : Qm8 h m μm z3 := fm2.tr f0.qm
      have w66 : z3.1 0 66 = z2.1 0 66 := by unfold Gv8 at f0; rw [f0, sF_k (by decide), sF_k (by decide)]
      have w65 : z3.1 0 65 = z2.1 0 65 := by unfold Gv8 at f0; rw [f0, sF_k (by decide), sF_k (by decide)]
      obtain ⟨W', F'⟩ := W.num fx2 fm3 (by omega) q7 (by rw [w66]; exact z66) (by rw [w65]; exact z65') (by omega) f1 f2 (by omega) hq f3
      refine ok q z It Bk cl (a1 + 1) n fu W' (F' _) ?_ (hbu2.same ?_ ?_)
      · rw [hq, sF_i (by decide)]; exact hpc2
      · rw [hq, sF_i (by decide)]; rfl
      · rw [hq, sF_k (by decide)]; rfl
  · have un : ∀ (mm : Nat) (bb : Int32), mm = 0 ∨ mm = 1 ∨ mm = 3 → ¬ mm ≤ 1 → s_X0_isKnown (s_X0_make (nI mm) bb) = 0 := fun mm bb h0 hmm => (mk_known mm (by omega) bb).mpr (by omega)
    obtain ⟨f43a, f43b, f43c, f43d, f43e⟩ := W.f43
    have hn2 : (z2.1 0 89).toInt = (It.length : Int) := by rw [fm2.2.1 89 (by decide) (by decide) (by decide) (by decide) (by decide)]; exact f43d
    have h68 : z2.1 0 68 = 0 := by rw [fm2.2.1 68 (by decide) (by decide) (by decide) (by decide) (by decide)]; exact W.x68.1
    have ho88 : ∃ o : Nat, (z2.1 0 88).toInt = (o : Int) := by rw [fm2.2.1 88 (by decide) (by decide) (by decide) (by decide) (by decide)]; exact W.o88
    refine op_run W hbu hX (A := Ai8 0 s u1 u2 v b It.length h q2) (B := Bi8 0 s [y1, y2] It.length h z2) (hbody ?_) (hact ?_) ?_
    · intro r4 r2 er4 er2
      rw [er4, er2]
      have fin : pk (p_X10_reckon_b49 s u2 u1 q2) (Ai8 0 s u1 u2 v b It.length h q2) := by
        rw [p_X10_reckon_b49_eq]
        exact W.cins fx2 (by decide) q7 (by omega)
      by_cases c1 : m1 ≤ 1
      · by_cases c2 : s_X0_isKnown u1 = 0
        · rw [if_pos c2]; exact fin
        · rw [if_neg c2, if_pos (by rw [eu2]; exact un _ _ hm2 (fun x => hkn ⟨c1, x⟩))]; exact fin
      · rw [if_pos (by rw [eu1]; exact un _ _ hm1 c1)]; exact fin
    · intro r4 r8 h4 h8
      have fin : pk (p_X12_doSign_b72 s r4 r8 z2) (Bi8 0 s [y1, y2] It.length h z2) := m_ins2 h4 h8 h68 hn2 f43e z66 ho88
      refine m_known2 h8 (fun r10 hr10 => pk_ite (fun _ => fin) (fun c => m_known2 h4 (fun r25 hr25 => pk_ite (fun _ => fin) (fun c2 => ?_))))
      exfalso
      refine hkn ⟨?_, ?_⟩
      · rcases hm1 with e | e | e
        · omega
        · omega
        · exact absurd (hr10.mpr (by rw [ey1, e]; decide)) c
      · rcases hm2 with e | e | e
        · omega
        · omega
        · exact absurd (hr25.mpr (by rw [ey2, e]; decide)) c2
    · intro q z n fu hA hB
      refine W.ins (X := [y1, y2]) fx2 fm2 (by omega) (by omega) (by decide) (by decide) (by decide) (by decide) (show (2 : Nat) ≤ 2 by decide) (fun u hu => ?_) (fun u hu => ?_) q7 z66 z65' hA hB hpc2 hbu2 ok bad
      · have hu : y1 = u := Option.some.inj hu
        rw [← hu]; exact va_lo V1
      · have hu : y2 = u := Option.some.inj hu
        rw [← hu]; exact va_lo V2'
end

section
theorem W9.val {P : Nat} {C : List Th3} {G : List Fn5} {v b a h h' D m m' bc ob x w d : Nat} {N : List Int32} {μx μm q1 z1 q z : Mem} {It Bk : List Nat} {cl : Nat → Prop} {u : Int64} {r : Int32} (W : W9 P C G v b a h' D N m' bc ob μx μm It Bk cl) (fx : Qx8 h μx q1) (fm : Qm8 h m μm z1) (hh : h ≤ h') (q7 : (q1.1 30 7).toInt = (h : Int)) (z66 : (z1.1 0 66).toInt = (h : Int)) (z65 : (z1.1 0 65).toInt = (m : Int)) (hv : Va7 q1 z1 u x w d) (hw : w ≤ 40) (hr : r.toInt = (x : Int)) (hb : h < 2480) (hq : q = sF (sL q1 36 h u) 30 7 (q1.1 30 7 + 1)) (hz : z = sF (sF z1 40 h r) 0 66 (z1.1 0 66 + 1)) : W9 P C G v b a (h + 1) D N m bc ob q z It Bk cl ∧ ∀ B, F9 v b B h D N.length bc m μx μm It Bk cl q z It Bk cl := by
  have e1 : (1 : Int32).toInt = 1 := by decide
  have c3 : Qx8 h q1 q := by rw [hq]; exact Qx8.push (Nat.le_refl _) _
  have c4 : Qm8 h m z1 z := by rw [hz]; exact Qm8.come (Nat.le_refl _) _
  have qx : Qx8 h μx q := fx.tr c3
  have qm : Qm8 h m μm z := fm.tr c4
  refine ⟨W.known qx qm hh ?_ ?_ (w := w) (d := d) (x := x) ?_ ?_ hw ?_, fun B => F9.q qx qm (Nat.le_refl _) (Nat.le_refl _)⟩
  · rw [hq, sF_v, ti_add (by omega) (by omega), q7, e1]; omega
  · have := ti_hi (z1.1 0 66)
    rw [hz, sF_v, ti_add (by omega) (by omega), z66, e1]; omega
  · have : q.2.1 36 h = u := by
      rw [hq]
      show (sL q1 36 h _).2.1 36 h = _
      rw [sL_at, if_pos ⟨rfl, rfl⟩]
    rw [this]; exact hv.gr c3.2.2.2.2 c4.2.2.2
  · rw [hz, sF_i (by decide), sF_v]; exact hr
  · rw [hz, sF_k (by decide), sF_i (by decide)]; exact z65
theorem W9.lay {P : Nat} {C : List Th3} {G : List Fn5} {v b a h D m bc ob p o : Nat} {N : List Int32} {q1 z1 q0 z0 : Mem} {It Bk : List Nat} {cl : Nat → Prop} {kind mark : Int32} {rg : Bool} {x1 x2 : Int64} {X : List Nat} (W : W9 P C G v b a h D N m bc ob q1 z1 It Bk cl) (hl : It.length < 300) (hc : Lv7 kind mark x1 x2 v b It.length q1 q0) (hm : La7 kind mark rg X p o It.length z1 z0) (hk7 : rg = true ↔ kind ≠ 7) (h11 : kind ≠ 11) (h6 : kind ≠ 6) (hk : kind ≠ 13 ∧ kind ≠ 14) (hX : X.length ≤ 2) (hx : ∀ u, X[0]? = some u → Lo7 z1 x1 u) (hy : ∀ u, X[1]? = some u → Lo7 z1 x2 u) (hp : (z1.1 0 87).toInt = (p : Int)) (ho : (z1.1 0 88).toInt = (o : Int)) : W9 P C G v b a h D N m bc ob q0 z0 (It ++ [p]) (Bk ++ [b]) cl ∧ ∀ B, F9 v b B h D N.length bc m q1 z1 It Bk cl q0 z0 (It ++ [p]) (Bk ++ [b]) cl := by
  have R0 : Re7 q0 z0 (It ++ [p]) (Bk ++ [b]) cl v b a := re_lay W.1.1 hl hc hm hk7 h11 h6 hX hx hy hp ho
  have g := gl_lay W.1.1 hl hc hm hk h11 hp ho
  have FX : Cx8 v h q1 q0 := hc.fx.cx
  have FM : Cm8 h m p o z1 z0 := (hm.fm hp ho).cm
  have hb : Bb7 q0 (Bk ++ [b]) := by
    intro y2 hy2
    rw [FX.2.2.2.2.1 6 (by decide)]
    rcases List.mem_append.mp hy2 with e | e
    · exact W.1.2.1 y2 e
    · rw [List.mem_singleton.mp e]; exact W.1.1.2.2.2.1.2.2.2.2.2
  have c7 : q0.1 30 7 = q1.1 30 7 := hc.fx.2.1 30 7 (by decide) (by decide) (by decide) (by decide) (by decide)
  have d66 : z0.1 0 66 = z1.1 0 66 := hm.2.2.2.2.2.2.1 66 (by decide) (by decide) (by decide) (by decide)
  have d65 : z0.1 0 65 = z1.1 0 65 := hm.2.2.2.2.2.2.1 65 (by decide) (by decide) (by decide) (by decide)
  exact ⟨W.move (W.1.move FX FM R0 hb (W.1.2.2.1.low FX FM (Nat.le_refl _) (by rw [c7]; exact W.x7.1) (by rw [d66]; exact W.x7.2)) (by rw [d65]; exact W.x65)) FX FM g, fun B => F9.of (g.1 B) FX FM (Nat.le_refl _) (Nat.le_refl _) (re_le W.1.1 R0 (g.1 0))⟩
theorem m_ins1 {z1 : Mem} {kd a2 : Int32} {y n h : Nat} (h2 : a2.toInt = (y : Int)) (h68 : z1.1 0 68 = 0) (hn : (z1.1 0 89).toInt = (n : Int)) (hn3 : n ≤ 300) (z66 : (z1.1 0 66).toInt = (h : Int)) (ho' : ∃ o : Nat, (z1.1 0 88).toInt = (o : Int)) : pk (bd (p_X12_instruction kd 1 z1) (fun r23 μ22 => (if (μ22.1 0 68) = 0 then bw (p_X12_operand r23 a2 μ22) (fun μ25 => bd (p_X12_registerOf r23 μ25) (fun r28 μ27 => bw (p_X12_come r28 μ27) (fun μ29 => some μ29))) else some μ22))) (Bi8 kd 0 [y] n h z1) := by
  obtain ⟨o, ho⟩ := ho'
  refine pk_bd (m_instr kd 1 ho hn hn3) ?_
  rintro r2 μ1 ⟨p, hp, hr, hp9, h⟩
  have hr : r2.toInt = (p : Int) := hr
  rcases h with ⟨hn, z, hI, e⟩ | ⟨hn, hL⟩
  · have e : μ1 = sF z 0 68 (-2) := e
    have e68 : μ1.1 0 68 = -2 := by rw [e, sF_v]
    rw [if_neg (by rw [e68]; decide)]
    exact pk_some (Or.inl ⟨hn, e68⟩)
  · have hL : La7 kd 0 true [] p o n z1 μ1 := hL
    have e68 : μ1.1 0 68 = 0 := by rw [hL.2.2.2.2.2.2.1 68 (by decide) (by decide) (by decide) (by decide)]; exact h68
    rw [if_pos e68]
    refine pk_bw (hL.op hr h2 (by decide)) (fun μ4 h4 => ?_)
    have h4 : La7 kd 0 true [y] p o n z1 μ4 := h4
    refine pk_mono (m_regcome h4 hr z66) ?_
    rintro z ⟨yy, z2, r, g1, g2, g3⟩
    exact Or.inr ⟨hn, p, o, yy, μ4, z2, r, hp, ho, h4, g1, g2, g3⟩
theorem isk_le {mm : Nat} (bb : Int32) (hmm : mm ≤ 1) : ¬ s_X0_isKnown (s_X0_make (nI mm) bb) = 0 := fun hc => by
  have := (mk_known mm (by omega) bb).mp hc; omega
theorem isk_3 (bb : Int32) : s_X0_isKnown (s_X0_make (nI 3) bb) = 0 := (mk_known 3 (by omega) bb).mpr (by omega)
theorem nI_n3 {m : Nat} (hm : m ≤ 1) : ¬ nI m = 3 := by
  rcases (show m = 0 ∨ m = 1 by omega) with e | e <;> subst e <;> decide
theorem op_turn {P : Nat} {C : List Th3} {G : List Fn5} {df : Nat} {T : List Th3} {o : Nat} {N : List Int32} {i e : Nat} {hh : Int32} {k : Nat} (hF : Fn9 G T o) (hk : (hh = 36 ∧ k = 0) ∨ (hh = 94 ∧ k = 1) ∨ (hh = 35 ∧ k = 2)) (h1 : T[i]? = some (6, nI k, 1)) (h2 : C[e]? = some (3, hh, 0)) : Op9 P C G df (o + i) 1 N e := by
  intro β K Post μx μm It Bk cl v b a h D m bc ob a1 nn fu X Y W h37 h38 hpc hbu hhb hbc hob hX hY ok bad
  have e1 : (1 : Int32).toInt = 1 := by decide
  have hD : D ≤ 12 := W.1.2.2.2.2.2.1.2.2.2
  obtain ⟨t7, t8, _⟩ := fn_at W.pn hF i _ h1
  have t7 : μm.1 7 (o + i) = 6 := t7
  have t8 : μm.1 8 (o + i) = nI k := t8
  have hl := hbu.lt
  have ha0 := hbu.1
  obtain ⟨S0, z65⟩ := W.sk
  generalize hq0 : sF μx 137 9 (μx.1 137 9 + 1) = q0 at S0
  generalize hz0 : sF μm 0 65 (μm.1 0 65 - 1) = z0 at S0 z65
  have fx0 : Qx8 h μx q0 := by rw [← hq0]; exact Qx8.pc _
  have fm0 : Qm8 h m μm z0 := by rw [← hz0]; exact Qm8.F _ (by omega)
  obtain ⟨x1, y1, u1, V1, p1, g1, n1⟩ := pn_both S0
  have D2 := sk_down S0
  generalize hq2 : sF q0 30 7 (q0.1 30 7 - 1) = q2 at V1 p1 D2
  generalize hz2 : sF z0 0 66 (z0.1 0 66 - 1) = z2 at V1 g1 n1 D2
  have fx2 : Qx8 h μx q2 := by rw [← hq2]; exact fx0.tr (Qx8.top _)
  have fm2 : Qm8 h m μm z2 := by rw [← hz2]; exact fm0.tr (Qm8.F _ (by omega))
  obtain ⟨m1, b1, hm1, eu1, ey1, eb1⟩ := va_num V1
  have q7 := D2.1.1
  have z66 := D2.1.2.1
  have z65' : (z2.1 0 65).toInt = (m : Int) := by rw [← hz2, sF_k (by decide)]; exact z65
  have hpc2 : (q2.1 137 9).toInt = ((e + 1 : Nat) : Int) := by
    rw [← hq2, ← hq0, sF_i (by decide), sF_v]
    have : C.length ≤ 2472 := W.2.1.2.2.2.1
    have := lt_some h2
    rw [ti_add (by omega) (by omega), hpc, e1]; omega
  have b5 : q2.1 30 5 = μx.1 30 5 := by rw [← hq2, ← hq0, sF_k (by decide), sF_i (by decide)]
  have b3 : q2.1 39 3 = μx.1 39 3 := fx2.2.1 39 3 (by decide) (by decide) (by decide) (by omega)
  have hbu2 : Bu9 (a1 + 1) q2 (X + 1) (Y + 1) := (hbu.step (y := 1) (by omega) b3 (by rw [b5]; omega) (by rw [b5]; omega))
  have hbody : ∀ {A : Mem → Prop}, pk (if (s_X0_isKnown u1) = 0 then (if hh = 36 then p_X10_turn_b49 u1 1 q2 else (if hh = 94 then p_X10_turn_b49 u1 2 q2 else p_X10_turn_b49 u1 3 q2)) else bw (p_X8_push (s_X0_turn hh u1) q2) (fun μ10 => some μ10)) A → pk (p_X10_step μx) A := by
    intro A hA
    refine W.step h2 hpc ?_
    rw [hq0]
    show pk (bw (p_X10_turn hh q0) (fun μ18 => some μ18)) A
    refine pk_bw (P := A) ?_ (fun q hq => pk_some hq)
    rw [p_X10_turn_eq]
    exact pk_bdv p1 hA
  have hk2 : k ≤ 2 := by omega
  have kle : nI k ≤ 2 ∧ ¬ (3 : Int32) ≤ nI k ∧ nI k ≠ 3 ∧ nI k ≠ 4 := by
    rcases (show k = 0 ∨ k = 1 ∨ k = 2 by omega) with e | e | e <;> subst e <;> decide
  have hact : ∀ {B : Mem → Prop}, (∀ r4 : Int32, r4.toInt = (y1 : Int) → pk (p_X12_doOne_b56 (nI k) r4 z2) B) → pk (p_X12_goOne (μm.1 37 m) (μm.1 38 m) (μm.1 39 m) (sF μm 0 65 (μm.1 0 65 - 1))) B := by
    intro B hB
    rw [h37, hz0, p_X12_goOne_eq, if_neg (by decide), if_pos rfl, p_X12_doThing_eq, tn_of h38, fm0.2.2.1 7 _ (by decide) (by omega) (by omega) (by omega), fm0.2.2.1 8 _ (by decide) (by omega) (by omega) (by omega), t7, t8]
    refine pk_bw (P := B) (pk_gd (fun _ => ?_)) (fun q hq => pk_some hq)
    rw [if_neg (by decide), if_neg (by decide), if_neg (by decide), if_neg (by decide), if_pos rfl]
    refine pk_gd (fun _ => pk_bw (P := B) ?_ (fun q hq => pk_some hq))
    rw [p_X12_doOne_eq]
    refine pk_bd g1 ?_
    rintro r2 μ1 ⟨f1, f2⟩
    have f1 : r2.toInt = (x1 : Int) := f1
    have f2 : μ1 = z2 := f2
    rw [f2, if_pos kle.1, p_X12_doOne_b45_eq, if_neg kle.2.1]
    refine pk_bd (n1 r2 f1) ?_
    rintro r4 μ3 ⟨f3, f4⟩
    have f4 : μ3 = z2 := f4
    rw [f4]
    exact hB r4 f3
  by_cases k1 : m1 ≤ 1
  · obtain ⟨sr, vr, s1, s2, s3⟩ := na_turn k1 b1 k hk
    refine op_run W hbu hX (A := fun q => q = sF (sL q2 36 h (s_X0_make (nI sr) vr)) 30 7 (q2.1 30 7 + 1)) (B := fun z => ∃ (z3 z4 : Mem) (y : Nat) (r : Int32), Gv8 (nI sr) vr z2 z3 ∧ Nn7 z3 z4 y (nI sr) vr ∧ r.toInt = (y : Int) ∧ z = sF (sF z4 40 h r) 0 66 (z4.1 0 66 + 1)) (hbody ?_) (hact ?_) ?_
    · rw [eu1, if_neg (isk_le _ k1), s2]
      exact pk_bw (c_push _ q7 (by omega)) (fun q hq => pk_some hq)
    · intro r4 h4
      rw [p_X12_doOne_b56_eq]
      refine m_known2 h4 (fun r10 hr10 => ?_)
      rw [if_neg (fun c => by have := hr10.mp c; rw [ey1] at this; exact nI_n3 k1 this), if_neg kle.2.2.1, if_neg kle.2.2.2, tn_of h4, ey1, eb1]
      refine pk_gd (fun _ => pk_gd (fun _ => pk_bw (s3 z2) (fun z3 hz3 => ?_)))
      refine pk_mono (m_givecome hz3 z66) ?_
      rintro z ⟨z4, y, r, f1, f2, f3⟩
      exact ⟨z3, z4, y, r, hz3, f1, f2, f3⟩
    · rintro q z n fu hq ⟨z3, z4, y, r, f0, f1, f2, f3⟩
      have fm3 : Qm8 h m μm z3 := fm2.tr f0.qm
      have w66 : z3.1 0 66 = z2.1 0 66 := by unfold Gv8 at f0; rw [f0, sF_k (by decide), sF_k (by decide)]
      have w65 : z3.1 0 65 = z2.1 0 65 := by unfold Gv8 at f0; rw [f0, sF_k (by decide), sF_k (by decide)]
      obtain ⟨W', F'⟩ := W.num fx2 fm3 (by omega) q7 (by rw [w66]; exact z66) (by rw [w65]; exact z65') (by omega) f1 f2 (by omega) hq f3
      refine ok q z It Bk cl (a1 + 1) n fu W' (F' _) ?_ (hbu2.same ?_ ?_)
      · rw [hq, sF_i (by decide)]; exact hpc2
      · rw [hq, sF_i (by decide)]; rfl
      · rw [hq, sF_k (by decide)]; rfl
  · have m3 : m1 = 3 := by omega
    obtain ⟨f43a, f43b, f43c, f43d, f43e⟩ := W.f43
    have hn2 : (z2.1 0 89).toInt = (It.length : Int) := by rw [fm2.2.1 89 (by decide) (by decide) (by decide) (by decide) (by decide)]; exact f43d
    have h68 : z2.1 0 68 = 0 := by rw [fm2.2.1 68 (by decide) (by decide) (by decide) (by decide) (by decide)]; exact W.x68.1
    have ho88 : ∃ o : Nat, (z2.1 0 88).toInt = (o : Int) := by rw [fm2.2.1 88 (by decide) (by decide) (by decide) (by decide) (by decide)]; exact W.o88
    have kk : ∀ (c : Int32), c = 1 ∨ c = 2 ∨ c = 3 → c ≠ 7 ∧ c ≠ 11 ∧ c ≠ 6 ∧ (c ≠ 13 ∧ c ≠ 14) := by
      rintro c (e | e | e) <;> subst e <;> decide
    obtain ⟨kd, hkd, kd1, kd2⟩ : ∃ kd : Int32, (kd = 1 ∨ kd = 2 ∨ kd = 3) ∧ 1 + nI k = kd ∧ (if hh = 36 then p_X10_turn_b49 u1 1 q2 else (if hh = 94 then p_X10_turn_b49 u1 2 q2 else p_X10_turn_b49 u1 3 q2)) = p_X10_turn_b49 u1 kd q2 := by
      rcases hk with ⟨e, e2⟩ | ⟨e, e2⟩ | ⟨e, e2⟩
      · subst e; subst e2; exact ⟨1, Or.inl rfl, by decide, by rw [if_pos rfl]⟩
      · subst e; subst e2; exact ⟨2, Or.inr (Or.inl rfl), by decide, by rw [if_neg (by decide), if_pos rfl]⟩
      · subst e; subst e2; exact ⟨3, Or.inr (Or.inr rfl), by decide, by rw [if_neg (by decide), if_neg (by decide)]⟩
    obtain ⟨j7, j11, j6, j13⟩ := kk kd hkd
    refine op_run W hbu hX (A := Ai8 kd 0 u1 0 v b It.length h q2) (B := Bi8 kd 0 [y1] It.length h z2) (hbody ?_) (hact ?_) ?_
    · rw [if_pos (by rw [eu1, m3]; exact isk_3 _), kd2, p_X10_turn_b49_eq]
      exact W.cins fx2 j7 q7 (by omega)
    · intro r4 h4
      rw [p_X12_doOne_b56_eq, kd1]
      refine m_known2 h4 (fun r10 hr10 => ?_)
      rw [if_pos (hr10.mpr (by rw [ey1, m3]; decide))]
      exact m_ins1 h4 h68 hn2 f43e z66 ho88
    · intro q z n fu hA hB
      refine W.ins (X := [y1]) fx2 fm2 (by omega) (by omega) j7 j11 j6 j13 (show (1 : Nat) ≤ 2 by decide) (fun u hu => ?_) (fun u hu => ?_) q7 z66 z65' hA hB hpc2 hbu2 ok bad
      · have hu : y1 = u := Option.some.inj hu
        rw [← hu]; exact va_lo V1
      · have hu : ([y1] : List Nat)[1]? = some u := hu
        simp at hu
end

section
theorem W9.beg {P : Nat} {C : List Th3} {G : List Fn5} {v b a h' D m bc ob e : Nat} {N : List Int32} {μx μm : Mem} {It Bk : List Nat} {cl : Nat → Prop} {a1 : Int32} {X Y : Int} {s mk t : Int32} (h : Nat) (W : W9 P C G v b a h' D N (m + 1) bc ob μx μm It Bk cl) (h2 : C[e]? = some (s, mk, t)) (hpc : (μx.1 137 9).toInt = (e : Int)) (hbu : Bu9 a1 μx X Y) (hX : X + 1 ≤ 1000000) : ∃ q0 z0, Qx8 h μx q0 ∧ Qm8 h m μm z0 ∧ Sk7 q0 z0 h' ∧ (z0.1 0 65).toInt = (m : Int) ∧ (q0.1 137 9).toInt = ((e + 1 : Nat) : Int) ∧ q0.1 30 5 = μx.1 30 5 ∧ Bu9 (a1 + 1) q0 (X + 1) (Y + 1) ∧ (∀ {A : Mem → Prop}, pk (bdy s mk t q0) A → pk (p_X10_step μx) A) ∧ sF μm 0 65 (μm.1 0 65 - 1) = z0 := by
  have e1 : (1 : Int32).toInt = 1 := by decide
  obtain ⟨S0, z65⟩ := W.sk
  have fx : Qx8 h μx (sF μx 137 9 (μx.1 137 9 + 1)) := Qx8.pc _
  have b5 : (sF μx 137 9 (μx.1 137 9 + 1)).1 30 5 = μx.1 30 5 := by rw [sF_i (by decide)]
  refine ⟨_, _, fx, Qm8.F _ (by omega), S0, z65, ?_, b5, hbu.step (y := 1) (by omega) (by rw [sF_i (by decide)]) (by rw [b5]; omega) (by rw [b5]; omega), fun hA => W.step h2 hpc hA, rfl⟩
  have : C.length ≤ 2472 := W.2.1.2.2.2.1
  have := lt_some h2
  rw [sF_v, ti_add (by omega) (by omega), hpc, e1]; omega
theorem do_act {μm z0 : Mem} {h m p : Nat} {s w k : Int32} {B : Mem → Prop} {body : Option Mem} {a0 : Int32} (fm0 : Qm8 h m μm z0) (h37 : a0 = 1) {a1 a2 : Int32} (h38 : a1.toInt = (p : Int)) (t7 : μm.1 7 p = s) (t8 : μm.1 8 p = w) (t9 : μm.1 9 p = k) (hb : ∀ {B : Mem → Prop}, pk body B → pk (if s = 2 then bw (p_X12_doPair z0) (fun μ3 => some μ3) else (if s = 3 then gd (inb a1 800) (gd (inb a1 800) (bw (p_X12_doCall w k z0) (fun μ6 => some μ6))) else (if s = 4 then gd (inb a1 800) (gd (inb a1 800) (bw (p_X12_doCall w k z0) (fun μ9 => some μ9))) else (if s = 5 then gd (inb a1 800) (bw (p_X12_doSign w z0) (fun μ12 => some μ12)) else (if s = 6 then gd (inb a1 800) (bw (p_X12_doOne w z0) (fun μ15 => some μ15)) else (if s = 7 then gd (inb a1 800) (gd (inb a1 800) (bw (p_X12_doCall w k z0) (fun μ18 => some μ18))) else (if s = 8 then bw (p_X12_doOut z0) (fun μ21 => some μ21) else (if s = 9 then gd (inb a1 800) (bw (p_X12_doPut w z0) (fun μ24 => some μ24)) else (if s = 10 then gd (inb a1 800) (bw (p_X12_doGet w z0) (fun μ27 => some μ27)) else gd (inb a1 800) (gd (inb a1 800) (bw (p_X12_doCall w k z0) (fun μ29 => some μ29)))))))))))) B) (hB : pk body B) : pk (p_X12_goOne a0 a1 a2 z0) B := by
  rw [h37, p_X12_goOne_eq, if_neg (by decide), if_pos rfl, p_X12_doThing_eq, tn_of h38, fm0.2.2.1 7 _ (by decide) (by omega) (by omega) (by omega), fm0.2.2.1 8 _ (by decide) (by omega) (by omega) (by omega), fm0.2.2.1 9 _ (by decide) (by omega) (by omega) (by omega), t7, t8, t9]
  exact pk_bw (P := B) (pk_gd (fun _ => hb hB)) (fun q hq => pk_some hq)
theorem op_part {P : Nat} {C : List Th3} {G : List Fn5} {df : Nat} {T : List Th3} {o : Nat} {N : List Int32} {i e : Nat} {hh : Int32} {k : Nat} (hF : Fn9 G T o) (hk : (hh = 64 ∧ k = 3) ∨ (hh = 126 ∧ k = 4)) (h1 : T[i]? = some (6, nI k, 1)) (h2 : C[e]? = some (4, hh, 0)) : Op9 P C G df (o + i) 1 N e := by
  intro β K Post μx μm It Bk cl v b a h D m bc ob a1 nn fu X Y W h37 h38 hpc hbu hhb hbc hob hX hY ok bad
  have hD : D ≤ 12 := W.1.2.2.2.2.2.1.2.2.2
  obtain ⟨t7, t8, t9⟩ := fn_at W.pn hF i _ h1
  have t7 : μm.1 7 (o + i) = 6 := t7
  have t8 : μm.1 8 (o + i) = nI k := t8
  obtain ⟨q0, z0, fx0, fm0, S0, z65, pc0, b5, bu0, stp, ez0⟩ := W.beg h h2 hpc hbu hX
  obtain ⟨x, w, d, c1, c2, c3⟩ := S0.2.2 h (by omega)
  have D2 := sk_down S0
  have gp := c_pop (μ := q0) S0.1
  have gg := m_gone (μ := z0) S0.2.1
  generalize hq2 : sF q0 30 7 (q0.1 30 7 - 1) = q2 at gp D2
  generalize hz2 : sF z0 0 66 (z0.1 0 66 - 1) = z2 at gg D2
  have hv : Va7 q2 z2 (q0.2.1 36 h) x w d := c2.gr D2.2.1 D2.2.2
  have fx2 : Qx8 h μx q2 := by rw [← hq2]; exact fx0.tr (Qx8.top _)
  have fm2 : Qm8 h m μm z2 := by rw [← hz2]; exact fm0.tr (Qm8.F _ (by omega))
  have q7 := D2.1.1
  have z66 := D2.1.2.1
  have z65' : (z2.1 0 65).toInt = (m : Int) := by rw [← hz2, sF_k (by decide)]; exact z65
  have hpc2 : (q2.1 137 9).toInt = ((e + 1 : Nat) : Int) := by rw [← hq2, sF_i (by decide)]; exact pc0
  have hbu2 : Bu9 (a1 + 1) q2 (X + 1) (Y + 1) := bu0.same (by rw [← hq2, sF_i (by decide)]) (by rw [← hq2, sF_k (by decide)])
  have hbody : ∀ {A : Mem → Prop} (u : Int64), u = q0.2.1 36 h → pk (if hh = 64 then p_X10_takePart_b19 u 1 q2 else p_X10_takePart_b19 u 0 q2) A → pk (p_X10_step μx) A := by
    intro A u hu hA
    refine stp (show pk (bw (p_X10_takePart hh q0) (fun μ18 => some μ18)) A from ?_)
    refine pk_bw (P := A) ?_ (fun q hq => pk_some hq)
    rw [p_X10_takePart_eq]
    refine pk_bdv (r0 := u) (μ0 := q2) (pk_mono gp (fun r hr => ⟨by rw [hr.1, hu], hr.2⟩)) hA
  have kle : ¬ nI k ≤ 2 ∧ (3 : Int32) ≤ nI k := by
    rcases (show k = 3 ∨ k = 4 by omega) with e | e <;> subst e <;> decide
  have hact : ∀ {B : Mem → Prop}, (∀ r2 : Int32, r2.toInt = (x : Int) → pk (gd (inb r2 100000) ((if (z2.1 30 x) = 2 then (if nI k = 3 then gd (inb r2 100000) (bw (p_X12_come (z2.1 31 x) z2) (fun μ37 => some μ37)) else gd (inb r2 100000) (bw (p_X12_come (z2.1 32 x) z2) (fun μ35 => some μ35))) else p_X12_doOne_b56 (nI k) r2 z2))) B) → pk (p_X12_goOne (μm.1 37 m) (μm.1 38 m) (μm.1 39 m) (sF μm 0 65 (μm.1 0 65 - 1))) B := by
    intro B hB
    rw [ez0]
    refine do_act fm0 h37 h38 t7 t8 t9 (body := p_X12_doOne (nI k) z0) (fun hb => ?_) ?_
    · rw [if_neg (by decide), if_neg (by decide), if_neg (by decide), if_neg (by decide), if_pos rfl]
      exact pk_gd (fun _ => pk_bw hb (fun q hq => pk_some hq))
    · rw [p_X12_doOne_eq]
      refine pk_bd gg ?_
      rintro r2 μ1 ⟨f1, f2⟩
      have f1 : r2 = z0.1 40 h := f1
      have f2 : μ1 = z2 := f2
      have f3 : r2.toInt = (x : Int) := by rw [f1]; exact c1
      rw [f2, if_neg kle.1, tn_of f3, p_X12_doOne_b45_eq, if_pos kle.2]
      exact hB r2 f3
  have done : ∀ (q z : Mem) (n fu : Nat) (u : Int64) (y w1 d1 : Nat) (r : Int32), Va7 q2 z2 u y w1 d1 → w1 ≤ 40 → r.toInt = (y : Int) → q = sF (sL q2 36 h u) 30 7 (q2.1 30 7 + 1) → z = sF (sF z2 40 h r) 0 66 (z2.1 0 66 + 1) → Rn9 K Post n (a1 + 1) q fu z := by
    intro q z n fu u y w1 d1 r v1 v2 v3 hq hz
    obtain ⟨W', F'⟩ := W.val fx2 fm2 (by omega) q7 z66 z65' v1 v2 v3 (by omega) hq hz
    refine ok q z It Bk cl (a1 + 1) n fu W' (F' _) ?_ (hbu2.same ?_ ?_)
    · rw [hq, sF_i (by decide)]; exact hpc2
    · rw [hq, sF_i (by decide)]; rfl
    · rw [hq, sF_k (by decide)]; rfl
  rcases (va_kind hv).2 with ⟨mm, hm, eu, es, ew, ed, _⟩ | ⟨kk, y1, z1, w1, w2, d1, d2, eu, _, es, _⟩
  · have ns2 : ¬ z2.1 30 x = 2 := by rw [es]; rcases hm with e | e | e <;> subst e <;> decide
    by_cases m3 : mm = 3
    · subst m3
      obtain ⟨f43a, f43b, f43c, f43d, f43e⟩ := W.f43
      have hn2 : (z2.1 0 89).toInt = (It.length : Int) := by rw [fm2.2.1 89 (by decide) (by decide) (by decide) (by decide) (by decide)]; exact f43d
      have h68 : z2.1 0 68 = 0 := by rw [fm2.2.1 68 (by decide) (by decide) (by decide) (by decide) (by decide)]; exact W.x68.1
      have ho88 : ∃ o : Nat, (z2.1 0 88).toInt = (o : Int) := by rw [fm2.2.1 88 (by decide) (by decide) (by decide) (by decide) (by decide)]; exact W.o88
      obtain ⟨kd, hkd, kd1, kd2⟩ : ∃ kd : Int32, (kd = 4 ∨ kd = 5) ∧ 1 + nI k = kd ∧ ∀ u : Int64, s_X0_kind u = 3 → (if hh = 64 then p_X10_takePart_b19 u 1 q2 else p_X10_takePart_b19 u 0 q2) = bd (p_X10_leave kd 0 u (0 : Int64) q2) (fun r16 μ15 => bw (p_X8_push r16 μ15) (fun μ17 => some μ17)) := by
        rcases hk with ⟨e, e2⟩ | ⟨e, e2⟩
        · subst e; subst e2; exact ⟨4, Or.inl rfl, by decide, fun u hu => by rw [if_pos rfl, p_X10_takePart_b19_eq, if_pos hu, if_neg (by decide)]⟩
        · subst e; subst e2; exact ⟨5, Or.inr rfl, by decide, fun u hu => by rw [if_neg (by decide), p_X10_takePart_b19_eq, if_pos hu, if_pos rfl]⟩
      obtain ⟨j7, j11, j6, j13⟩ : kd ≠ 7 ∧ kd ≠ 11 ∧ kd ≠ 6 ∧ (kd ≠ 13 ∧ kd ≠ 14) := by rcases hkd with e | e <;> subst e <;> decide
      refine op_run W hbu hX (A := Ai8 kd 0 (q0.2.1 36 h) 0 v b It.length h q2) (B := Bi8 kd 0 [x] It.length h z2) (hbody _ rfl ?_) (hact ?_) ?_
      · rw [kd2 _ (by rw [eu]; exact mk_kind 3 (by decide) _)]
        exact W.cins fx2 j7 q7 (by omega)
      · intro r2 hr2
        rw [if_neg ns2, p_X12_doOne_b56_eq, kd1]
        refine pk_gd (fun _ => m_known2 hr2 (fun r10 hr10 => ?_))
        rw [if_pos (hr10.mpr (by rw [es]; decide))]
        exact m_ins1 hr2 h68 hn2 f43e z66 ho88
      · intro q z n fu hA hB
        refine W.ins (X := [x]) fx2 fm2 (by omega) (by omega) j7 j11 j6 j13 (show (1 : Nat) ≤ 2 by decide) (fun u hu => ?_) (fun u hu => ?_) q7 z66 z65' hA hB hpc2 hbu2 ok bad
        · have hu : x = u := Option.some.inj hu
          rw [← hu]; exact ⟨3, Or.inr (Or.inr rfl), eu, es⟩
        · have hu : ([x] : List Nat)[1]? = some u := hu
          simp at hu
    · have hmm : mm ≤ 1 := by omega
      have k3 : ¬ s_X0_kind (q0.2.1 36 h) = 3 := by rw [eu, mk_kind mm (by omega)]; exact nI_n3 hmm
      rcases hk with ⟨eh, ek⟩ | ⟨eh, ek⟩
      · subst eh; subst ek
        refine op_run W hbu hX (A := fun q => q = sF (sL q2 36 h (q0.2.1 36 h)) 30 7 (q2.1 30 7 + 1)) (B := fun z => ∃ r : Int32, r.toInt = (x : Int) ∧ z = sF (sF z2 40 h r) 0 66 (z2.1 0 66 + 1)) (hbody _ rfl ?_) (hact ?_) ?_
        · rw [if_pos rfl, p_X10_takePart_b19_eq, if_neg k3, if_neg (by decide)]
          refine pk_bdv (r0 := q0.2.1 36 h) (μ0 := q2) (pk_mono (c_first hv) (fun r hr => ⟨?_, hr.1⟩)) (pk_bw (c_push _ q7 (by omega)) (fun q hq => pk_some hq))
          rcases hr.2 with ⟨_, e⟩ | ⟨_, _, _, e, _⟩
          · exact e
          · exact absurd e ns2
        · intro r2 hr2
          rw [if_neg ns2, p_X12_doOne_b56_eq]
          refine pk_gd (fun _ => m_known2 hr2 (fun r10 hr10 => ?_))
          rw [if_neg (fun c => by have := hr10.mp c; rw [es] at this; exact nI_n3 hmm this), if_pos (by decide)]
          exact pk_bw (m_come r2 z66) (fun q hq => pk_some ⟨r2, hr2, hq.1⟩)
        · rintro q z n fu hq ⟨r, f1, f2⟩
          exact done q z n fu _ x w d r hv c3 f1 hq f2
      · subst eh; subst ek
        refine op_run W hbu hX (A := fun q => q = sF (sL q2 36 h (s_X0_make (nI 0) 0)) 30 7 (q2.1 30 7 + 1)) (B := fun z => ∃ (z4 : Mem) (y : Nat) (r : Int32), Nn7 z2 z4 y 0 0 ∧ r.toInt = (y : Int) ∧ z = sF (sF z4 40 h r) 0 66 (z4.1 0 66 + 1)) (hbody _ rfl ?_) (hact ?_) ?_
        · rw [if_neg (by decide), p_X10_takePart_b19_eq, if_neg k3, if_pos rfl]
          refine pk_bdv (r0 := s_X0_make (nI 0) 0) (μ0 := q2) (pk_mono (c_second hv) (fun r hr => ⟨?_, hr.1⟩)) (pk_bw (c_push _ q7 (by omega)) (fun q hq => pk_some hq))
          rcases hr.2 with ⟨_, e⟩ | ⟨_, _, _, e, _⟩
          · rw [e]; exact mk_zero
          · exact absurd e ns2
        · intro r2 hr2
          rw [if_neg ns2, p_X12_doOne_b56_eq]
          refine pk_gd (fun _ => m_known2 hr2 (fun r10 hr10 => ?_))
          rw [if_neg (fun c => by have := hr10.mp c; rw [es] at this; exact nI_n3 hmm this), if_neg (by decide), if_pos (by decide)]
          refine pk_bd (m_node 0 0 z2) ?_
          rintro r μ1 ⟨y, f1, f2⟩
          have f2 : Nn7 z2 μ1 y 0 0 := f2
          exact pk_bw (m_come r (n := h) (by rw [f2.2.2.2.2.2.2.2.2.2.1 66 (by decide)]; exact z66)) (fun q hq => pk_some ⟨μ1, y, r, f2, f1, hq.1⟩)
        · rintro q z n fu hq ⟨z4, y, r, f1, f2, f3⟩
          obtain ⟨W', F'⟩ := W.num (s := 0) (bt := 0) fx2 fm2 (by omega) q7 z66 z65' (Or.inl rfl) f1 f2 (by omega) hq f3
          refine ok q z It Bk cl (a1 + 1) n fu W' (F' _) ?_ (hbu2.same ?_ ?_)
          · rw [hq, sF_i (by decide)]; exact hpc2
          · rw [hq, sF_i (by decide)]; rfl
          · rw [hq, sF_k (by decide)]; rfl
  · have k3 : ¬ s_X0_kind (q0.2.1 36 h) = 3 := by rw [eu, mk_kind 2 (by decide)]; decide
    rcases hk with ⟨eh, ek⟩ | ⟨eh, ek⟩
    · subst eh; subst ek
      refine op_run W hbu hX (A := fun q => ∃ (u : Int64) (y w1 d1 : Nat), (z2.1 31 x).toInt = (y : Int) ∧ Va7 q2 z2 u y w1 d1 ∧ w1 ≤ 40 ∧ q = sF (sL q2 36 h u) 30 7 (q2.1 30 7 + 1)) (B := fun z => z = sF (sF z2 40 h (z2.1 31 x)) 0 66 (z2.1 0 66 + 1)) (hbody _ rfl ?_) (hact ?_) ?_
      · rw [if_pos rfl, p_X10_takePart_b19_eq, if_neg k3, if_neg (by decide)]
        refine pk_bd (c_first hv) ?_
        rintro r μ1 ⟨f1, f2⟩
        have f1 : μ1 = q2 := f1
        rw [f1]
        rcases f2 with ⟨e, _⟩ | ⟨y, w1, d1, _, e2, e3, e4, _⟩
        · exact absurd es e
        · have e3 : Va7 q2 z2 r y w1 d1 := e3
          exact pk_bw (c_push _ q7 (by omega)) (fun q hq => pk_some ⟨r, y, w1, d1, e2, e3, by omega, hq⟩)
      · intro r2 hr2
        rw [if_pos es, if_pos (by decide)]
        exact pk_gd (fun _ => pk_gd (fun _ => pk_bw (m_come _ z66) (fun q hq => pk_some hq.1)))
      · rintro q z n fu ⟨u, y, w1, d1, f1, f2, f3, f4⟩ hz
        exact done q z n fu u y w1 d1 _ f2 f3 f1 f4 hz
    · subst eh; subst ek
      refine op_run W hbu hX (A := fun q => ∃ (u : Int64) (y w1 d1 : Nat), (z2.1 32 x).toInt = (y : Int) ∧ Va7 q2 z2 u y w1 d1 ∧ w1 ≤ 40 ∧ q = sF (sL q2 36 h u) 30 7 (q2.1 30 7 + 1)) (B := fun z => z = sF (sF z2 40 h (z2.1 32 x)) 0 66 (z2.1 0 66 + 1)) (hbody _ rfl ?_) (hact ?_) ?_
      · rw [if_neg (by decide), p_X10_takePart_b19_eq, if_neg k3, if_pos rfl]
        refine pk_bd (c_second hv) ?_
        rintro r μ1 ⟨f1, f2⟩
        have f1 : μ1 = q2 := f1
        rw [f1]
        rcases f2 with ⟨e, _⟩ | ⟨y, w1, d1, _, e2, e3, e4, _⟩
        · exact absurd es e
        · have e3 : Va7 q2 z2 r y w1 d1 := e3
          exact pk_bw (c_push _ q7 (by omega)) (fun q hq => pk_some ⟨r, y, w1, d1, e2, e3, by omega, hq⟩)
      · intro r2 hr2
        rw [if_pos es, if_neg (by decide)]
        exact pk_gd (fun _ => pk_gd (fun _ => pk_bw (m_come _ z66) (fun q hq => pk_some hq.1)))
      · rintro q z n fu ⟨u, y, w1, d1, f1, f2, f3, f4⟩ hz
        exact done q z n fu u y w1 d1 _ f2 f3 f1 f4 hz
theorem op_get {P : Nat} {C : List Th3} {G : List Fn5} {df : Nat} {T : List Th3} {o : Nat} {N : List Int32} {i e : Nat} {d : Int32} (hF : Fn9 G T o) (h1 : T[i]? = some (10, d, 0)) (h2 : C[e]? = some (11, d, 0)) : Op9 P C G df (o + i) 0 N e := by
  intro β K Post μx μm It Bk cl v b a h D m bc ob a1 nn fu X Y W h37 h38 hpc hbu hhb hbc hob hX hY ok bad
  have hD : D ≤ 12 := W.1.2.2.2.2.2.1.2.2.2
  obtain ⟨t7, t8, t9⟩ := fn_at W.pn hF i _ h1
  have t7 : μm.1 7 (o + i) = 10 := t7
  have t8 : μm.1 8 (o + i) = d := t8
  have W : W9 P C G v b a h D N (m + 1) bc ob μx μm It Bk cl := W
  obtain ⟨q0, z0, fx0, fm0, S0, z65, pc0, b5, bu0, stp, ez0⟩ := W.beg h h2 hpc hbu hX
  have q7 := S0.1
  have z66 := S0.2.1
  obtain ⟨f43a, f43b, f43c, f43d, f43e⟩ := W.f43
  have hn2 : (z0.1 0 89).toInt = (It.length : Int) := by rw [fm0.2.1 89 (by decide) (by decide) (by decide) (by decide) (by decide)]; exact f43d
  have h68 : z0.1 0 68 = 0 := by rw [fm0.2.1 68 (by decide) (by decide) (by decide) (by decide) (by decide)]; exact W.x68.1
  have h69 : z0.1 0 69 = 1 := by rw [fm0.2.1 69 (by decide) (by decide) (by decide) (by decide) (by decide)]; exact W.x68.2
  obtain ⟨o88, ho88⟩ : ∃ o : Nat, (z0.1 0 88).toInt = (o : Int) := by rw [fm0.2.1 88 (by decide) (by decide) (by decide) (by decide) (by decide)]; exact W.o88
  refine op_run W hbu hX (A := Ai8 9 d 0 0 v b It.length h q0) (B := Bi8 9 d [] It.length h z0) (stp (show pk (bd (p_X10_leave 9 d (0 : Int64) (0 : Int64) q0) (fun r50 μ49 => bw (p_X8_push r50 μ49) (fun μ51 => some μ51))) _ from W.cins fx0 (by decide) q7 (by omega))) ?_ ?_
  · rw [ez0]
    refine do_act fm0 h37 h38 t7 t8 t9 (body := p_X12_doGet d z0) (fun hb => ?_) ?_
    · rw [if_neg (by decide), if_neg (by decide), if_neg (by decide), if_neg (by decide), if_neg (by decide), if_neg (by decide), if_neg (by decide), if_neg (by decide), if_pos rfl]
      exact pk_gd (fun _ => pk_bw hb (fun q hq => pk_some hq))
    · rw [p_X12_doGet_eq, if_neg (by rw [h69]; decide)]
      refine pk_bd (m_instr 9 1 ho88 hn2 f43e) ?_
      rintro r2 μ1 ⟨p, hp, hr, hp9, h⟩
      have hr : r2.toInt = (p : Int) := hr
      rcases h with ⟨hn, z, hI, e⟩ | ⟨hn, hL⟩
      · have e : μ1 = sF z 0 68 (-2) := e
        have e68 : μ1.1 0 68 = -2 := by rw [e, sF_v]
        rw [if_neg (by rw [e68]; decide)]
        exact pk_some (Or.inl ⟨hn, e68⟩)
      · have hL : La7 9 0 true [] p o88 It.length z0 μ1 := hL
        have e68 : μ1.1 0 68 = 0 := by rw [hL.2.2.2.2.2.2.1 68 (by decide) (by decide) (by decide) (by decide)]; exact h68
        rw [if_pos e68, tn_of hr]
        refine pk_gd (fun _ => pk_bvs ?_)
        refine pk_mono (m_regcome (hL.mark (mark := d)) hr z66) ?_
        rintro z ⟨yy, z2, r, g1, g2, g3⟩
        exact Or.inr ⟨hn, p, o88, yy, _, z2, r, hp, ho88, hL.mark (mark := d), g1, g2, g3⟩
  · intro q z n fu hA hB
    exact W.ins (X := []) fx0 fm0 (by omega) (by omega) (by decide) (by decide) (by decide) (by decide) (show (0 : Nat) ≤ 2 by decide) (fun u hu => by simp at hu) (fun u hu => by simp at hu) q7 z66 z65 hA hB pc0 bu0 ok bad
end

section
theorem sF_self (μ : Mem) (i k : Nat) : sF μ i k (μ.1 i k) = μ := by
  have : u2 μ.1 i k (μ.1 i k) = μ.1 := by
    funext j q
    unfold u2
    by_cases h : j = i
    · rw [if_pos h]
      by_cases h2 : q = k
      · rw [h2, h]; exact if_pos rfl
      · rw [h]; exact if_neg h2
    · rw [if_neg h]
  show (u2 μ.1 i k (μ.1 i k), μ.2.1, μ.2.2) = μ
  rw [this]
theorem sL_self (μ : Mem) (i k : Nat) : sL μ i k (μ.2.1 i k) = μ := by
  have : u2 μ.2.1 i k (μ.2.1 i k) = μ.2.1 := by
    funext j q
    unfold u2
    by_cases h : j = i
    · rw [if_pos h]
      by_cases h2 : q = k
      · rw [h2, h]; exact if_pos rfl
      · rw [h]; exact if_neg h2
    · rw [if_neg h]
  show (μ.1, u2 μ.2.1 i k (μ.2.1 i k), μ.2.2) = μ
  rw [this]
theorem sF_sF (μ : Mem) (i k : Nat) (x y : Int32) : sF (sF μ i k x) i k y = sF μ i k y := by
  have : u2 (u2 μ.1 i k x) i k y = u2 μ.1 i k y := by
    funext j q
    unfold u2
    by_cases h : j = i
    · rw [if_pos h, if_pos h]
      by_cases h2 : q = k
      · rw [if_pos h2, if_pos h2]
      · rw [if_neg h2, if_neg h2, if_pos rfl, if_neg h2]
    · rw [if_neg h, if_neg h, if_neg h]
  show (u2 (u2 μ.1 i k x) i k y, μ.2.1, μ.2.2) = _
  rw [this]; rfl
theorem push_pop (q : Mem) (h : Nat) : sF (sL (sF q 30 7 (q.1 30 7 - 1)) 36 h (q.2.1 36 h)) 30 7 ((sF q 30 7 (q.1 30 7 - 1)).1 30 7 + 1) = q := by
  have e : sL (sF q 30 7 (q.1 30 7 - 1)) 36 h (q.2.1 36 h) = sF (sL q 36 h (q.2.1 36 h)) 30 7 (q.1 30 7 - 1) := rfl
  rw [e, sL_self, sF_sF, sF_v, Int32.sub_add_cancel, sF_self]
theorem Lv7.top {kind mark : Int32} {x y : Int64} {v b n : Nat} {μ q : Mem} (h : Lv7 kind mark x y v b n μ q) (t : Int32) : Lv7 kind mark x y v b n (sF μ 30 7 t) (sF q 30 7 t) := by
  obtain ⟨z, hA, qi, qr, ql⟩ := h
  obtain ⟨a1, a2, a3, a4, a5, a6, a7, a8, a9⟩ := hA
  have f : ∀ (w : Mem) (i k : Nat), i ≠ 30 → (sF w 30 7 t).1 i k = w.1 i k := fun w i k hi => by rw [sF_i hi]
  refine ⟨sF z 30 7 t, ⟨a1, by rw [f z _ _ (by decide), f μ _ _ (by decide)]; exact a2, fun k hk => by rw [f z _ _ (by decide), f μ _ _ (by decide)]; exact a3 k hk, ⟨by rw [f z _ _ (by decide)]; exact a4.1, by rw [f z _ _ (by decide), f μ _ _ (by decide)]; exact a4.2.1, by rw [f z _ _ (by decide)]; exact a4.2.2.1, by rw [f z _ _ (by decide)]; exact a4.2.2.2.1, by rw [f z _ _ (by decide)]; exact a4.2.2.2.2.1, by rw [f z _ _ (by decide)]; exact a4.2.2.2.2.2.1, by rw [f z _ _ (by decide)]; exact a4.2.2.2.2.2.2.1, by rw [f z _ _ (by decide)]; exact a4.2.2.2.2.2.2.2⟩, fun j hj => by rw [f z _ _ (by decide), f μ _ _ (by decide), f μ _ _ (by decide)]; exact a5 j hj, fun j => by rw [f z _ _ (by decide), f μ _ _ (by decide)]; exact a6 j, fun j => by rw [f z _ _ (by decide), f μ _ _ (by decide), f μ _ _ (by decide)]; exact a7 j, fun j => by rw [f z _ _ (by decide), f μ _ _ (by decide)]; exact a8 j, fun i k b1 b2 b3 b4 b5 => ?_⟩, ?_, qr, ql⟩
  · by_cases e : i = 30 ∧ k = 7
    · obtain ⟨e1, e2⟩ := e
      rw [e1, e2, sF_v, sF_v]
    · rw [sF_at, if_neg e, sF_at, if_neg e]; exact a9 i k b1 b2 b3 b4 b5
  · have : sF q 30 7 t = (u2 q.1 30 7 t, q.2.1, q.2.2) := rfl
    show u2 q.1 30 7 t = u2 z.1 30 7 t
    rw [qi]
theorem op_pair {P : Nat} {C : List Th3} {G : List Fn5} {df : Nat} {T : List Th3} {o : Nat} {N : List Int32} {i e : Nat} (hF : Fn9 G T o) (h1 : T[i]? = some (2, 0, 2)) (h2 : C[e]? = some (5, 0, 0)) : Op9 P C G df (o + i) 2 N e := by
  intro β K Post μx μm It Bk cl v b a h D m bc ob a1 nn fu X Y W h37 h38 hpc hbu hhb hbc hob hX hY ok bad
  have e1 : (1 : Int32).toInt = 1 := by decide
  have e40 : (40 : Int32).toInt = 40 := by decide
  have hD : D ≤ 12 := W.1.2.2.2.2.2.1.2.2.2
  obtain ⟨t7, t8, t9⟩ := fn_at W.pn hF i _ h1
  have t7 : μm.1 7 (o + i) = 2 := t7
  obtain ⟨q0, z0, fx0, fm0, S0, z65, pc0, b5, bu0, stp, ez0⟩ := W.beg h h2 hpc hbu hX
  obtain ⟨x2, w2, d2, c1, c2, c3⟩ := S0.2.2 (h + 1) (by omega)
  have D1 := sk_down (h := h + 1) S0
  have gp1 := c_pop (μ := q0) (h := h + 1) S0.1
  have gg1 := m_gone (μ := z0) (n := h + 1) S0.2.1
  generalize hq1 : sF q0 30 7 (q0.1 30 7 - 1) = q1 at gp1 D1
  generalize hz1 : sF z0 0 66 (z0.1 0 66 - 1) = z1 at gg1 D1
  obtain ⟨x1, w1, d1, c4, c5, c6⟩ := D1.1.2.2 h (by omega)
  have D2 := sk_down D1.1
  have gp2 := c_pop (μ := q1) D1.1.1
  have gg2 := m_gone (μ := z1) D1.1.2.1
  generalize hq2 : sF q1 30 7 (q1.1 30 7 - 1) = q2 at gp2 D2
  generalize hz2 : sF z1 0 66 (z1.1 0 66 - 1) = z2 at gg2 D2
  have hv2 : Va7 q2 z2 (q0.2.1 36 (h + 1)) x2 w2 d2 := (c2.gr D1.2.1 D1.2.2).gr D2.2.1 D2.2.2
  have hv1 : Va7 q2 z2 (q1.2.1 36 h) x1 w1 d1 := c5.gr D2.2.1 D2.2.2
  have fx2 : Qx8 h μx q2 := by rw [← hq2, ← hq1]; exact (fx0.tr (Qx8.top _)).tr (Qx8.top _)
  have fm2 : Qm8 h m μm z2 := by rw [← hz2, ← hz1]; exact (fm0.tr (Qm8.F _ (by omega))).tr (Qm8.F _ (by omega))
  have q7 := D2.1.1
  have z66 := D2.1.2.1
  have z65' : (z2.1 0 65).toInt = (m : Int) := by rw [← hz2, ← hz1, sF_k (by decide), sF_k (by decide)]; exact z65
  have hpc2 : (q2.1 137 9).toInt = ((e + 1 : Nat) : Int) := by rw [← hq2, ← hq1, sF_i (by decide), sF_i (by decide)]; exact pc0
  have b52 : q2.1 30 5 = μx.1 30 5 := by rw [← hq2, ← hq1, sF_k (by decide), sF_k (by decide)]; exact b5
  have hsz := hbu.szl
  have hs0 := hbu.2.2.2.2.2
  obtain ⟨sz, hsz2⟩ : ∃ sz : Nat, (q2.1 30 5).toInt = (sz : Int) := ⟨(μx.1 30 5).toInt.toNat, by rw [b52]; omega⟩
  have hszi : (sz : Int) = (μx.1 30 5).toInt := by rw [← b52]; exact hsz2.symm
  have pz := va_pos hv1
  have pz2 := va_pos hv2
  have hact : ∀ {B : Mem → Prop}, (∀ r4 r2 : Int32, r4.toInt = (x1 : Int) → r2.toInt = (x2 : Int) → pk (bd (p_X12_pair r4 r2 z2) (fun r6 μ5 => gd (inb r6 100000) ((if (μ5.1 33 r6.toNatClampNeg) ≤ 40 then bw (p_X12_come r6 μ5) (fun μ8 => some μ8) else (if (μ5.1 0 69) = 0 then bv (sF μ5 0 68 2) (fun μ11 => bw (p_X12_come r6 μ11) (fun μ12 => some μ12)) else bv (sF μ5 0 68 (-5)) (fun μ14 => bw (p_X12_come r6 μ14) (fun μ15 => some μ15))))))) B) → pk (p_X12_goOne (μm.1 37 m) (μm.1 38 m) (μm.1 39 m) (sF μm 0 65 (μm.1 0 65 - 1))) B := by
    intro B hB
    rw [ez0]
    refine do_act fm0 h37 h38 t7 t8 t9 (body := p_X12_doPair z0) (fun hb => ?_) ?_
    · rw [if_pos rfl]
      exact pk_bw hb (fun q hq => pk_some hq)
    · rw [p_X12_doPair_eq]
      refine pk_bdv (r0 := z0.1 40 (h + 1)) (μ0 := z1) gg1 (pk_bdv (r0 := z1.1 40 h) (μ0 := z2) gg2 (hB _ _ c4 c1))
  have hbody : ∀ {A : Mem → Prop}, pk (if 1 + w1 + w2 ≤ 40 then bd (p_X8_pair (q1.2.1 36 h) (q0.2.1 36 (h + 1)) q2) (fun r9 μ8 => bw (p_X8_push r9 μ8) (fun μ10 => some μ10)) else bw (p_X10_breakOff (-5) q2) (fun μ12 => some μ12)) A → pk (p_X10_step μx) A := by
    intro A hA
    refine stp (show pk (bw (p_X10_makePair q0) (fun μ18 => some μ18)) A from ?_)
    refine pk_bw (P := A) ?_ (fun q hq => pk_some hq)
    rw [p_X10_makePair_eq]
    refine pk_bdv (r0 := q0.2.1 36 (h + 1)) (μ0 := q1) gp1 (pk_bdv (r0 := q1.2.1 36 h) (μ0 := q2) gp2 ?_)
    refine pk_bd (P := fun r => r.2 = q2 ∧ (r.1 = 0 ↔ 1 + w1 + w2 ≤ 40)) ?_ ?_
    · rw [p_X8_isTooHeavy_eq]
      refine pk_bd (c_weight hv1) ?_
      rintro r2 μ1 ⟨f1, f2⟩
      have f1 : μ1 = q2 := f1
      have f2 : r2.toInt = (w1 : Int) := f2
      rw [f1]
      refine pk_bd (c_weight hv2) ?_
      rintro r4 μ3 ⟨f3, f4⟩
      have f3 : μ3 = q2 := f3
      have f4 : r4.toInt = (w2 : Int) := f4
      rw [f3]
      have a1' : (1 + r2).toInt = 1 + (w1 : Int) := by rw [ti_add (by omega) (by omega), e1, f2]
      have a2' : (1 + r2 + r4).toInt = 1 + (w1 : Int) + (w2 : Int) := by rw [ti_add (by omega) (by omega), a1', f4]
      refine pk_ite (fun c => pk_some ⟨rfl, fun _ => ?_, fun _ => rfl⟩) (fun c => pk_some ⟨rfl, fun c2 => absurd c2 (show ¬ (1 : Int32) = 0 by decide), fun c2 => ?_⟩)
      · rw [ti_le, a2', e40] at c; omega
      · exfalso; rw [ti_le, a2', e40] at c; omega
    · rintro r6 μ5 ⟨f1, f2⟩
      have f1 : μ5 = q2 := f1
      have f2 : r6 = 0 ↔ 1 + w1 + w2 ≤ 40 := f2
      rw [f1]
      refine pk_ite (fun c => ?_) (fun c => ?_)
      · rw [if_pos (f2.mp c)] at hA; exact hA
      · rw [if_neg (fun x => c (f2.mpr x))] at hA; exact hA
  by_cases hwt : 1 + w1 + w2 ≤ 40
  · refine op_run W hbu hX (A := fun q => ∃ q3, Fs7 q2 q3 ∧ (q3.1 30 5).toInt = ((sz + 1 : Nat) : Int) ∧ q3.2.1 31 sz = q1.2.1 36 h ∧ q3.2.1 32 sz = q0.2.1 36 (h + 1) ∧ (q3.1 33 sz).toInt = ((1 + w1 + w2 : Nat) : Int) ∧ (q3.1 34 sz).toInt = ((1 + max d1 d2 : Nat) : Int) ∧ q = sF (sL q3 36 h (s_X0_make (nI 2) (nI sz))) 30 7 (q3.1 30 7 + 1)) (B := fun z => ∃ (p : Nat) (z3 : Mem) (r a1 a2 : Int32), a1.toInt = (x1 : Int) ∧ a2.toInt = (x2 : Int) ∧ r.toInt = (p : Int) ∧ (z3.1 0 56).toInt = ((p + 1 : Nat) : Int) ∧ Fh7 z2 z3 ∧ z3.1 30 p = 2 ∧ z3.1 31 p = a1 ∧ z3.1 32 p = a2 ∧ (z3.1 33 p).toInt = ((1 + w1 + w2 : Nat) : Int) ∧ (z3.1 34 p).toInt = ((1 + max d1 d2 : Nat) : Int) ∧ z = sF (sF z3 40 h r) 0 66 (z3.1 0 66 + 1)) (hbody ?_) (hact ?_) ?_
    · rw [if_pos hwt]
      refine pk_bd (c_pair hv1 hv2 hsz2 (by omega) (by omega)) ?_
      rintro r9 μ8 ⟨f1, f2, f3, f4, f5, f6, f7⟩
      have f1 : r9 = s_X0_make (nI 2) (nI sz) := f1
      have f2 : Fs7 q2 μ8 := f2
      exact pk_bw (c_push _ (h := h) (by rw [f2.2.2.1 7 (by decide)]; exact q7) (by omega)) (fun q hq => pk_some ⟨μ8, f2, f3, f4, f5, f6, f7, by rw [hq, f1]⟩)
    · intro r4 r2 h4 hr2
      refine pk_bd (m_pair hv1 hv2 h4 hr2 (by omega)) ?_
      rintro r6 μ5 ⟨p, f1, f2, f3, f4, f5, f6, f7, f8, f9⟩
      have f1 : r6.toInt = (p : Int) := f1
      have f4 : Fh7 z2 μ5 := f4
      have f8 : (μ5.1 33 p).toInt = ((1 + w1 + w2 : Nat) : Int) := f8
      rw [tn_of f1]
      refine pk_gd (fun _ => ?_)
      rw [if_pos (by rw [ti_le, f8, e40]; omega)]
      exact pk_bw (m_come r6 (n := h) (by rw [f4.2.2.1 66 (by decide)]; exact z66)) (fun q hq => pk_some ⟨p, μ5, r6, r4, r2, h4, hr2, f1, f3, f4, f5, f6, f7, f8, f9, hq.1⟩)
    · rintro q z n fu ⟨q3, g1, g2, g3, g4, g5, g6, hq⟩ ⟨p, z3, r, b1, b2, hb1, hb2, hr, j1, j2, j3, j4, j5, j6, j7, hz⟩
      have c7 : q3.1 30 7 = q2.1 30 7 := g1.2.2.1 7 (by decide)
      have qx3 : Qx8 h μx q3 := fx2.tr g1.qx
      have qm3 : Qm8 h m μm z3 := fm2.tr (Fh7.qm j2)
      have hva : Va7 q3 z3 (s_X0_make (nI 2) (nI sz)) p (1 + w1 + w2) (1 + max d1 d2) := va_pair hv1 hv2 hb1 hb2 g1.2.2.2.2 j2.2.2.2 g2 g3 g4 g5 g6 j1 j3 j4 j5 j6 j7
      obtain ⟨W', F'⟩ := W.val qx3 qm3 (by omega) (by rw [c7]; exact q7) (by rw [j2.2.2.1 66 (by decide)]; exact z66) (by rw [j2.2.2.1 65 (by decide)]; exact z65') hva hwt hr (by omega) hq hz
      refine ok q z It Bk cl (a1 + 1) n fu W' (F' _) ?_ (hbu.step (y := 1) (by omega) ?_ ?_ ?_)
      · rw [hq, sF_i (by decide)]
        show (q3.1 137 9).toInt = _
        rw [g1.2.1 137 9 (by decide) (by decide) (by decide)]; exact hpc2
      · rw [hq, sF_i (by decide)]
        show q3.1 39 3 = _
        rw [g1.2.1 39 3 (by decide) (by decide) (by decide)]; exact fx2.2.1 39 3 (by decide) (by decide) (by decide) (by omega)
      · rw [hq, sF_k (by decide)]
        show _ ≤ (q3.1 30 5).toInt
        rw [g2, ← b52, hsz2]; omega
      · rw [hq, sF_k (by decide)]
        show (q3.1 30 5).toInt ≤ _
        rw [g2, ← b52, hsz2]; omega
  · refine op_run W hbu hX (A := fun q => q.1 137 6 = -5 ∧ q.2.2 = μx.2.2) (B := fun z => z.1 0 68 = -5) (hbody ?_) (hact ?_) ?_
    · rw [if_neg hwt, p_X10_breakOff_eq]
      have s1 : q2.1 137 6 = 0 := by rw [fx2.2.1 137 6 (by decide) (by decide) (by decide) (by omega)]; exact W.1.1.2.2.2.1.1
      rw [if_pos s1]
      exact pk_bw (P := fun q => q.1 137 6 = -5 ∧ q.2.2 = μx.2.2) (pk_bvs (pk_some ⟨by rw [sF_v], fx2.1⟩)) (fun q hq => pk_some hq)
    · intro r4 r2 h4 hr2
      refine pk_bd (m_pair hv1 hv2 h4 hr2 (by omega)) ?_
      rintro r6 μ5 ⟨p, f1, f2, f3, f4, f5, f6, f7, f8, f9⟩
      have f1 : r6.toInt = (p : Int) := f1
      have f4 : Fh7 z2 μ5 := f4
      have f8 : (μ5.1 33 p).toInt = ((1 + w1 + w2 : Nat) : Int) := f8
      have h69 : μ5.1 0 69 = 1 := by rw [f4.2.2.1 69 (by decide), fm2.2.1 69 (by decide) (by decide) (by decide) (by decide) (by decide)]; exact W.x68.2
      rw [tn_of f1]
      refine pk_gd (fun _ => ?_)
      rw [if_neg (by rw [ti_le, f8, e40]; omega), if_neg (by rw [h69]; decide)]
      refine pk_bvs (pk_bw (m_come r6 (n := h) (by rw [sF_k (by decide), f4.2.2.1 66 (by decide)]; exact z66)) (fun q hq => pk_some ?_))
      rw [hq.1, sF_k (by decide), sF_i (by decide), sF_v]
    · rintro q z n fu ⟨g1, g2⟩ hz
      exact bad q z (a1 + 1) n fu (-5) g1 hz (by decide) (Su5.of W.2.2.2.2.2.1 g2)
end

section
theorem op_put {P : Nat} {C : List Th3} {G : List Fn5} {df : Nat} {T : List Th3} {o : Nat} {N : List Int32} {i e : Nat} {d : Int32} (hF : Fn9 G T o) (h1 : T[i]? = some (9, d, 1)) (h2 : C[e]? = some (10, d, 0)) (h3 : 0 ≤ d.toInt ∧ d.toInt ≤ 7) : Op9 P C G df (o + i) 1 N e := by
  intro β K Post μx μm It Bk cl v b a h D m bc ob a1 nn fu X Y W h37 h38 hpc hbu hhb hbc hob hX hY ok bad
  have hD : D ≤ 12 := W.1.2.2.2.2.2.1.2.2.2
  obtain ⟨t7, t8, t9⟩ := fn_at W.pn hF i _ h1
  have t7 : μm.1 7 (o + i) = 9 := t7
  have t8 : μm.1 8 (o + i) = d := t8
  obtain ⟨q0, z0, fx0, fm0, S0, z65, pc0, b5, bu0, stp, ez0⟩ := W.beg h h2 hpc hbu hX
  obtain ⟨x1, y1, u1, V1, p1, g1, n1⟩ := pn_both S0
  have D2 := sk_down S0
  generalize hq2 : sF q0 30 7 (q0.1 30 7 - 1) = q2 at V1 p1 D2
  generalize hz2 : sF z0 0 66 (z0.1 0 66 - 1) = z2 at V1 g1 n1 D2
  have fx2 : Qx8 h μx q2 := by rw [← hq2]; exact fx0.tr (Qx8.top _)
  have fm2 : Qm8 h m μm z2 := by rw [← hz2]; exact fm0.tr (Qm8.F _ (by omega))
  obtain ⟨m1, b1, hm1, eu1, ey1, eb1⟩ := va_num V1
  have q7 := D2.1.1
  have z66 := D2.1.2.1
  have z65' : (z2.1 0 65).toInt = (m : Int) := by rw [← hz2, sF_k (by decide)]; exact z65
  have hpc2 : (q2.1 137 9).toInt = ((e + 1 : Nat) : Int) := by rw [← hq2, sF_i (by decide)]; exact pc0
  have hbu2 : Bu9 (a1 + 1) q2 (X + 1) (Y + 1) := bu0.same (by rw [← hq2, sF_i (by decide)]) (by rw [← hq2, sF_k (by decide)])
  obtain ⟨⟨s1, s2, s3, s4, s5, s6⟩, f43b, f43c, f43d, f43e⟩ := W.f43
  have hn2 : (z2.1 0 89).toInt = (It.length : Int) := by rw [fm2.2.1 89 (by decide) (by decide) (by decide) (by decide) (by decide)]; exact f43d
  have h68 : z2.1 0 68 = 0 := by rw [fm2.2.1 68 (by decide) (by decide) (by decide) (by decide) (by decide)]; exact W.x68.1
  have h69 : z2.1 0 69 = 1 := by rw [fm2.2.1 69 (by decide) (by decide) (by decide) (by decide) (by decide)]; exact W.x68.2
  obtain ⟨o88, ho88⟩ : ∃ o : Nat, (z2.1 0 88).toInt = (o : Int) := by rw [fm2.2.1 88 (by decide) (by decide) (by decide) (by decide) (by decide)]; exact W.o88
  have hbody : ∀ {A : Mem → Prop}, pk (bd (p_X10_leave 8 d u1 (0 : Int64) q2) (fun r4 μ3 => (if (s_X0_isKnown u1) = 0 then bw (p_X8_push r4 μ3) (fun μ6 => some μ6) else bw (p_X8_push (s_X0_stored d u1) μ3) (fun μ8 => some μ8)))) A → pk (p_X10_step μx) A := by
    intro A hA
    refine stp (show pk (bw (p_X10_putAt d q0) (fun μ18 => some μ18)) A from ?_)
    refine pk_bw (P := A) ?_ (fun q hq => pk_some hq)
    rw [p_X10_putAt_eq]
    exact pk_bdv p1 hA
  have hact : ∀ {B : Mem → Prop}, (∀ z, 300 ≤ It.length → z.1 0 68 = -2 → B z) → (∀ (p : Nat) (r2 r4 : Int32) (z3 : Mem), It.length < 300 → (z2.1 0 87).toInt = (p : Int) → r2.toInt = (p : Int) → r4.toInt = (y1 : Int) → La7 8 d true [y1] p o88 It.length z2 z3 → z3.1 0 69 = 1 → pk (p_X12_doPut_b54 d r4 r2 z3) B) → pk (p_X12_goOne (μm.1 37 m) (μm.1 38 m) (μm.1 39 m) (sF μm 0 65 (μm.1 0 65 - 1))) B := by
    intro B hB1 hB2
    rw [ez0]
    refine do_act fm0 h37 h38 t7 t8 t9 (body := p_X12_doPut d z0) (fun hb => ?_) ?_
    · rw [if_neg (by decide), if_neg (by decide), if_neg (by decide), if_neg (by decide), if_neg (by decide), if_neg (by decide), if_neg (by decide), if_pos rfl]
      exact pk_gd (fun _ => pk_bw hb (fun q hq => pk_some hq))
    · rw [p_X12_doPut_eq]
      refine gone_num g1 n1 (fun r4 hr4 => ?_)
      rw [if_neg (by rw [h69]; decide)]
      refine pk_bd (m_instr 8 1 ho88 hn2 f43e) ?_
      rintro r2 μ1 ⟨p, hp, hr, hp9, h⟩
      have hr : r2.toInt = (p : Int) := hr
      rw [p_X12_doPut_b27_eq]
      rcases h with ⟨hn, z, hI, e⟩ | ⟨hn, hL⟩
      · have e : μ1 = sF z 0 68 (-2) := e
        have e68 : μ1.1 0 68 = -2 := by rw [e, sF_v]
        rw [if_neg (by rw [e68]; decide)]
        exact pk_some (hB1 _ hn e68)
      · have hL : La7 8 0 true [] p o88 It.length z2 μ1 := hL
        have e68 : μ1.1 0 68 = 0 := by rw [hL.2.2.2.2.2.2.1 68 (by decide) (by decide) (by decide) (by decide)]; exact h68
        have n1' : ¬ r2 = -1 := fun e => by
          rw [e] at hr
          have : (-1 : Int32).toInt = -1 := by decide
          omega
        rw [if_pos e68, if_neg n1', tn_of hr]
        refine pk_gd (fun _ => pk_bvs (pk_bw ((hL.mark (mark := d)).op hr hr4 (by decide)) (fun z3 h4 => ?_)))
        have h4 : La7 8 d true [y1] p o88 It.length z2 z3 := h4
        exact hB2 p r2 r4 z3 hn hp hr hr4 h4 (by rw [h4.2.2.2.2.2.2.1 69 (by decide) (by decide) (by decide) (by decide)]; exact h69)
  by_cases k1 : m1 ≤ 1
  · obtain ⟨dn, hdn⟩ : ∃ dn : Nat, d.toInt = (dn : Int) := ⟨d.toInt.toNat, by omega⟩
    obtain ⟨sr, vr, t1, t2, t3, t4⟩ := na_hold k1 b1 d hdn
    refine op_run W hbu hX (A := fun q => (300 ≤ It.length ∧ q.1 137 6 = -2 ∧ q.2.2 = q2.2.2) ∨ (It.length < 300 ∧ ∃ q3, Lv7 8 d u1 0 v b It.length q2 q3 ∧ q = sF (sL q3 36 h (s_X0_make (nI sr) vr)) 30 7 (q3.1 30 7 + 1))) (B := fun z => (300 ≤ It.length ∧ z.1 0 68 = -2) ∨ (It.length < 300 ∧ ∃ (p : Nat) (z3 z4 z5 : Mem) (y : Nat) (r : Int32), (z2.1 0 87).toInt = (p : Int) ∧ La7 8 d true [y1] p o88 It.length z2 z3 ∧ Gv8 (nI sr) vr z3 z4 ∧ Nn7 z4 z5 y (nI sr) vr ∧ r.toInt = (y : Int) ∧ z = sF (sF z5 40 h r) 0 66 (z5.1 0 66 + 1))) (hbody ?_) (hact (fun z h1 h2 => Or.inl ⟨h1, h2⟩) ?_) ?_
    · have c : ∀ i k, i ≠ 30 → i ≠ 33 → i ≠ 34 → i ≠ 137 → q2.1 i k = μx.1 i k := fun i k a1 a2 a3 a4 => fx2.2.1 i k a1 a2 a3 (by omega)
      have c7 : ∀ k, k ≠ 9 → q2.1 137 k = μx.1 137 k := fun k hk => fx2.2.1 137 k (by decide) (by decide) (by decide) (by omega)
      refine pk_bd (c_leave (x := u1) (y := 0) (v := v) (b := b) (n := It.length) (by rw [c7 6 (by decide)]; exact s1) (by rw [c7 7 (by decide)]; exact s2) (by rw [c7 8 (by decide)]; exact s3) (by rw [c 39 2 (by decide) (by decide) (by decide) (by decide)]; exact s4) s5 (by rw [c 39 6 (by decide) (by decide) (by decide) (by decide)]; exact s6) (by rw [c 39 1 (by decide) (by decide) (by decide) (by decide)]; exact f43b) (by rw [c 43 b (by decide) (by decide) (by decide) (by decide)]; exact f43c)) ?_
      have uk : ¬ s_X0_isKnown u1 = 0 := by rw [eu1]; exact isk_le _ k1
      rintro r4 μ3 (⟨j1, j2, j3⟩ | ⟨j1, j2, j3⟩)
      · have j3 : μ3 = sF q2 137 6 (-2) := j3
        rw [if_neg uk]
        refine pk_bw (c_push _ (h := h) (by rw [j3, sF_i (by decide)]; exact q7) (by omega)) (fun q hq => pk_some (Or.inl ⟨j1, ?_, ?_⟩))
        · rw [hq, sF_i (by decide), j3]; show (sF q2 137 6 (-2)).1 137 6 = _; rw [sF_v]
        · rw [hq, j3]; rfl
      · have j3 : Lv7 8 d u1 0 v b It.length q2 μ3 := j3
        rw [if_neg uk, eu1, t2]
        refine pk_bw (c_push _ (h := h) (by rw [j3.fx.2.1 30 7 (by decide) (by decide) (by decide) (by decide) (by decide)]; exact q7) (by omega)) (fun q hq => pk_some (Or.inr ⟨j1, μ3, by rw [← eu1]; exact j3, hq⟩))
    · intro p r2 r4 z3 hn hp hr2 hr4 hL h69'
      have k30 : z3.1 30 y1 = nI m1 := by rw [hL.2.2.2.2.2.2.2.1 30 y1 (by decide) (by omega) (by omega)]; exact ey1
      have k31 : z3.1 31 y1 = b1 := by rw [hL.2.2.2.2.2.2.2.1 31 y1 (by decide) (by omega) (by omega)]; exact eb1
      rw [p_X12_doPut_b54_eq]
      refine m_known2 hr4 (fun r9 hr9 => ?_)
      rw [if_neg (fun c => by have := hr9.mp c; rw [k30] at this; exact nI_n3 k1 this)]
      refine pk_bw (t4 z3 y1 r4 hr4 k30 k31) (fun z4 hz4 => ?_)
      have w69 : z4.1 0 69 = 1 := by unfold Gv8 at hz4; rw [hz4, sF_k (by decide), sF_k (by decide)]; exact h69'
      rw [if_neg (by rw [w69]; decide)]
      refine pk_mono (m_givecome (h := h) hz4 (by rw [hL.2.2.2.2.2.2.1 66 (by decide) (by decide) (by decide) (by decide)]; exact z66)) ?_
      rintro z ⟨z5, y, r, f1, f2, f3⟩
      exact Or.inr ⟨hn, p, z3, z4, z5, y, r, hp, hL, hz4, f1, f2, f3⟩
    · rintro q z n fu (⟨j1, j2, j3⟩ | ⟨j1, q3, j2, j3⟩) hB
      · rcases hB with ⟨_, m1'⟩ | ⟨m1', _⟩
        · exact bad q z (a1 + 1) n fu (-2) j2 m1' (by decide) (Su5.of W.2.2.2.2.2.1 (by rw [j3]; exact fx2.1))
        · omega
      · rcases hB with ⟨m1', _⟩ | ⟨_, p, z3, z4, z5, y, r, hp, hL, g4, f1, f2, f3⟩
        · omega
        · have W2 : W9 P C G v b a h D N m bc ob q2 z2 It Bk cl := W.low fx2 fm2 (by omega) q7 z66 z65'
          obtain ⟨W3, F3⟩ := W2.lay j1 j2 hL ⟨fun _ => by decide, fun _ => rfl⟩ (by decide) (by decide) (by decide) (show (1 : Nat) ≤ 2 by decide) (fun u hu => by
            have hu : y1 = u := Option.some.inj hu
            rw [← hu]; exact va_lo V1) (fun u hu => by
            have hu : ([y1] : List Nat)[1]? = some u := hu
            simp at hu) hp ho88
          have w66 : z4.1 0 66 = z3.1 0 66 := by unfold Gv8 at g4; rw [g4, sF_k (by decide), sF_k (by decide)]
          have w65 : z4.1 0 65 = z3.1 0 65 := by unfold Gv8 at g4; rw [g4, sF_k (by decide), sF_k (by decide)]
          obtain ⟨W4, F4⟩ := W3.num (h := h) (m := m) (q2 := q3) (z3 := z4) (s := sr) (bt := vr) Qx8.rf g4.qm (Nat.le_refl _) W3.x7.1 (by rw [w66]; exact W3.x7.2) (by rw [w65]; exact W3.x65) (by omega) f1 f2 (by omega) j3 f3
          have fj := j2.fx
          refine ok q z _ _ cl (a1 + 1) n fu W4 (((F9.q (h0 := h) (m0 := m) fx2 fm2 (Nat.le_refl _) (Nat.le_refl _)).tr (F3 _) (Nat.le_refl _) (Nat.le_refl _) (Nat.le_refl _) (Nat.le_refl _) (Nat.le_refl _)).tr (F4 _) (Nat.le_refl _) (Nat.le_refl _) (Nat.le_refl _) (Nat.le_refl _) (Nat.le_refl _)) ?_ (hbu2.same ?_ ?_)
          · rw [j3, sF_i (by decide)]
            show (q3.1 137 9).toInt = _
            rw [fj.2.1 137 9 (by decide) (by decide) (by decide) (by decide) (by decide)]; exact hpc2
          · rw [j3, sF_i (by decide)]
            show q3.1 39 3 = _
            rw [fj.2.2.1 3 (by decide)]
          · rw [j3, sF_k (by decide)]
            show q3.1 30 5 = _
            rw [fj.2.1 30 5 (by decide) (by decide) (by decide) (by decide) (by decide)]
  · have m3 : m1 = 3 := by omega
    refine op_run W hbu hX (A := Ai8 8 d u1 0 v b It.length h q2) (B := Bi8 8 d [y1] It.length h z2) (hbody ?_) (hact (fun z h1 h2 => Or.inl ⟨h1, h2⟩) ?_) ?_
    · have := W.cins (kind := 8) (mark := d) (x1 := u1) (x2 := 0) fx2 (by decide) q7 (by omega)
      have uk : s_X0_isKnown u1 = 0 := by rw [eu1, m3]; exact isk_3 _
      have e : (fun (r4 : Int64) (μ3 : Mem) => (if (s_X0_isKnown u1) = 0 then bw (p_X8_push r4 μ3) (fun μ6 => some μ6) else bw (p_X8_push (s_X0_stored d u1) μ3) (fun μ8 => some μ8))) = (fun r7 μ6 => bw (p_X8_push r7 μ6) (fun μ8 => some μ8)) := by
        funext r4 μ3; rw [if_pos uk]
      rw [e]; exact this
    · intro p r2 r4 z3 hn hp hr2 hr4 hL h69'
      have k30 : z3.1 30 y1 = nI m1 := by rw [hL.2.2.2.2.2.2.2.1 30 y1 (by decide) (by omega) (by omega)]; exact ey1
      rw [p_X12_doPut_b54_eq]
      refine m_known2 hr4 (fun r9 hr9 => ?_)
      rw [if_pos (hr9.mpr (by rw [k30, m3]; decide))]
      refine pk_mono (m_regcome hL hr2 z66) ?_
      rintro z ⟨yy, z5, r, g1', g2', g3'⟩
      exact Or.inr ⟨hn, p, o88, yy, z3, z5, r, hp, ho88, hL, g1', g2', g3'⟩
    · intro q z n fu hA hB
      refine W.ins (X := [y1]) fx2 fm2 (by omega) (by omega) (by decide) (by decide) (by decide) (by decide) (show (1 : Nat) ≤ 2 by decide) (fun u hu => ?_) (fun u hu => ?_) q7 z66 z65' hA hB hpc2 hbu2 ok bad
      · have hu : y1 = u := Option.some.inj hu
        rw [← hu]; exact va_lo V1
      · have hu : ([y1] : List Nat)[1]? = some u := hu
        simp at hu
theorem op_out {P : Nat} {C : List Th3} {G : List Fn5} {df : Nat} {T : List Th3} {o : Nat} {N : List Int32} {i e : Nat} (hF : Fn9 G T o) (h1 : T[i]? = some (8, 0, 1)) (h2 : C[e]? = some (9, 0, 0)) : Op9 P C G df (o + i) 1 N e := by
  intro β K Post μx μm It Bk cl v b a h D m bc ob a1 nn fu X Y W h37 h38 hpc hbu hhb hbc hob hX hY ok bad
  have e1 : (1 : Int32).toInt = 1 := by decide
  have e0 : (0 : Int32).toInt = 0 := by decide
  have hD : D ≤ 12 := W.1.2.2.2.2.2.1.2.2.2
  obtain ⟨t7, t8, t9⟩ := fn_at W.pn hF i _ h1
  have t7 : μm.1 7 (o + i) = 8 := t7
  obtain ⟨q0, z0, fx0, fm0, S0, z65, pc0, b5, bu0, stp, ez0⟩ := W.beg h h2 hpc hbu hX
  obtain ⟨x, w, dd, c1, c2, c3⟩ := S0.2.2 h (by omega)
  have D2 := sk_down S0
  have gg := m_gone (μ := z0) S0.2.1
  have S07 := S0.1
  have hv0 : Va7 q0 z0 (q0.2.1 36 h) x w dd := c2
  obtain ⟨y, u, hl, hu, hn⟩ := va_left hv0
  have hdw := va_pos hv0
  generalize hz2 : sF z0 0 66 (z0.1 0 66 - 1) = z2 at gg D2
  have gh2 : Gh7 z0 z2 := D2.2.2
  have fm2 : Qm8 h m μm z2 := by rw [← hz2]; exact fm0.tr (Qm8.F _ (by omega))
  have hl2 : Lf7 z2 x y := by
    obtain ⟨n, f, f0, fn, fs, fe⟩ := hl
    rw [← hz2]
    exact ⟨n, f, f0, fn, fun i hi => by rw [sF_i (by decide), sF_i (by decide)]; exact fs i hi, by rw [sF_i (by decide)]; exact fe⟩
  obtain ⟨⟨s1, s2, s3, s4, s5, s6⟩, f43b, f43c, f43d, f43e⟩ := W.f43
  have hn2 : (z2.1 0 89).toInt = (It.length : Int) := by rw [fm2.2.1 89 (by decide) (by decide) (by decide) (by decide) (by decide)]; exact f43d
  have h68 : z2.1 0 68 = 0 := by rw [fm2.2.1 68 (by decide) (by decide) (by decide) (by decide) (by decide)]; exact W.x68.1
  have h69 : z2.1 0 69 = 1 := by rw [fm2.2.1 69 (by decide) (by decide) (by decide) (by decide) (by decide)]; exact W.x68.2
  obtain ⟨o88, ho88⟩ : ∃ o : Nat, (z2.1 0 88).toInt = (o : Int) := by rw [fm2.2.1 88 (by decide) (by decide) (by decide) (by decide) (by decide)]; exact W.o88
  have fxg : Qx8 h μx (sF q0 30 7 (q0.1 30 7 - 1)) := fx0.tr (Qx8.top _)
  refine op_run W hbu hX (A := fun q => (300 ≤ It.length ∧ q.1 137 6 = -2 ∧ q.2.2 = μx.2.2) ∨ (It.length < 300 ∧ Lv7 7 0 u 0 v b It.length q0 q)) (B := fun z => (300 ≤ It.length ∧ z.1 0 68 = -2) ∨ (It.length < 300 ∧ ∃ (p : Nat) (z3 : Mem) (r : Int32), (z2.1 0 87).toInt = (p : Int) ∧ La7 7 0 false [y] p o88 It.length z2 z3 ∧ r.toInt = (x : Int) ∧ z = sF (sF z3 40 h r) 0 66 (z3.1 0 66 + 1))) (stp ?_) ?_ ?_
  · show pk (bd (p_X8_fromTop 0 q0) (fun r40 μ39 => bd (p_X8_num r40 μ39) (fun r42 μ41 => bd (p_X10_leave 7 0 r42 (0 : Int64) μ41) (fun r44 μ43 => some μ43)))) _
    refine pk_bdv (r0 := q0.2.1 36 h) (μ0 := q0) ?_ ?_
    · rw [p_X8_fromTop_eq]
      refine pk_bvy (fun v1 q1 => ?_)
      have hv1 : v1.toInt = (h : Int) := by
        have a1 : (q0.1 30 7 - 1).toInt = (h : Int) := by rw [ti_sub (by omega) (by omega), S07, e1]; omega
        rw [q1, ti_sub (by omega) (by omega), a1, e0]; omega
      rw [if_neg (by rw [ti_lt, e0]; omega), if_neg (by rw [ti_le]; omega), tn_of hv1]
      exact pk_gd (fun _ => pk_some ⟨rfl, rfl⟩)
    · refine pk_bdv (r0 := u) (μ0 := q0) ?_ ?_
      · rw [p_X8_num_eq]
        exact pk_mono (hn FUEL 0 0 e0 (by omega)) (fun r hr => ⟨hr.2, hr.1⟩)
      · have c : ∀ i k, i ≠ 30 → i ≠ 33 → i ≠ 34 → i ≠ 137 → q0.1 i k = μx.1 i k := fun i k a1 a2 a3 a4 => fx0.2.1 i k a1 a2 a3 (by omega)
        have c7 : ∀ k, k ≠ 9 → q0.1 137 k = μx.1 137 k := fun k hk => fx0.2.1 137 k (by decide) (by decide) (by decide) (by omega)
        refine pk_bd (c_leave (x := u) (y := 0) (v := v) (b := b) (n := It.length) (by rw [c7 6 (by decide)]; exact s1) (by rw [c7 7 (by decide)]; exact s2) (by rw [c7 8 (by decide)]; exact s3) (by rw [c 39 2 (by decide) (by decide) (by decide) (by decide)]; exact s4) s5 (by rw [c 39 6 (by decide) (by decide) (by decide) (by decide)]; exact s6) (by rw [c 39 1 (by decide) (by decide) (by decide) (by decide)]; exact f43b) (by rw [c 43 b (by decide) (by decide) (by decide) (by decide)]; exact f43c)) ?_
        rintro r4 μ3 (⟨j1, j2, j3⟩ | ⟨j1, j2, j3⟩)
        · have j3 : μ3 = sF q0 137 6 (-2) := j3
          exact pk_some (Or.inl ⟨j1, by rw [j3, sF_v], by rw [j3]; exact fx0.1⟩)
        · exact pk_some (Or.inr ⟨j1, j3⟩)
  · rw [ez0]
    refine do_act fm0 h37 h38 t7 t8 t9 (body := p_X12_doOut z0) (fun hb => ?_) ?_
    · rw [if_neg (by decide), if_neg (by decide), if_neg (by decide), if_neg (by decide), if_neg (by decide), if_neg (by decide), if_pos rfl]
      exact pk_bw hb (fun q hq => pk_some hq)
    · rw [p_X12_doOut_eq]
      refine pk_bdv (r0 := z0.1 40 h) (μ0 := z2) gg ?_
      refine pk_bd (m_num hl2 c1) ?_
      rintro r4 μ3 ⟨f1, f2⟩
      have f1 : μ3 = z2 := f1
      have f2 : r4.toInt = (y : Int) := f2
      rw [f1, if_neg (by rw [h69]; decide)]
      refine pk_bd (m_instr 7 0 ho88 hn2 f43e) ?_
      rintro r2 μ1 ⟨p, hp, hr, hp9, h'⟩
      have hr : r2.toInt = (p : Int) := hr
      rcases h' with ⟨hn', z, hI, e⟩ | ⟨hn', hL⟩
      · have e : μ1 = sF z 0 68 (-2) := e
        have e68 : μ1.1 0 68 = -2 := by rw [e, sF_v]
        rw [if_neg (by rw [e68]; decide)]
        exact pk_some (Or.inl ⟨hn', e68⟩)
      · have hL : La7 7 0 false [] p o88 It.length z2 μ1 := hL
        have e68 : μ1.1 0 68 = 0 := by rw [hL.2.2.2.2.2.2.1 68 (by decide) (by decide) (by decide) (by decide)]; exact h68
        rw [if_pos e68]
        refine pk_bw (hL.op hr f2 (by decide)) (fun z3 h4 => ?_)
        have h4 : La7 7 0 false [y] p o88 It.length z2 z3 := h4
        exact pk_bw (m_come _ (n := h) (by rw [h4.2.2.2.2.2.2.1 66 (by decide) (by decide) (by decide) (by decide)]; exact D2.1.2.1)) (fun q hq => pk_some (Or.inr ⟨hn', p, z3, _, hp, h4, c1, hq.1⟩))
  · rintro q z n fu (⟨j1, j2, j3⟩ | ⟨j1, j2⟩) hB
    · rcases hB with ⟨_, m1'⟩ | ⟨m1', _⟩
      · exact bad q z (a1 + 1) n fu (-2) j2 m1' (by decide) (Su5.of W.2.2.2.2.2.1 j3)
      · omega
    · rcases hB with ⟨m1', _⟩ | ⟨_, p, z3, r, hp, hL, hr, hz⟩
      · omega
      · have W2 : W9 P C G v b a h D N m bc ob (sF q0 30 7 (q0.1 30 7 - 1)) z2 It Bk cl := W.low fxg fm2 (by omega) D2.1.1 D2.1.2.1 (by rw [← hz2, sF_k (by decide)]; exact z65)
        have fj := j2.fx
        have c7 : q.1 30 7 = q0.1 30 7 := fj.2.1 30 7 (by decide) (by decide) (by decide) (by decide) (by decide)
        have c36 : q.2.1 36 h = q0.2.1 36 h := fj.2.2.2.2 36 h (by decide)
        have j2' := j2.top (q0.1 30 7 - 1)
        obtain ⟨W3, F3⟩ := W2.lay j1 j2' hL ⟨fun e => absurd e (by decide), fun e => absurd rfl e⟩ (by decide) (by decide) (by decide) (show (1 : Nat) ≤ 2 by decide) (fun uu hu2 => by
          have hu2 : y = uu := Option.some.inj hu2
          rw [← hu2]; exact va_lo (hu.gr (Gs7.rf (μ := q0)) gh2)) (fun uu hu2 => by
          have hu2 : ([y] : List Nat)[1]? = some uu := hu2
          simp at hu2) hp ho88
        have gq : Gs7 q0 (sF q 30 7 (q0.1 30 7 - 1)) := (fj.gs).tr (Qx8.top (h := 0) _).2.2.2.2
        have gz : Gh7 z0 z3 := gh2.tr (la_gh hL)
        obtain ⟨W4, F4⟩ := W3.val (h := h) (m := m) (q1 := sF q 30 7 (q0.1 30 7 - 1)) (z1 := z3) (q := q) (r := r) Qx8.rf Qm8.rf (Nat.le_refl _) W3.x7.1 W3.x7.2 W3.x65 (hv0.gr gq gz) c3 hr (by omega) (by
          have := push_pop q h
          rw [c36] at this
          rw [← c7]; exact this.symm) hz
        refine ok q z _ _ cl (a1 + 1) n fu W4 (((F9.q (h0 := h) (m0 := m) fxg fm2 (Nat.le_refl _) (Nat.le_refl _)).tr (F3 _) (Nat.le_refl _) (Nat.le_refl _) (Nat.le_refl _) (Nat.le_refl _) (Nat.le_refl _)).tr (F4 _) (Nat.le_refl _) (Nat.le_refl _) (Nat.le_refl _) (Nat.le_refl _) (Nat.le_refl _)) ?_ (bu0.same ?_ ?_)
        · rw [fj.2.1 137 9 (by decide) (by decide) (by decide) (by decide) (by decide)]; exact pc0
        · exact fj.2.2.1 3 (by decide)
        · exact fj.2.1 30 5 (by decide) (by decide) (by decide) (by decide) (by decide)
end
