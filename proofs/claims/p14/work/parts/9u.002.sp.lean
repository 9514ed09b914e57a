section
theorem bd_bd {α β γ : Type} (f : Option (α × Mem)) (k : α → Mem → Option (β × Mem)) (K : β → Mem → Option γ) : bd (bd f k) K = bd f (fun r μ => bd (k r μ) K) := by
  cases f <;> rfl
theorem m_liftPair {μ : Mem} {o n y1 y2 : Nat} {a1 a2 : Int32} (h68 : μ.1 0 68 = 0) (ho : (μ.1 0 88).toInt = (o : Int)) (hn : (μ.1 0 89).toInt = (n : Int)) (hn3 : n ≤ 300) (h1 : a1.toInt = (y1 : Int)) (h2 : a2.toInt = (y2 : Int)) : pk (p_X12_liftPair a1 a2 μ) (fun r => ∃ p : Nat, (μ.1 0 87).toInt = (p : Int) ∧ ((300 ≤ n ∧ r.2.1 0 68 = -2) ∨ (n < 300 ∧ ∃ z0 y, La7 10 0 true [y1, y2] p o n μ z0 ∧ r.1.toInt = ((y : Nat) : Int) ∧ Nn7 z0 r.2 y 3 (μ.1 0 93)))) := by
  rw [p_X12_liftPair_eq]
  refine pk_bd (m_instr 10 1 ho hn hn3) ?_
  rintro r2 μ1 ⟨p, hp, hr, hp9, h⟩
  have hr : r2.toInt = (p : Int) := hr
  rcases h with ⟨hn, z, hI, e⟩ | ⟨hn, hL⟩
  · have e : μ1 = sF z 0 68 (-2) := e
    have e68 : μ1.1 0 68 = -2 := by rw [e, sF_v]
    rw [if_neg (by rw [e68]; decide)]
    exact pk_some ⟨p, hp, Or.inl ⟨hn, e68⟩⟩
  · have hL : La7 10 0 true [] p o n μ μ1 := hL
    have e68 : μ1.1 0 68 = 0 := by rw [hL.2.2.2.2.2.2.1 68 (by decide) (by decide) (by decide) (by decide)]; exact h68
    rw [if_pos e68]
    refine pk_bw (hL.op hr h1 (by decide)) (fun μ4 h4 => pk_bw (La7.op h4 hr h2 (show (1 : Nat) ≤ 10 by decide)) (fun μ6 h6 => ?_))
    have h6 : La7 10 0 true [y1, y2] p o n μ μ6 := h6
    have k47 : μ6.1 47 p = μ.1 0 93 := h6.2.2.2.2.1.2.1
    refine pk_bd (P := fun r => ∃ y : Nat, r.1.toInt = (y : Int) ∧ Nn7 μ6 r.2 y 3 (μ.1 0 93)) ?_ ?_
    · rw [p_X12_registerOf_eq, tn_of hr, k47]
      refine pk_gd (fun _ => pk_bd (m_node 3 (μ.1 0 93) μ6) ?_)
      rintro r μ2 ⟨y, hy, hN⟩
      exact pk_some ⟨y, hy, hN⟩
    · rintro r μ8 ⟨y, hy, hN⟩
      exact pk_some ⟨p, hp, Or.inr ⟨hn, μ6, y, h6, hy, hN⟩⟩
theorem c_lift_bad {μ : Mem} (hb : μ.1 137 6 ≠ 0) : ∀ (n : Nat) (x : Int64) (a3 : Int32), pk (pr_X10_lift n x a3 μ) (fun r => r.2 = μ) := by
  intro n x a3
  cases n with
  | zero => intro r e; rw [pr_X10_lift_z] at e; cases e
  | succ n =>
    rw [pr_X10_lift_s, p_X10_lift_eq]
    refine pk_bd (P := fun r => r.2 = μ) ?_ ?_
    · rw [p_X8_isPair_eq]
      exact pk_ite (fun _ => pk_ite (fun _ => pk_some rfl) (fun _ => pk_ite (fun _ => pk_some rfl) (fun _ => pk_some rfl))) (fun _ => pk_some rfl)
    · rintro r2 μ1 e
      have e : μ1 = μ := e
      subst e
      exact pk_ite (fun _ => pk_some rfl) (fun _ => pk_ite (fun _ => pk_some rfl) (fun _ => pk_ite (fun c => absurd c hb) (fun _ => pk_some rfl)))
theorem c_second_mem (x : Int64) (μ : Mem) : pk (p_X8_secondOf x μ) (fun r => r.2 = μ) := by
  rw [p_X8_secondOf_eq]
  refine pk_bd (P := fun r => r.2 = μ) ?_ ?_
  · rw [p_X8_isPair_eq]
    exact pk_ite (fun _ => pk_ite (fun _ => pk_some rfl) (fun _ => pk_ite (fun _ => pk_some rfl) (fun _ => pk_some rfl))) (fun _ => pk_some rfl)
  · rintro r2 μ1 e
    have e : μ1 = μ := e
    subst e
    exact pk_ite (fun _ => pk_some rfl) (fun _ => pk_gd (fun _ => pk_some rfl))
theorem c_leave_bad {kind mark : Int32} {x y : Int64} {μ : Mem} (hb : μ.1 137 6 ≠ 0) : pk (p_X10_leave kind mark x y μ) (fun r => r.2 = μ) := by
  rw [p_X10_leave_eq, if_neg hb]; exact pk_some rfl
theorem lift_one {β : Type} {α : Type} {μx μm : Mem} {It Bk : List Nat} {cl : Nat → Prop} {v b a y1 y2 : Nat} {x1 x2 : Int64} {a1 a2 : Int32} {KX : Int64 → Mem → Option α} {KM : Int32 → Mem → Option β} {Post : α → β → Prop} (hR : Re7 μx μm It Bk cl v b a) (h1 : Va7 μx μm x1 y1 1 0) (h2 : Va7 μx μm x2 y2 1 0) (ha : a1.toInt = (y1 : Int)) (hb : a2.toInt = (y2 : Int)) (ok : ∀ x' y' q z r p o, (μm.1 0 87).toInt = ((p : Nat) : Int) → (μm.1 0 88).toInt = ((o : Nat) : Int) → Re7 q z (It ++ [p]) (Bk ++ [b]) cl v b a → Gl8 b μx μm It Bk cl q z (It ++ [p]) (Bk ++ [b]) cl → Va7 q z x' y' 1 0 → r.toInt = ((y' : Nat) : Int) → Fx7 v μx q → Fm7 p o μm z → (∀ k, z.1 55 k = μm.1 55 k ∧ z.1 56 k = μm.1 56 k) → pk2 (KX x' q) (KM r z) Post) (bad : ∀ x' q z r, q.1 137 6 = -2 → z.1 0 68 = -2 → q.2.2 = μx.2.2 → pk2 (KX x' q) (KM r z) Post) : pk2 (bd (p_X10_leave 10 0 x1 x2 μx) KX) (bd (p_X12_liftPair a1 a2 μm) KM) Post := by
  obtain ⟨n1, n2, n3, p0, o, hp0, ho⟩ := hR.n
  have hR' := hR
  obtain ⟨hT, hB, hC, ⟨s1, s2, s3, s4, s5, s6⟩, hcl, ⟨m68, m69⟩, hS⟩ := hR'
  have t4 : μx.1 45 (4 * v + 2) = μm.1 0 93 := hT.2.2.2.1
  refine pk2_bdl (c_leave s1 s2 s3 s4 s5 s6 n1 (fun hne => by obtain ⟨l, e, hl⟩ := cn_last hC s6 hne; exact ⟨l, e, by omega⟩)) ?_
  intro r q hq
  refine pk2_bdr (m_liftPair m68 ho n2 n3 ha hb) ?_
  rintro r2 z ⟨p, hp, hz⟩
  rcases hq with ⟨hq, e1, e2⟩ | ⟨hq, e1, e2⟩
  · have e2 : q = sF μx 137 6 (-2) := e2
    rcases hz with ⟨_, e3⟩ | ⟨hz, _⟩
    · exact bad r q z r2 (by rw [e2, sF_v]) e3 (by rw [e2]; rfl)
    · omega
  · have e1 : r = s_X0_make (nI 3) (if (10 : Int32) = 7 then -1 else μx.1 45 (4 * v + 2)) := e1
    have e2 : Lv7 10 0 x1 x2 v b It.length μx q := e2
    rw [if_neg (by decide), t4] at e1
    rcases hz with ⟨hz, _⟩ | ⟨_, z0, y, hL, hy, hN⟩
    · omega
    · have hy : r2.toInt = (y : Int) := hy
      have hN : Nn7 z0 z y 3 (μm.1 0 93) := hN
      have hRz : Re7 q z0 (It ++ [p]) (Bk ++ [b]) cl v b a := re_lay hR hq e2 hL ⟨fun _ => by decide, fun _ => rfl⟩ (by decide) (by decide) (show (2 : Nat) ≤ 2 by decide) (fun u hu => by
        have hu : y1 = u := Option.some.inj hu
        rw [← hu]; exact va_lo h1) (fun u hu => by
        have hu : y2 = u := Option.some.inj hu
        rw [← hu]; exact va_lo h2) hp ho
      have hF : Fh7 z0 z := hN.2.2.2.2.2.2.2
      have hR2 := hRz.node (z := z) hF.2.2.1 (fun i k x1 x2 _ _ => hF.2.1 i k (by omega) (by omega))
      have hV : Va7 q z r y 1 0 := by rw [e1]; exact Nn7.leaf (m := 3) hN (Or.inr (Or.inr rfl))
      have hGz : Gl8 b μx μm It Bk cl q z (It ++ [p]) (Bk ++ [b]) cl := (gl_lay hR hq e2 hL (by decide) (by decide) hp ho).tr (Gl8.same ⟨fun _ => rfl, fun _ => rfl, ⟨hF.2.2.1 87 (by decide), hF.2.2.1 88 (by decide)⟩, fun i k x1 x2 => hF.2.1 i k (by omega) (by omega)⟩)
      refine ok r y q z r2 p o hp ho hR2 hGz hV hy e2.fx ((hL.fm hp ho).tr hF.fm) (fun k => ?_)
      obtain ⟨_, _, _, _, _, _, _, g8, _⟩ := hL
      exact ⟨by rw [hF.2.1 55 k (by decide) (by omega), g8 55 k (by decide) (by omega) (by omega)], by rw [hF.2.1 56 k (by decide) (by omega), g8 56 k (by decide) (by omega) (by omega)]⟩
end

section
theorem va_leaf {μx μm : Mem} {v : Int64} {x w d : Nat} (h : Va7 μx μm v x w d) (hs : μm.1 30 x ≠ 2) : Va7 μx μm v x 1 0 := by
  rcases (va_kind h).2 with ⟨m, hm, e, hs2, hw, hd, _⟩ | ⟨k, y, z, w1, w2, d1, d2, e, hk, hs2, _⟩
  · rw [hw, hd] at h; exact h
  · exact absurd hs2 hs
theorem pk2_of {α β : Type} {F : Option α} {g : Option β} {P : α → β → Prop} (h : ∀ q, F = some q → pk g (fun z => P q z)) : pk2 F g P := fun q z e e2 => h q e z e2
theorem gl_leaf {α : Type} {F : Option α} {a1 a2 m1 : Int32} {fu M c y : Nat} {μ : Mem} {P : α → Int32 × Mem → Prop} (h68 : μ.1 0 68 = 0) (hm1 : m1.toInt = ((M + 1 : Nat) : Int)) (ha2 : a2.toInt = (c : Int)) (h55 : (μ.1 55 M).toInt = (y : Int)) (hs : μ.1 30 y ≠ 2) (hK : ∀ f2 v5 v10, v5.toInt = ((M : Nat) : Int) → v10.toInt = ((c + 1 : Nat) : Int) → pk2 F (p_X12_lift_b11 f2 a1 v10 v5 (sF μ 56 c (μ.1 55 M))) P) : pk2 F (p_X12_lift_b11 fu a1 a2 m1 μ) P := by
  have e0 : (0 : Int32).toInt = 0 := by decide
  have e1 : (1 : Int32).toInt = 1 := by decide
  have em1 : (-1 : Int32).toInt = -1 := by decide
  have hi := ti_hi m1
  refine pk2_of (fun q eq => ?_)
  cases fu with
  | zero => intro z e; rw [p_X12_lift_b11_z] at e; cases e
  | succ fu =>
    have tv5 : (m1 + (-1)).toInt = (M : Int) := by rw [ti_add (by omega) (by omega), hm1, em1]; omega
    rw [p_X12_lift_b11_s, if_neg (by rw [ti_le, e0, hm1]; omega), if_pos h68]
    refine pk_bvy (fun v5 q5 => pk_gd (fun _ => pk_bvy (fun v6 q6 => ?_)))
    have h5 : v5.toInt = (M : Int) := by rw [q5]; exact tv5
    rw [tn_of h5] at q6
    have h6 : v6.toInt = (y : Int) := by rw [q6]; exact h55
    rw [if_pos (by rw [ti_le, e0, h6]; omega), tn_of h6, if_neg hs, tn_of ha2, q6]
    refine pk_gd (fun _ => pk_gd (fun g3 => pk_bvy (fun μ9 m9 => pk_bvy (fun v10 q10 => ?_))))
    have hb := (inb_iff.mp g3).2
    rw [p_X12_lift_b136_eq, m9]
    exact fun z e => hK fu v5 v10 h5 (by rw [q10, ti_add (by omega) (by omega), ha2, e1]; omega) q z eq e
theorem gl_pair {α : Type} {F : Option α} {a1 a2 m1 : Int32} {fu M y : Nat} {μ : Mem} {P : α → Int32 × Mem → Prop} (h68 : μ.1 0 68 = 0) (hm1 : m1.toInt = ((M + 1 : Nat) : Int)) (h55 : (μ.1 55 M).toInt = (y : Int)) (hs : μ.1 30 y = 2) (hK : ∀ f2 v14, v14.toInt = ((M + 3 : Nat) : Int) → M + 2 < 200 → pk2 F (p_X12_lift_b11 f2 a1 a2 v14 (sF (sF (sF μ 55 M (-1)) 55 (M + 1) (μ.1 32 y)) 55 (M + 2) (μ.1 31 y))) P) : pk2 F (p_X12_lift_b11 fu a1 a2 m1 μ) P := by
  have e0 : (0 : Int32).toInt = 0 := by decide
  have e1 : (1 : Int32).toInt = 1 := by decide
  have e2 : (2 : Int32).toInt = 2 := by decide
  have e3 : (3 : Int32).toInt = 3 := by decide
  have em1 : (-1 : Int32).toInt = -1 := by decide
  have hi := ti_hi m1
  refine pk2_of (fun q eq => ?_)
  cases fu with
  | zero => intro z e; rw [p_X12_lift_b11_z] at e; cases e
  | succ fu =>
    have tv5 : (m1 + (-1)).toInt = (M : Int) := by rw [ti_add (by omega) (by omega), hm1, em1]; omega
    rw [p_X12_lift_b11_s, if_neg (by rw [ti_le, e0, hm1]; omega), if_pos h68]
    refine pk_bvy (fun v5 q5 => pk_gd (fun _ => pk_bvy (fun v6 q6 => ?_)))
    have h5 : v5.toInt = (M : Int) := by rw [q5]; exact tv5
    rw [tn_of h5] at q6
    have h6 : v6.toInt = (y : Int) := by rw [q6]; exact h55
    rw [if_pos (by rw [ti_le, e0, h6]; omega), tn_of h6, if_pos hs, tn_of h5]
    refine pk_gd (fun _ => pk_gd (fun _ => pk_bvy (fun μ11 m11 => pk_gd (fun _ => pk_gd (fun g1 => ?_)))))
    have b1 := (inb_iff.mp g1).2
    have l1 : v5.toInt + 1 < 2147483648 := by
      rcases Nat.lt_or_ge (M + 1) 2147483648 with e | e <;> omega
    have t1 : (v5 + 1).toInt = ((M + 1 : Nat) : Int) := by rw [ti_add (by omega) (by omega), h5, e1]; omega
    rw [tn_of t1]
    refine pk_bvy (fun μ12 m12 => pk_gd (fun _ => pk_gd (fun g2 => ?_)))
    have t2 : (v5 + 2).toInt = ((M + 2 : Nat) : Int) := by rw [ti_add (by omega) (by omega), h5, e2]; omega
    have b2 := (inb_iff.mp g2).2
    rw [tn_of t2]
    refine pk_bvy (fun μ13 m13 => pk_bvy (fun v14 q14 => ?_))
    rw [p_X12_lift_b136_eq]
    have hz : μ13 = sF (sF (sF μ 55 M (-1)) 55 (M + 1) (μ.1 32 y)) 55 (M + 2) (μ.1 31 y) := by
      rw [m13, m12, m11, sF_i (by decide), sF_i (by decide), sF_i (by decide)]
    rw [hz]
    exact fun z e => hK fu v14 (by rw [q14, ti_add (by omega) (by omega), h5, e3]; omega) (by omega) q z eq e
theorem gl_join {α : Type} {F : Option α} {a1 a2 m1 : Int32} {fu M c : Nat} {μ : Mem} {P : α → Int32 × Mem → Prop} (h68 : μ.1 0 68 = 0) (hm1 : m1.toInt = ((M + 1 : Nat) : Int)) (ha2 : a2.toInt = ((c + 2 : Nat) : Int)) (h55 : μ.1 55 M = -1) (hK : ∀ f2 v5 v15, v5.toInt = ((M : Nat) : Int) → v15.toInt = ((c : Nat) : Int) → pk2 F (bd (p_X12_liftPair (μ.1 56 c) (μ.1 56 (c + 1)) μ) (fun r17 μ16 => p_X12_lift_b11 f2 a1 (v15 + 1) v5 (sF μ16 56 c r17))) P) : pk2 F (p_X12_lift_b11 fu a1 a2 m1 μ) P := by
  have e0 : (0 : Int32).toInt = 0 := by decide
  have e1 : (1 : Int32).toInt = 1 := by decide
  have em1 : (-1 : Int32).toInt = -1 := by decide
  have em2 : (-2 : Int32).toInt = -2 := by decide
  have hi := ti_hi m1
  have hi2 := ti_hi a2
  refine pk2_of (fun q eq => ?_)
  cases fu with
  | zero => intro z e; rw [p_X12_lift_b11_z] at e; cases e
  | succ fu =>
    have tv5 : (m1 + (-1)).toInt = (M : Int) := by rw [ti_add (by omega) (by omega), hm1, em1]; omega
    rw [p_X12_lift_b11_s, if_neg (by rw [ti_le, e0, hm1]; omega), if_pos h68]
    refine pk_bvy (fun v5 q5 => pk_gd (fun _ => pk_bvy (fun v6 q6 => ?_)))
    have h5 : v5.toInt = (M : Int) := by rw [q5]; exact tv5
    rw [tn_of h5, h55] at q6
    rw [if_neg (by rw [q6]; decide)]
    refine pk_bvy (fun v15 q15 => ?_)
    have h15 : v15.toInt = (c : Int) := by rw [q15, ti_add (by omega) (by omega), ha2, em2]; omega
    have t1 : (v15 + 1).toInt = ((c + 1 : Nat) : Int) := by rw [ti_add (by omega) (by omega), h15, e1]; omega
    rw [tn_of h15, tn_of t1]
    refine pk_gd (fun _ => pk_gd (fun _ => ?_))
    have := hK fu v5 v15 h5 h15 q
    intro z e
    refine this z eq ?_
    cases hf : p_X12_liftPair (μ.1 56 c) (μ.1 56 (c + 1)) μ with
    | none => rw [hf] at e; cases e
    | some r =>
      obtain ⟨r17, μ16⟩ := r
      rw [hf] at e
      cases hg : inb v15 200 with
      | false =>
        have e : gd (inb v15 200) (p_X12_lift_b136 (p_X12_lift_b11 fu) a1 (v15 + 1) v5 (sF μ16 56 c r17)) = some z := e
        rw [hg] at e; cases e
      | true =>
        have e : gd (inb v15 200) (p_X12_lift_b136 (p_X12_lift_b11 fu) a1 (v15 + 1) v5 (sF μ16 56 c r17)) = some z := e
        rw [hg] at e
        have e : p_X12_lift_b136 (p_X12_lift_b11 fu) a1 (v15 + 1) v5 (sF μ16 56 c r17) = some z := e
        rw [p_X12_lift_b136_eq] at e
        exact e
end

section
theorem tn_mono {x y : Int32} (h : x.toInt ≤ y.toInt) : x.toNatClampNeg ≤ y.toNatClampNeg := by
  show x.toInt.toNat ≤ y.toInt.toNat; omega
theorem Fm7.put55 {p o k : Nat} {μ : Mem} (i : Nat) (hi : i = 55 ∨ i = 56) (v : Int32) : Fm7 p o μ (sF μ i k v) := by
  refine ⟨rfl, fun l _ _ _ _ _ => by rw [sF_i (by omega)], fun j l a b c d e f => by rw [sF_i (by omega)], gh_same (by rw [sF_i (by omega)]) (fun j l a b => by rw [sF_i (by omega)]), by rw [sF_i (by omega)]; omega, by rw [sF_i (by omega)]; omega⟩
theorem Re7.put {μx μm : Mem} {It Bk : List Nat} {cl : Nat → Prop} {v b a k : Nat} (h : Re7 μx μm It Bk cl v b a) (i : Nat) (hi : i = 55 ∨ i = 56) (x : Int32) : Re7 μx (sF μm i k x) It Bk cl v b a := h.node (fun l _ => by rw [sF_i (by omega)]) (fun j l _ _ e f => by rw [sF_i (by omega)])
theorem lift7 {α : Type} {cl : Nat → Prop} {v b a : Nat} {a1 : Int32} {Post : α → Int32 × Mem → Prop} : ∀ (d : Nat) (x : Int64) (y w : Nat) (It Bk : List Nat) (μx μm : Mem) (n j : Nat) (a3 a2 m1 : Int32) (M c fu : Nat) (KX : Int64 → Mem → Option α), Va7 μx μm x y w d → Re7 μx μm It Bk cl v b a → a3.toInt = (j : Int) → j + d ≤ 40 → d < n → (μm.1 55 M).toInt = (y : Int) → a2.toInt = (c : Int) → m1.toInt = ((M + 1 : Nat) : Int) → (∀ x' y' q z It' Bk' fu' (m2 a2' : Int32), Re7 q z It' Bk' cl v b a → Gl8 b μx μm It Bk cl q z It' Bk' cl → Va7 q z x' y' 1 0 → (z.1 56 c).toInt = ((y' : Nat) : Int) → (∀ k, k < M → z.1 55 k = μm.1 55 k) → (∀ k, k < c → z.1 56 k = μm.1 56 k) → Fx7 v μx q → Fm7 (μm.1 0 87).toNatClampNeg (μm.1 0 88).toNatClampNeg μm z → m2.toInt = (M : Int) → a2'.toInt = ((c + 1 : Nat) : Int) → pk2 (KX x' q) (p_X12_lift_b11 fu' a1 a2' m2 z) Post) → (∀ x' q z fu' (m2 a2' : Int32), q.1 137 6 = -2 → z.1 0 68 = -2 → q.2.2 = μx.2.2 → pk2 (KX x' q) (p_X12_lift_b11 fu' a1 a2' m2 z) Post) → pk2 (bd (pr_X10_lift n x a3 μx) KX) (p_X12_lift_b11 fu a1 a2 m1 μm) Post := by
  have e1 : (1 : Int32).toInt = 1 := by decide
  have e40 : (40 : Int32).toInt = 40 := by decide
  intro d
  induction d using Nat.strongRecOn with
  | _ d ih =>
    intro x y w It Bk μx μm n j a3 a2 m1 M c fu KX hv hR hj hjd hn h55 ha2 hm1 ok bad
    obtain ⟨n, rfl⟩ : ∃ k, n = k + 1 := ⟨n - 1, by omega⟩
    have h68 : μm.1 0 68 = 0 := hR.2.2.2.2.2.1.1
    have h6 : μx.1 137 6 = 0 := hR.2.2.2.1.1
    have hy := (va_kind hv).1
    by_cases hs : μm.1 30 y = 2
    · refine gl_pair h68 hm1 h55 hs (fun f2 v14 h14 hM2 => ?_)
      generalize hz1 : sF (sF (sF μm 55 M (-1)) 55 (M + 1) (μm.1 32 y)) 55 (M + 2) (μm.1 31 y) = z1
      have R1 : Re7 μx z1 It Bk cl v b a := by rw [← hz1]; exact ((hR.put 55 (Or.inl rfl) _).put 55 (Or.inl rfl) _).put 55 (Or.inl rfl) _
      have F1 : Fm7 (μm.1 0 87).toNatClampNeg (μm.1 0 88).toNatClampNeg μm z1 := by rw [← hz1]; exact ((Fm7.put55 55 (Or.inl rfl) _).tr (Fm7.put55 55 (Or.inl rfl) _)).tr (Fm7.put55 55 (Or.inl rfl) _)
      have G1 : Gl8 b μx μm It Bk cl μx z1 It Bk cl := Gl8.same ⟨fun _ => rfl, fun _ => rfl, ⟨by rw [← hz1, sF_i (by decide), sF_i (by decide), sF_i (by decide)], by rw [← hz1, sF_i (by decide), sF_i (by decide), sF_i (by decide)]⟩, fun i k x1 x2 => by rw [← hz1, sF_i (by omega), sF_i (by omega), sF_i (by omega)]⟩
      have c55 : ∀ k, z1.1 55 k = if k = M + 2 then μm.1 31 y else if k = M + 1 then μm.1 32 y else if k = M then -1 else μm.1 55 k := by
        intro k
        rw [← hz1, sF_at, sF_at, sF_at]
        simp
      have c56 : ∀ k, z1.1 56 k = μm.1 56 k := fun k => by rw [← hz1, sF_i (by decide), sF_i (by decide), sF_i (by decide)]
      have z87 : z1.1 0 87 = μm.1 0 87 := by rw [← hz1, sF_i (by decide), sF_i (by decide), sF_i (by decide)]
      have z88 : z1.1 0 88 = μm.1 0 88 := by rw [← hz1, sF_i (by decide), sF_i (by decide), sF_i (by decide)]
      rw [pr_X10_lift_s, p_X10_lift_eq, bd_bd]
      refine pk2_bdl (c_isPair hv) ?_
      rintro r2 μ1 ⟨e, hz, _⟩
      have e : μ1 = μx := e
      subst e
      have hz : r2 = 0 ↔ μm.1 30 y ≠ 2 := hz
      have hd1 : 1 ≤ d := by
        rcases (va_kind hv).2 with ⟨m, hm, e, hs2, _⟩ | ⟨k, y1, z1, w1, w2, d1, d2, e, hk, _, _, _, _, hd, _⟩
        · rw [hs2] at hs; exact absurd hs (by rcases hm with e | e | e <;> subst e <;> decide)
        · omega
      rw [if_neg (fun e => (hz.mp e) hs), if_neg (show ¬ (40 : Int32) < a3 by rw [ti_lt, e40, hj]; omega), if_pos h6, bd_bd]
      refine pk2_bdl (c_first hv) ?_
      rintro r7 μ6 ⟨e, hf⟩
      have e : μ6 = μ1 := e
      subst e
      rcases hf with ⟨hn2, _⟩ | ⟨y1, w1, d1, _, hy1, hV1, _, hd1'⟩
      · exact absurd hs hn2
      have hV1 : Va7 μ6 μm r7 y1 w1 d1 := hV1
      rw [bd_bd]
      refine ih d1 (by omega) r7 y1 w1 It Bk μ6 z1 n (j + 1) _ a2 v14 (M + 2) c f2 _ (hV1.gr Gs7.rf F1.2.2.2.1) R1 (by rw [ti_add (by omega) (by omega), hj, e1]; omega) (by omega) (by omega) (by rw [c55, if_pos rfl]; exact hy1) ha2 h14 ?_ ?_
      · intro x1 u1 q z It1 Bk1 f3 m2 a2' hR1 hl1 hVx1 h56 k55 k56 fx fm hm2 ha2'
        show pk2 (bd (bd (p_X8_secondOf x q) _) KX) _ Post
        rw [bd_bd]
        have hv' : Va7 q z x y w d := (hv.gr Gs7.rf F1.2.2.2.1).gr fx.gs fm.2.2.2.1
        have gh : Gh7 μm z := F1.2.2.2.1.tr fm.2.2.2.1
        obtain ⟨b30, _, b32, _, _⟩ := gh.2 y hy
        refine pk2_bdl (c_second hv') ?_
        rintro r11 μ10 ⟨e, hf⟩
        have e : μ10 = q := e
        subst e
        rcases hf with ⟨hn2, _⟩ | ⟨y2, w2, d2, _, hy2, hV2, _, hd2⟩
        · exact absurd (b30.trans hs) hn2
        have hV2 : Va7 μ10 z r11 y2 w2 d2 := hV2
        rw [bd_bd]
        rw [z87, z88] at fm
        have FM := F1.tr fm
        refine ih d2 (by omega) r11 y2 w2 It1 Bk1 μ10 z n (j + 1) _ a2' m2 (M + 1) (c + 1) f3 _ hV2 hR1 (by rw [ti_add (by omega) (by omega), hj, e1]; omega) (by omega) (by omega) (by rw [k55 _ (by omega), c55, if_neg (by omega), if_pos rfl, ← b32]; exact hy2) ha2' hm2 ?_ ?_
        · intro x2 u2 q2 z2 It2 Bk2 f4 m3 a2'' hR2 hl2 hVx2 h56b k55b k56b fx2 fm2 hm3 ha2''
          show pk2 (bd (bd (p_X10_leave 10 0 x1 x2 q2) _) KX) _ Post
          have fm2' : Fm7 (μm.1 0 87).toNatClampNeg (μm.1 0 88).toNatClampNeg z z2 := fm2.le (tn_mono FM.2.2.2.2.1) (tn_mono FM.2.2.2.2.2)
          have FM2 := FM.tr fm2'
          refine gl_join (c := c) hR2.2.2.2.2.2.1.1 hm3 ha2'' (by rw [k55b _ (by omega), k55 _ (by omega), c55, if_neg (by omega), if_neg (by omega), if_pos rfl]) (fun f5 v5 v15 h5 h15 => ?_)
          rw [bd_bd]
          refine lift_one hR2 (hVx1.gr fx2.gs fm2.2.2.2.1) hVx2 (by rw [k56b c (by omega)]; exact h56) h56b ?_ ?_
          · intro x' y' q3 z3 r p o hp ho hR3 hG3 hV3 hr fx3 fm3 hk
            show pk2 (KX x' q3) (p_X12_lift_b11 f5 a1 (v15 + 1) v5 (sF z3 56 c r)) Post
            have fm3' : Fm7 (μm.1 0 87).toNatClampNeg (μm.1 0 88).toNatClampNeg z2 z3 := by
              have a1' := tn_mono FM2.2.2.2.2.1
              have a2' := tn_mono FM2.2.2.2.2.2
              rw [tn_of hp] at a1'
              rw [tn_of ho] at a2'
              exact fm3.le a1' a2'
            have h15' : (v15 + 1).toInt = ((c + 1 : Nat) : Int) := by
              have := ti_hi a2''
              rw [ti_add (by omega) (by omega), h15, e1]; omega
            refine ok x' y' q3 (sF z3 56 c r) (It2 ++ [p]) (Bk2 ++ [b]) f5 v5 (v15 + 1) (hR3.put 56 (Or.inr rfl) _) ((((G1.tr hl1).tr hl2).tr hG3).tr (Gl8.same ⟨fun _ => rfl, fun _ => rfl, ⟨by rw [sF_i (by decide)], by rw [sF_i (by decide)]⟩, fun i k x1 x2 => by rw [sF_i (by omega)]⟩)) (hV3.gr Gs7.rf (Fm7.put55 (p := 0) (o := 0) 56 (Or.inr rfl) r).2.2.2.1) (by rw [sF_v]; exact hr) (fun k hk2 => ?_) (fun k hk2 => ?_) (fx.tr (fx2.tr fx3)) ((FM2.tr fm3').tr (Fm7.put55 56 (Or.inr rfl) _)) h5 h15'
            · rw [sF_i (by decide), (hk k).1, k55b k (by omega), k55 k (by omega), c55, if_neg (by omega), if_neg (by omega), if_neg (by omega)]
            · rw [sF_k (by omega), (hk k).2, k56b k (by omega), k56 k hk2, c56]
          · intro x' q3 z3 r hb hz3 hs3
            show pk2 (KX x' q3) (p_X12_lift_b11 f5 a1 (v15 + 1) v5 (sF z3 56 c r)) Post
            exact bad x' q3 _ f5 v5 (v15 + 1) hb (by rw [sF_i (by decide)]; exact hz3) (hs3.trans (fx2.1.trans fx.1))
        · intro x2 q2 z2 f4 m3 a2'' hb hz2 hs2
          show pk2 (bd (bd (p_X10_leave 10 0 x1 x2 q2) _) KX) _ Post
          rw [bd_bd]
          refine pk2_bdl (c_leave_bad (by rw [hb]; decide)) ?_
          rintro r15 μ14 e
          have e : μ14 = q2 := e
          subst e
          exact bad r15 μ14 z2 f4 m3 a2'' hb hz2 (hs2.trans fx.1)
      · intro x1 q z f3 m2 a2' hb hz2 hs1
        have hne : q.1 137 6 ≠ 0 := by rw [hb]; decide
        show pk2 (bd (bd (p_X8_secondOf x q) _) KX) _ Post
        rw [bd_bd]
        refine pk2_bdl (c_second_mem x q) ?_
        rintro r11 μ10 e
        have e : μ10 = q := e
        subst e
        rw [bd_bd]
        refine pk2_bdl (c_lift_bad hne n r11 _) ?_
        rintro r13 μ12 e
        have e : μ12 = μ10 := e
        subst e
        rw [bd_bd]
        refine pk2_bdl (c_leave_bad hne) ?_
        rintro r15 μ14 e
        have e : μ14 = μ12 := e
        subst e
        exact bad r15 μ14 z f3 m2 a2' hb hz2 hs1
    · refine gl_leaf h68 hm1 ha2 h55 hs (fun f2 v5 v10 h5 h10 => ?_)
      rw [pr_X10_lift_s, p_X10_lift_eq, bd_bd]
      refine pk2_bdl (c_isPair hv) ?_
      rintro r2 μ1 ⟨e, hz, _⟩
      have e : μ1 = μx := e
      subst e
      have hz : r2 = 0 ↔ μm.1 30 y ≠ 2 := hz
      rw [if_pos (hz.mpr hs)]
      show pk2 (KX x μ1) _ Post
      refine ok x y μ1 (sF μm 56 c (μm.1 55 M)) It Bk f2 v5 v10 (hR.put 56 (Or.inr rfl) _) (Gl8.same ⟨fun _ => rfl, fun _ => rfl, ⟨by rw [sF_i (by decide)], by rw [sF_i (by decide)]⟩, fun i k x1 x2 => by rw [sF_i (by omega)]⟩) ((va_leaf hv hs).gr Gs7.rf (Fm7.put55 (p := 0) (o := 0) 56 (Or.inr rfl) _).2.2.2.1) (by rw [sF_v]; exact h55) (fun k _ => by rw [sF_i (by decide)]) (fun k hk => by rw [sF_k (by omega)]) Fx7.rf (Fm7.put55 56 (Or.inr rfl) _) h5 h10
end

section
def Bb7 (μ : Mem) (Bk : List Nat) : Prop := ∀ x, x ∈ Bk → (x : Int) < (μ.1 39 6).toInt
def Nb7 (B : Nat) (μ q : Mem) : Prop := q.2.2 = μ.2.2 ∧ (q.1 39 6).toInt = ((B + 1 : Nat) : Int) ∧ (∀ k, k ≠ 6 → q.1 39 k = μ.1 39 k) ∧ (∀ k, q.1 42 k = if k = B then -1 else μ.1 42 k) ∧ (∀ k, q.1 43 k = if k = B then -1 else μ.1 43 k) ∧ (∀ i k, q.2.1 i k = if i = 44 ∧ k = B then 0 else μ.2.1 i k) ∧ ∀ i k, i ≠ 39 → i ≠ 42 → i ≠ 43 → q.1 i k = μ.1 i k
theorem c_addBlock {μ : Mem} {B : Nat} (hB : (μ.1 39 6).toInt = (B : Int)) (hb : B < 672) : pk (p_X5_addBlock μ) (fun r => r.1 = nI B ∧ Nb7 B μ r.2) := by
  have e1 : (1 : Int32).toInt = 1 := by decide
  have e672 : (672 : Int32).toInt = 672 := by decide
  have tB := tn_of hB
  rw [p_X5_addBlock_eq, if_pos (by rw [ti_lt, e672]; omega)]
  refine pk_gd (fun _ => pk_bvy (fun μ2 m2 => pk_gd (fun _ => pk_bvy (fun μ3 m3 => pk_gd (fun _ => pk_bvy (fun μ4 m4 => pk_bvy (fun μ5 m5 => pk_some ?_)))))))
  have q2 : μ2.1 39 6 = μ.1 39 6 := by rw [m2, sF_i (by decide)]
  have q3 : μ3.1 39 6 = μ.1 39 6 := by rw [m3, sF_i (by decide), q2]
  have q4 : μ4.1 39 6 = μ.1 39 6 := by rw [m4]; exact q3
  rw [tB] at m2
  rw [q2, tB] at m3
  rw [q3, tB] at m4
  rw [q4] at m5
  have c6 : (μ5.1 39 6).toInt = ((B + 1 : Nat) : Int) := by rw [m5, sF_v, ti_add (by omega) (by omega), hB, e1]; omega
  have i4 : μ4.1 = μ3.1 := by rw [m4]; rfl
  refine ⟨?_, by rw [m5, m4, m3, m2]; rfl, c6, fun k hk => ?_, fun k => ?_, fun k => ?_, fun i k => ?_, fun i k a b c => ?_⟩
  · show μ5.1 39 6 - 1 = nI B
    refine ti_eq.mpr ?_
    rw [ti_sub (by omega) (by omega), c6, e1, ni_ti (by omega)]; omega
  · show μ5.1 39 k = _; rw [m5, sF_k hk, i4, m3, sF_i (by decide), m2, sF_i (by decide)]
  · show μ5.1 42 k = _
    rw [m5, sF_i (by decide), i4, m3, sF_i (by decide), m2, sF_at]
    by_cases e : k = B
    · rw [if_pos ⟨rfl, e⟩, if_pos e]
    · rw [if_neg (fun x => e x.2), if_neg e]
  · show μ5.1 43 k = _
    rw [m5, sF_i (by decide), i4, m3, sF_at, m2, sF_i (by decide)]
    by_cases e : k = B
    · rw [if_pos ⟨rfl, e⟩, if_pos e]
    · rw [if_neg (fun x => e x.2), if_neg e]
  · show μ5.2.1 i k = _
    rw [m5]; show μ4.2.1 i k = _
    rw [m4, sL_at, m3, m2]; rfl
  · show μ5.1 i k = _; rw [m5, sF_i a, i4, m3, sF_i c, m2, sF_i b]
theorem bl_none {Bk : List Nat} {B : Nat} (h : ∀ x, x ∈ Bk → x < B) : Bl7 Bk B = [] := by
  cases hL : Bl7 Bk B with
  | nil => rfl
  | cons i L =>
    have hi : i ∈ Bl7 Bk B := by rw [hL]; exact List.mem_cons_self
    have := h B (List.mem_of_getElem? (bl_lt hi).2)
    omega
theorem cn_new {μ q : Mem} {Bk : List Nat} {B : Nat} (hN : Nb7 B μ q) (hB : (μ.1 39 6).toInt = (B : Int)) (h : Cn7 μ Bk) (hb : Bb7 μ Bk) : Cn7 q Bk ∧ Bb7 q Bk := by
  obtain ⟨_, c6, _, c42, c43, _, co⟩ := hN
  refine ⟨fun b h2 => ?_, fun x hx => by have := hb x hx; omega⟩
  rw [c6] at h2
  by_cases e : b = B
  · subst e
    rw [bl_none (fun x hx => by have := hb x hx; omega)]
    exact ⟨fun _ => ⟨by rw [c42, if_pos rfl], by rw [c43, if_pos rfl]⟩, fun k i hi => by cases hi⟩
  · exact (h b (by omega)).cong (by rw [c42, if_neg e]) (by rw [c43, if_neg e]) (fun i _ => co 40 _ (by decide) (by decide) (by decide))
theorem c_endBlock {μ : Mem} {B : Nat} {a1 : Int32} (x : Int64) (h1 : a1.toInt = (B : Int)) (hB : (B : Int) < (μ.1 39 6).toInt) : pk (p_X5_endBlock a1 x μ) (fun q => q = sL μ 44 B x) := by
  have e0 : (0 : Int32).toInt = 0 := by decide
  rw [p_X5_endBlock_eq]
  refine pk_bd (P := fun r => r.1 = 1 ∧ r.2 = μ) ?_ ?_
  · rw [p_X5_isBlock_eq, if_neg (by rw [ti_lt, e0]; omega), if_neg (by rw [ti_le]; omega)]
    exact pk_some ⟨rfl, rfl⟩
  · rintro r2 μ1 ⟨e1, e2⟩
    have e1 : r2 = 1 := e1
    have e2 : μ1 = μ := e2
    subst e2
    rw [if_neg (by rw [e1]; decide), tn_of h1]
    exact pk_gd (fun _ => pk_bvy (fun μ4 m4 => pk_some m4))
theorem c_endOf {μ : Mem} {B : Nat} {a1 : Int32} (h1 : a1.toInt = (B : Int)) (hB : (B : Int) < (μ.1 39 6).toInt) : pk (p_X5_endOf a1 μ) (fun r => r.1 = μ.2.1 44 B ∧ r.2 = μ) := by
  have e0 : (0 : Int32).toInt = 0 := by decide
  rw [p_X5_endOf_eq]
  refine pk_bd (P := fun r => r.1 = 1 ∧ r.2 = μ) ?_ ?_
  · rw [p_X5_isBlock_eq, if_neg (by rw [ti_lt, e0]; omega), if_neg (by rw [ti_le]; omega)]
    exact pk_some ⟨rfl, rfl⟩
  · rintro r2 μ1 ⟨e1, e2⟩
    have e1 : r2 = 1 := e1
    have e2 : μ1 = μ := e2
    subst e2
    rw [if_neg (by rw [e1]; decide), tn_of h1]
    exact pk_gd (fun _ => pk_some ⟨rfl, rfl⟩)
end

section
theorem br_ix {μ : Mem} {n c : Nat} {a : Int32} (hn : (μ.1 137 12).toInt = ((n + 1 : Nat) : Int)) (hn2 : n < 260) (ha : a.toInt = (c : Int)) (hc : c < 3) : ((μ.1 137 12 - 1) * 3 + a).toNatClampNeg = 3 * n + c := by
  have e1 : (1 : Int32).toInt = 1 := by decide
  have e3 : (3 : Int32).toInt = 3 := by decide
  have s : (μ.1 137 12 - 1).toInt = (n : Int) := by rw [ti_sub (by omega) (by omega), hn, e1]; omega
  have m : ((μ.1 137 12 - 1) * 3).toInt = 3 * (n : Int) := by rw [ti_mulc e3 (by omega) (by omega), s]; omega
  exact tn_of (by rw [ti_add (by omega) (by omega), m, ha]; omega)
theorem c_setBranch {μ : Mem} {n c : Nat} {a : Int32} (x : Int32) (hn : (μ.1 137 12).toInt = ((n + 1 : Nat) : Int)) (hn2 : n < 260) (ha : a.toInt = (c : Int)) (hc : c < 3) : pk (p_X10_setBranch a x μ) (fun q => q = sF μ 138 (3 * n + c) x) := by
  have e1 : (1 : Int32).toInt = 1 := by decide
  rw [p_X10_setBranch_eq, if_neg (by rw [ti_lt, e1]; omega), br_ix hn hn2 ha hc]
  exact pk_gd (fun _ => pk_bvy (fun μ2 m2 => pk_some m2))
theorem c_branch {μ : Mem} {n c : Nat} {a : Int32} (hn : (μ.1 137 12).toInt = ((n + 1 : Nat) : Int)) (hn2 : n < 260) (ha : a.toInt = (c : Int)) (hc : c < 3) : pk (p_X10_branch a μ) (fun r => r.1 = μ.1 138 (3 * n + c) ∧ r.2 = μ) := by
  have e1 : (1 : Int32).toInt = 1 := by decide
  rw [p_X10_branch_eq, if_pos (by rw [ti_le, e1]; omega), br_ix hn hn2 ha hc]
  exact pk_gd (fun _ => pk_some ⟨rfl, rfl⟩)
theorem c_closeBranch {μ : Mem} {n : Nat} (hn : (μ.1 137 12).toInt = ((n + 1 : Nat) : Int)) : pk (p_X10_closeBranch μ) (fun q => q = sF μ 137 12 (μ.1 137 12 - 1)) := by
  have e0 : (0 : Int32).toInt = 0 := by decide
  have e1 : (1 : Int32).toInt = 1 := by decide
  have hi := ti_hi (μ.1 137 12)
  rw [p_X10_closeBranch_eq]
  refine pk_bvy (fun μ1 m1 => pk_some ?_)
  rw [m1]
  have : imax 0 (μ.1 137 12 - 1) = μ.1 137 12 - 1 := by
    unfold imax
    by_cases c : (0 : Int32) < μ.1 137 12 - 1
    · rw [if_pos c]
    · rw [if_neg c]
      rw [ti_lt, e0, ti_sub (by omega) (by omega), hn, e1] at c
      exact ti_eq.mpr (by rw [e0, ti_sub (by omega) (by omega), hn, e1]; omega)
  rw [this]
def Ob7 (n : Nat) (cond : Int64) (one : Int32) (μ q : Mem) : Prop := q.2.2 = μ.2.2 ∧ (q.1 137 12).toInt = ((n + 1 : Nat) : Int) ∧ (∀ k, k ≠ 12 → q.1 137 k = μ.1 137 k) ∧ (∀ k, q.1 138 k = if k = 3 * n + 2 then -1 else if k = 3 * n + 1 then one else if k = 3 * n then μ.1 137 8 else μ.1 138 k) ∧ (∀ i k, q.2.1 i k = if i = 139 ∧ k = n then cond else μ.2.1 i k) ∧ ∀ i k, i ≠ 137 → i ≠ 138 → q.1 i k = μ.1 i k
theorem c_openBranch {μ : Mem} {n : Nat} {cond : Int64} {one : Int32} (hn : (μ.1 137 12).toInt = (n : Int)) (hn2 : n < 260) : pk (p_X10_openBranch cond one μ) (fun q => Ob7 n cond one μ q) := by
  have e0 : (0 : Int32).toInt = ((0 : Nat) : Int) := by decide
  have e1 : (1 : Int32).toInt = 1 := by decide
  have e1' : (1 : Int32).toInt = ((1 : Nat) : Int) := by decide
  have e2 : (2 : Int32).toInt = ((2 : Nat) : Int) := by decide
  have e260 : (260 : Int32).toInt = 260 := by decide
  rw [p_X10_openBranch_eq, if_neg (by rw [ti_le, e260]; omega), tn_of hn]
  refine pk_gd (fun _ => pk_bvy (fun μ2 m2 => pk_bvy (fun μ3 m3 => ?_)))
  have i2 : μ2.1 = μ.1 := by rw [m2]; rfl
  rw [i2] at m3
  have c3 : (μ3.1 137 12).toInt = ((n + 1 : Nat) : Int) := by rw [m3, sF_v, ti_add (by omega) (by omega), hn, e1]; omega
  have c8 : μ3.1 137 8 = μ.1 137 8 := by rw [m3, sF_k (by decide), i2]
  refine pk_bw (c_setBranch (c := 0) _ c3 hn2 e0 (by decide)) (fun μ4 m4 => ?_)
  rw [c8] at m4
  have c4 : (μ4.1 137 12).toInt = ((n + 1 : Nat) : Int) := by rw [m4, sF_i (by decide)]; exact c3
  refine pk_bw (c_setBranch (c := 1) _ c4 hn2 e1' (by decide)) (fun μ6 m6 => ?_)
  have c6 : (μ6.1 137 12).toInt = ((n + 1 : Nat) : Int) := by rw [m6, sF_i (by decide)]; exact c4
  refine pk_bw (c_setBranch (c := 2) _ c6 hn2 e2 (by decide)) (fun μ8 m8 => pk_some ?_)
  have a : ∀ i k, μ8.1 i k = if i = 138 ∧ k = 3 * n + 2 then -1 else if i = 138 ∧ k = 3 * n + 1 then one else if i = 138 ∧ k = 3 * n + 0 then μ.1 137 8 else if i = 137 ∧ k = 12 then μ.1 137 12 + 1 else μ.1 i k := by
    intro i k
    rw [m8, sF_at, m6, sF_at, m4, sF_at, m3, sF_at, i2]
  refine ⟨by rw [m8, m6, m4, m3, m2]; rfl, by rw [m8, sF_i (by decide)]; exact c6, fun k hk => ?_, fun k => ?_, fun i k => ?_, fun i k x y => ?_⟩
  · rw [a, if_neg (by omega), if_neg (by omega), if_neg (by omega), if_neg (by omega)]
  · rw [a]
    by_cases h2 : k = 3 * n + 2
    · rw [if_pos ⟨rfl, h2⟩, if_pos h2]
    · rw [if_neg (fun x => h2 x.2), if_neg h2]
      by_cases h1 : k = 3 * n + 1
      · rw [if_pos ⟨rfl, h1⟩, if_pos h1]
      · rw [if_neg (fun x => h1 x.2), if_neg h1]
        by_cases h0 : k = 3 * n
        · rw [if_pos ⟨rfl, by omega⟩, if_pos h0]
        · rw [if_neg (fun x => h0 x.2), if_neg h0, if_neg (by omega)]
  · rw [m8, m6, m4, m3, m2]
    show (sL μ 139 n cond).2.1 i k = _
    rw [sL_at]
  · rw [a, if_neg (fun h => y h.1), if_neg (fun h => y h.1), if_neg (fun h => y h.1), if_neg (fun h => x h.1)]
end

section
def Wf9 : List Int64 → Nat → Prop
  | [], n => n = 0
  | t :: T, n => 0 < n ∧ Wf9 T (if t = 8589934592 then n + 1 else n - 1)
def bh9 : List Int64 → Nat → Nat
  | [], _ => 0
  | t :: T, n => if n = 0 then 0 else 1 + bh9 T (if t = 8589934592 then n + 1 else n - 1)
theorem bh9_0 : ∀ (T : List Int64), bh9 T 0 = 0 := by
  intro T
  cases T with
  | nil => rfl
  | cons t T => show (if (0 : Nat) = 0 then 0 else _) = 0; rw [if_pos rfl]
theorem bh9_le : ∀ {T : List Int64} {n : Nat}, bh9 T n ≤ T.length := by
  intro T
  induction T with
  | nil => intro n; exact Nat.le_refl _
  | cons t T ih =>
    intro n
    show (if n = 0 then 0 else 1 + bh9 T _) ≤ T.length + 1
    by_cases h : n = 0
    · rw [if_pos h]; omega
    · rw [if_neg h]
      have := ih (n := if t = 8589934592 then n + 1 else n - 1)
      omega
theorem wf9_cut : ∀ {T : List Int64} {n m : Nat}, Wf9 T (n + m) → Wf9 (T.take (bh9 T n)) n ∧ Wf9 (T.drop (bh9 T n)) m := by
  intro T
  induction T with
  | nil =>
    intro n m h
    have h : n + m = 0 := h
    have e1 : n = 0 := by omega
    have e2 : m = 0 := by omega
    subst e1; subst e2
    exact ⟨rfl, rfl⟩
  | cons t T ih =>
    intro n m h
    by_cases h0 : n = 0
    · subst h0
      rw [bh9_0]
      refine ⟨rfl, ?_⟩
      rw [Nat.zero_add] at h
      exact h
    · have e : bh9 (t :: T) n = bh9 T (if t = 8589934592 then n + 1 else n - 1) + 1 := by
        show (if n = 0 then 0 else 1 + bh9 T _) = _
        rw [if_neg h0]; omega
      rw [e, List.take_succ_cons, List.drop_succ_cons]
      have h2 := h.2
      by_cases ht : t = 8589934592
      · rw [if_pos ht] at h2 ⊢
        obtain ⟨a, b⟩ := ih (n := n + 1) (m := m) (by rw [show n + 1 + m = n + m + 1 by omega]; exact h2)
        exact ⟨⟨by omega, by rw [if_pos ht]; exact a⟩, b⟩
      · rw [if_neg ht] at h2 ⊢
        obtain ⟨a, b⟩ := ih (n := n - 1) (m := m) (by rw [show n - 1 + m = n + m - 1 by omega]; exact h2)
        exact ⟨⟨by omega, by rw [if_neg ht]; exact a⟩, b⟩
theorem wf9_app : ∀ {T S : List Int64} {n m : Nat}, Wf9 T n → Wf9 S m → Wf9 (T ++ S) (n + m) := by
  intro T
  induction T with
  | nil =>
    intro S n m h h2
    have h : n = 0 := h
    subst h
    rw [Nat.zero_add]; exact h2
  | cons t T ih =>
    intro S n m h h2
    obtain ⟨h0, h1⟩ := h
    refine ⟨by omega, ?_⟩
    by_cases ht : t = 8589934592
    · rw [if_pos ht] at h1 ⊢
      rw [show n + m + 1 = (n + 1) + m by omega]
      exact ih h1 h2
    · rw [if_neg ht] at h1 ⊢
      rw [show n + m - 1 = (n - 1) + m by omega]
      exact ih h1 h2
theorem wf9_1 {t : Int64} (h : t ≠ 8589934592) : Wf9 [t] 1 := ⟨by omega, by rw [if_neg h]; rfl⟩
theorem bh9_pos {t : Int64} {T : List Int64} {n : Nat} (h : 0 < n) : 1 ≤ bh9 (t :: T) n := by
  show 1 ≤ (if n = 0 then 0 else 1 + bh9 T _)
  rw [if_neg (by omega)]; omega
theorem st_ne : (17179869184 : Int64) ≠ 8589934592 := by decide
abbrev Rw9 := List (Int64 × Int64 × Nat)
def tks (R : Rw9) : List Int64 := R.map (fun p => p.1)
theorem tks_len {R : Rw9} : (tks R).length = R.length := List.length_map _
theorem tks_take {R : Rw9} {k : Nat} : tks (R.take k) = (tks R).take k := List.map_take
theorem tks_drop {R : Rw9} {k : Nat} : tks (R.drop k) = (tks R).drop k := List.map_drop
theorem tks_app {R S : Rw9} : tks (R ++ S) = tks R ++ tks S := List.map_append
noncomputable def gn9 (p t : Int64) : Bool := decide (s_X2_isGrown p t ≠ 0)
noncomputable def grw : Nat → Rw9 → List Int64 → Rw9 × Nat
  | 0, _, _ => ([], 0)
  | _ + 1, [], _ => ([], 0)
  | _ + 1, _ :: _, [] => ([], 0)
  | f + 1, p :: R, t :: Y =>
    if p.1 = 8589934592 ∧ t = 8589934592 then (p :: (grw f R Y).1, (grw f R Y).2)
    else if gn9 p.1 t = true then ((17179869184, p.2) :: (grw f ((p :: R).drop (bh9 (tks (p :: R)) 1)) ((t :: Y).drop (bh9 (t :: Y) 1))).1, (grw f ((p :: R).drop (bh9 (tks (p :: R)) 1)) ((t :: Y).drop (bh9 (t :: Y) 1))).2 + 1)
    else ((p :: R).take (bh9 (tks (p :: R)) 1) ++ (grw f ((p :: R).drop (bh9 (tks (p :: R)) 1)) ((t :: Y).drop (bh9 (t :: Y) 1))).1, (grw f ((p :: R).drop (bh9 (tks (p :: R)) 1)) ((t :: Y).drop (bh9 (t :: Y) 1))).2)
theorem grw_pp {f : Nat} {p : Int64 × Int64 × Nat} {R : Rw9} {t : Int64} {Y : List Int64} (h : p.1 = 8589934592 ∧ t = 8589934592) : grw (f + 1) (p :: R) (t :: Y) = (p :: (grw f R Y).1, (grw f R Y).2) := by
  rw [grw, if_pos h]
theorem grw_gn {f : Nat} {p : Int64 × Int64 × Nat} {R : Rw9} {t : Int64} {Y : List Int64} (h : ¬ (p.1 = 8589934592 ∧ t = 8589934592)) (h2 : gn9 p.1 t = true) : grw (f + 1) (p :: R) (t :: Y) = ((17179869184, p.2) :: (grw f ((p :: R).drop (bh9 (tks (p :: R)) 1)) ((t :: Y).drop (bh9 (t :: Y) 1))).1, (grw f ((p :: R).drop (bh9 (tks (p :: R)) 1)) ((t :: Y).drop (bh9 (t :: Y) 1))).2 + 1) := by
  rw [grw, if_neg h, if_pos h2]
theorem grw_no {f : Nat} {p : Int64 × Int64 × Nat} {R : Rw9} {t : Int64} {Y : List Int64} (h : ¬ (p.1 = 8589934592 ∧ t = 8589934592)) (h2 : ¬ gn9 p.1 t = true) : grw (f + 1) (p :: R) (t :: Y) = ((p :: R).take (bh9 (tks (p :: R)) 1) ++ (grw f ((p :: R).drop (bh9 (tks (p :: R)) 1)) ((t :: Y).drop (bh9 (t :: Y) 1))).1, (grw f ((p :: R).drop (bh9 (tks (p :: R)) 1)) ((t :: Y).drop (bh9 (t :: Y) 1))).2) := by
  rw [grw, if_neg h, if_neg h2]
theorem grw_nil {f : Nat} {Y : List Int64} : grw f [] Y = ([], 0) := by
  cases f with
  | zero => rfl
  | succ f => rfl
def hds : Nat → Rw9 → List (Int64 × Nat)
  | 0, _ => []
  | _ + 1, [] => []
  | n + 1, p :: R => p.2 :: hds n ((p :: R).drop (bh9 (tks (p :: R)) 1))
theorem wf9_pos {t : Int64} {T : List Int64} {n : Nat} (h : Wf9 (t :: T) n) : 0 < n := h.1
theorem wf9_fst {p : Int64 × Int64 × Nat} {R : Rw9} {n : Nat} (h : Wf9 (tks (p :: R)) n) : 1 ≤ bh9 (tks (p :: R)) 1 ∧ bh9 (tks (p :: R)) 1 ≤ R.length + 1 ∧ Wf9 (tks ((p :: R).take (bh9 (tks (p :: R)) 1))) 1 ∧ Wf9 (tks ((p :: R).drop (bh9 (tks (p :: R)) 1))) (n - 1) := by
  have h0 := wf9_pos h
  have e : n = 1 + (n - 1) := by omega
  rw [e] at h
  obtain ⟨a, b⟩ := wf9_cut h
  refine ⟨bh9_pos (by omega), ?_, by rw [tks_take]; exact a, by rw [tks_drop]; exact b⟩
  have := bh9_le (T := tks (p :: R)) (n := 1)
  rw [tks_len] at this
  exact this
theorem wf9_fsl {t : Int64} {Y : List Int64} {n : Nat} (h : Wf9 (t :: Y) n) : 1 ≤ bh9 (t :: Y) 1 ∧ bh9 (t :: Y) 1 ≤ Y.length + 1 ∧ Wf9 ((t :: Y).drop (bh9 (t :: Y) 1)) (n - 1) := by
  have h0 := wf9_pos h
  have e : n = 1 + (n - 1) := by omega
  rw [e] at h
  obtain ⟨a, b⟩ := wf9_cut h
  refine ⟨bh9_pos (by omega), bh9_le, b⟩
theorem grw_wf : ∀ (f : Nat) {R : Rw9} {Y : List Int64} {n : Nat}, R.length ≤ f → Wf9 (tks R) n → Wf9 Y n → Wf9 (tks (grw f R Y).1) n ∧ (grw f R Y).1.length ≤ R.length := by
  intro f
  induction f with
  | zero =>
    intro R Y n hl h1 h2
    have : R = [] := List.length_eq_zero_iff.mp (by omega)
    subst this
    exact ⟨h1, Nat.le_refl _⟩
  | succ f ih =>
    intro R Y n hl h1 h2
    cases R with
    | nil => rw [grw_nil]; exact ⟨h1, Nat.le_refl _⟩
    | cons p R =>
      cases Y with
      | nil => have h2 : n = 0 := h2; exact absurd (wf9_pos h1) (by omega)
      | cons t Y =>
        have hl : R.length + 1 ≤ f + 1 := hl
        obtain ⟨c1, c2, c3, c4⟩ := wf9_fst h1
        obtain ⟨d1, d2, d3⟩ := wf9_fsl h2
        have hn := wf9_pos h1
        have hdl : ((p :: R).drop (bh9 (tks (p :: R)) 1)).length = R.length + 1 - bh9 (tks (p :: R)) 1 := by rw [List.length_drop]; rfl
        by_cases hp : p.1 = 8589934592 ∧ t = 8589934592
        · rw [grw_pp hp]
          have g1 : Wf9 (tks R) (n + 1) := by have := h1.2; rw [if_pos hp.1] at this; exact this
          have g2 : Wf9 Y (n + 1) := by have := h2.2; rw [if_pos hp.2] at this; exact this
          obtain ⟨i1, i2⟩ := ih (by omega) g1 g2
          refine ⟨⟨by omega, ?_⟩, by show (grw f R Y).1.length + 1 ≤ R.length + 1; omega⟩
          show Wf9 (tks (grw f R Y).1) (if p.1 = 8589934592 then n + 1 else n - 1)
          rw [if_pos hp.1]; exact i1
        · obtain ⟨i1, i2⟩ := ih (R := (p :: R).drop (bh9 (tks (p :: R)) 1)) (by omega) c4 d3
          by_cases hg : gn9 p.1 t = true
          · rw [grw_gn hp hg]
            refine ⟨⟨by omega, ?_⟩, ?_⟩
            · show Wf9 (tks (grw f _ _).1) (if (17179869184 : Int64) = 8589934592 then n + 1 else n - 1)
              rw [if_neg (by decide)]; exact i1
            · show (grw f _ _).1.length + 1 ≤ R.length + 1
              omega
          · rw [grw_no hp hg]
            refine ⟨?_, ?_⟩
            · show Wf9 (tks ((p :: R).take (bh9 (tks (p :: R)) 1) ++ _)) n
              rw [tks_app, show n = 1 + (n - 1) by omega]
              exact wf9_app c3 i1
            · show ((p :: R).take (bh9 (tks (p :: R)) 1) ++ _).length ≤ R.length + 1
              rw [List.length_append, List.length_take]
              omega
theorem bh9_app : ∀ {T S : List Int64} {n : Nat}, Wf9 T n → bh9 (T ++ S) n = T.length := by
  intro T
  induction T with
  | nil => intro S n h; have h : n = 0 := h; subst h; exact bh9_0 _
  | cons t T ih =>
    intro S n h
    obtain ⟨h0, h1⟩ := h
    show (if n = 0 then 0 else 1 + bh9 (T ++ S) _) = T.length + 1
    rw [if_neg (by omega), ih h1]; omega
theorem bh9_cons {t : Int64} {T : List Int64} (h : t ≠ 8589934592) : bh9 (t :: T) 1 = 1 := by
  show (if (1 : Nat) = 0 then 0 else 1 + bh9 T _) = 1
  rw [if_neg (by omega), if_neg h]
  show 1 + bh9 T 0 = 1
  rw [bh9_0]
theorem hds_cons {n : Nat} {p : Int64 × Int64 × Nat} {R S : Rw9} (h : Wf9 (tks (p :: R)) 1) : hds (n + 1) (p :: (R ++ S)) = p.2 :: hds n S := by
  show p.2 :: hds n ((p :: (R ++ S)).drop (bh9 (tks (p :: (R ++ S))) 1)) = _
  have e : tks (p :: (R ++ S)) = tks (p :: R) ++ tks S := tks_app (R := p :: R)
  rw [e, bh9_app h, tks_len]
  show _ :: hds n ((R ++ S).drop R.length) = _
  rw [List.drop_left]
theorem bh9_add : ∀ {T : List Int64} {a b : Nat}, bh9 T (a + b) = bh9 T a + bh9 (T.drop (bh9 T a)) b := by
  intro T
  induction T with
  | nil => intro a b; rfl
  | cons t T ih =>
    intro a b
    by_cases ha : a = 0
    · subst ha
      rw [bh9_0, Nat.zero_add, Nat.zero_add]; rfl
    · have e1 : bh9 (t :: T) (a + b) = 1 + bh9 T (if t = 8589934592 then a + b + 1 else a + b - 1) := by
        show (if a + b = 0 then 0 else _) = _
        rw [if_neg (by omega)]
      have e2 : bh9 (t :: T) a = bh9 T (if t = 8589934592 then a + 1 else a - 1) + 1 := by
        show (if a = 0 then 0 else 1 + bh9 T _) = _
        rw [if_neg ha]; omega
      rw [e1, e2, List.drop_succ_cons]
      by_cases ht : t = 8589934592
      · rw [if_pos ht, if_pos ht, show a + b + 1 = (a + 1) + b by omega, ih]; omega
      · rw [if_neg ht, if_neg ht, show a + b - 1 = (a - 1) + b by omega, ih]; omega
theorem grw_hdk : ∀ (f : Nat) {R : Rw9} {Y : List Int64} {n : Nat}, R.length ≤ f → Wf9 (tks R) n → Wf9 Y n → ∀ j m, j + m ≤ n → hds m ((grw f R Y).1.drop (bh9 (tks (grw f R Y).1) j)) = hds m (R.drop (bh9 (tks R) j)) := by
  intro f
  induction f with
  | zero =>
    intro R Y n hl h1 h2 j m _
    have : R = [] := List.length_eq_zero_iff.mp (by omega)
    subst this
    rfl
  | succ f ih =>
    intro R Y n hl h1 h2 j m hm
    cases R with
    | nil => rw [grw_nil]
    | cons p R =>
      cases Y with
      | nil => have h2 : n = 0 := h2; exact absurd (wf9_pos h1) (by omega)
      | cons t Y =>
        have hl : R.length + 1 ≤ f + 1 := hl
        obtain ⟨c1, c2, c3, c4⟩ := wf9_fst h1
        obtain ⟨d1, d2, d3⟩ := wf9_fsl h2
        have hn := wf9_pos h1
        have hdl : ((p :: R).drop (bh9 (tks (p :: R)) 1)).length = R.length + 1 - bh9 (tks (p :: R)) 1 := by rw [List.length_drop]; rfl
        have m0 : ∀ (S : Rw9), hds 0 S = [] := fun S => by cases S <;> rfl
        by_cases hp : p.1 = 8589934592 ∧ t = 8589934592
        · rw [grw_pp hp]
          have g1 : Wf9 (tks R) (n + 1) := by have := h1.2; rw [if_pos hp.1] at this; exact this
          have g2 : Wf9 Y (n + 1) := by have := h2.2; rw [if_pos hp.2] at this; exact this
          have bp : ∀ (S : Rw9) (k : Nat), bh9 (tks (p :: S)) (k + 1) = bh9 (tks S) (k + 2) + 1 := by
            intro S k
            show (if k + 1 = 0 then 0 else 1 + bh9 (tks S) (if p.1 = 8589934592 then k + 1 + 1 else _)) = _
            rw [if_neg (by omega), if_pos hp.1]
            show 1 + bh9 (tks S) (k + 2) = _
            omega
          have i2 := fun k m' h => ih (R := R) (by omega) g1 g2 (k + 2) m' h
          cases j with
          | succ j =>
            show hds m ((p :: (grw f R Y).1).drop (bh9 (tks (p :: (grw f R Y).1)) (j + 1))) = _
            rw [bp, bp, List.drop_succ_cons, List.drop_succ_cons]
            exact i2 j m (by omega)
          | zero =>
            cases m with
            | zero => rw [m0, m0]
            | succ m =>
              show hds (m + 1) ((p :: (grw f R Y).1).drop (bh9 (tks (p :: (grw f R Y).1)) 0)) = _
              rw [bh9_0, bh9_0]
              show p.2 :: hds m ((p :: (grw f R Y).1).drop (bh9 (tks (p :: (grw f R Y).1)) (0 + 1))) = p.2 :: hds m ((p :: R).drop (bh9 (tks (p :: R)) (0 + 1)))
              rw [bp, bp, List.drop_succ_cons, List.drop_succ_cons, i2 0 m (by omega)]
        · have ihd := ih (R := (p :: R).drop (bh9 (tks (p :: R)) 1)) (by omega) c4 d3
          have rhs : ∀ k, (p :: R).drop (bh9 (tks (p :: R)) (k + 1)) = ((p :: R).drop (bh9 (tks (p :: R)) 1)).drop (bh9 (tks ((p :: R).drop (bh9 (tks (p :: R)) 1))) k) := by
            intro k
            rw [Nat.add_comm k 1, bh9_add, ← List.drop_drop, ← tks_drop]
          by_cases hg : gn9 p.1 t = true
          · rw [grw_gn hp hg]
            cases j with
            | succ j =>
              rw [rhs j, ← ihd j m (by omega)]
              have e : bh9 (tks ((17179869184, p.2) :: (grw f ((p :: R).drop (bh9 (tks (p :: R)) 1)) ((t :: Y).drop (bh9 (t :: Y) 1))).1)) (j + 1) = bh9 (tks (grw f ((p :: R).drop (bh9 (tks (p :: R)) 1)) ((t :: Y).drop (bh9 (t :: Y) 1))).1) j + 1 := by
                show (if j + 1 = 0 then 0 else 1 + bh9 (tks (grw f _ _).1) (if (17179869184 : Int64) = 8589934592 then _ else j + 1 - 1)) = _
                rw [if_neg (by omega), if_neg (by decide), show j + 1 - 1 = j by omega]; omega
              show hds m (((17179869184, p.2) :: (grw f _ _).1).drop (bh9 (tks ((17179869184, p.2) :: (grw f _ _).1)) (j + 1))) = _
              rw [e, List.drop_succ_cons]
            | zero =>
              cases m with
              | zero => rw [m0, m0]
              | succ m =>
                have i0 := ihd 0 m (by omega)
                rw [bh9_0, bh9_0] at i0
                show hds (m + 1) (((17179869184, p.2) :: (grw f _ _).1).drop (bh9 (tks ((17179869184, p.2) :: (grw f _ _).1)) 0)) = _
                rw [bh9_0, bh9_0]
                show hds (m + 1) ((17179869184, p.2) :: ([] ++ (grw f _ _).1)) = _
                rw [hds_cons (show Wf9 (tks [(17179869184, p.2)]) 1 from wf9_1 st_ne)]
                exact congrArg (p.2 :: ·) i0
          · rw [grw_no hp hg]
            have e : (p :: R).take (bh9 (tks (p :: R)) 1) = p :: R.take (bh9 (tks (p :: R)) 1 - 1) := by
              obtain ⟨c, hc⟩ : ∃ c, bh9 (tks (p :: R)) 1 = c + 1 := ⟨bh9 (tks (p :: R)) 1 - 1, by omega⟩
              rw [hc, List.take_succ_cons, show c + 1 - 1 = c by omega]
            have tl : ((p :: R).take (bh9 (tks (p :: R)) 1)).length = bh9 (tks (p :: R)) 1 := by rw [List.length_take]; show min _ (R.length + 1) = _; omega
            cases j with
            | succ j =>
              rw [rhs j, ← ihd j m (by omega)]
              show hds m (((p :: R).take (bh9 (tks (p :: R)) 1) ++ (grw f _ _).1).drop (bh9 (tks ((p :: R).take (bh9 (tks (p :: R)) 1) ++ (grw f _ _).1)) (j + 1))) = _
              rw [Nat.add_comm j 1, bh9_add, tks_app, bh9_app c3, ← List.drop_drop, tks_len, List.drop_left' rfl]
              rw [← tks_len (R := (p :: R).take (bh9 (tks (p :: R)) 1)), List.drop_left' rfl]
            | zero =>
              cases m with
              | zero => rw [m0, m0]
              | succ m =>
                have i0 := ihd 0 m (by omega)
                rw [bh9_0, bh9_0] at i0
                show hds (m + 1) (((p :: R).take (bh9 (tks (p :: R)) 1) ++ (grw f _ _).1).drop (bh9 (tks ((p :: R).take (bh9 (tks (p :: R)) 1) ++ (grw f _ _).1)) 0)) = _
                rw [bh9_0, bh9_0]
                show hds (m + 1) ((p :: R).take (bh9 (tks (p :: R)) 1) ++ (grw f _ _).1) = _
                rw [e] at c3 ⊢
                rw [List.cons_append, hds_cons c3]
                exact congrArg (p.2 :: ·) i0
theorem grw_hds {f : Nat} {R : Rw9} {Y : List Int64} {n : Nat} (hl : R.length ≤ f) (h1 : Wf9 (tks R) n) (h2 : Wf9 Y n) : hds n (grw f R Y).1 = hds n R := by
  have := grw_hdk f hl h1 h2 0 n (by omega)
  rw [bh9_0, bh9_0] at this
  exact this
def Hv9 (T : List Int64) (n : Nat) : Prop := ∀ j, j < n → bh9 (T.drop (bh9 T j)) 1 ≤ 40
theorem grw_hvk : ∀ (f : Nat) {R : Rw9} {Y : List Int64} {n : Nat}, R.length ≤ f → Wf9 (tks R) n → Wf9 Y n → ∀ j m, j + m ≤ n → bh9 (tks ((grw f R Y).1.drop (bh9 (tks (grw f R Y).1) j))) m ≤ bh9 (tks (R.drop (bh9 (tks R) j))) m := by
  intro f
  induction f with
  | zero =>
    intro R Y n hl h1 h2 j m _
    have : R = [] := List.length_eq_zero_iff.mp (by omega)
    subst this
    exact Nat.le_refl _
  | succ f ih =>
    intro R Y n hl h1 h2 j m hm
    cases R with
    | nil => rw [grw_nil]; exact Nat.le_refl _
    | cons p R =>
      cases Y with
      | nil => have h2 : n = 0 := h2; exact absurd (wf9_pos h1) (by omega)
      | cons t Y =>
        have hl : R.length + 1 ≤ f + 1 := hl
        obtain ⟨c1, c2, c3, c4⟩ := wf9_fst h1
        obtain ⟨d1, d2, d3⟩ := wf9_fsl h2
        have hn := wf9_pos h1
        have hdl : ((p :: R).drop (bh9 (tks (p :: R)) 1)).length = R.length + 1 - bh9 (tks (p :: R)) 1 := by rw [List.length_drop]; rfl
        by_cases hp : p.1 = 8589934592 ∧ t = 8589934592
        · rw [grw_pp hp]
          have g1 : Wf9 (tks R) (n + 1) := by have := h1.2; rw [if_pos hp.1] at this; exact this
          have g2 : Wf9 Y (n + 1) := by have := h2.2; rw [if_pos hp.2] at this; exact this
          have bp : ∀ (S : Rw9) (k : Nat), bh9 (tks (p :: S)) (k + 1) = bh9 (tks S) (k + 2) + 1 := by
            intro S k
            show (if k + 1 = 0 then 0 else 1 + bh9 (tks S) (if p.1 = 8589934592 then k + 1 + 1 else _)) = _
            rw [if_neg (by omega), if_pos hp.1]
            show 1 + bh9 (tks S) (k + 2) = _
            omega
          cases j with
          | succ j =>
            show bh9 (tks ((p :: (grw f R Y).1).drop (bh9 (tks (p :: (grw f R Y).1)) (j + 1)))) m ≤ _
            rw [bp, bp, List.drop_succ_cons, List.drop_succ_cons]
            exact ih (R := R) (by omega) g1 g2 (j + 2) m (by omega)
          | zero =>
            cases m with
            | zero => rw [bh9_0]; omega
            | succ m =>
              show bh9 (tks ((p :: (grw f R Y).1).drop (bh9 (tks (p :: (grw f R Y).1)) 0))) (m + 1) ≤ _
              rw [bh9_0, bh9_0]
              show bh9 (tks (p :: (grw f R Y).1)) (m + 1) ≤ bh9 (tks (p :: R)) (m + 1)
              have := ih (R := R) (by omega) g1 g2 0 (m + 2) (by omega)
              rw [bh9_0, bh9_0] at this
              have this : bh9 (tks (grw f R Y).1) (m + 2) ≤ bh9 (tks R) (m + 2) := this
              rw [bp, bp]; omega
        · have ihd := ih (R := (p :: R).drop (bh9 (tks (p :: R)) 1)) (by omega) c4 d3
          have rhs : ∀ k, (p :: R).drop (bh9 (tks (p :: R)) (k + 1)) = ((p :: R).drop (bh9 (tks (p :: R)) 1)).drop (bh9 (tks ((p :: R).drop (bh9 (tks (p :: R)) 1))) k) := by
            intro k
            rw [Nat.add_comm k 1, bh9_add, ← List.drop_drop, ← tks_drop]
          have rhm : ∀ m, bh9 (tks (p :: R)) (m + 1) = bh9 (tks (p :: R)) 1 + bh9 (tks ((p :: R).drop (bh9 (tks (p :: R)) 1))) m := by
            intro m
            rw [Nat.add_comm m 1, bh9_add, ← tks_drop]
          by_cases hg : gn9 p.1 t = true
          · rw [grw_gn hp hg]
            have e : ∀ j, bh9 (tks ((17179869184, p.2) :: (grw f ((p :: R).drop (bh9 (tks (p :: R)) 1)) ((t :: Y).drop (bh9 (t :: Y) 1))).1)) (j + 1) = bh9 (tks (grw f ((p :: R).drop (bh9 (tks (p :: R)) 1)) ((t :: Y).drop (bh9 (t :: Y) 1))).1) j + 1 := by
              intro j
              show (if j + 1 = 0 then 0 else 1 + bh9 (tks (grw f _ _).1) (if (17179869184 : Int64) = 8589934592 then _ else j + 1 - 1)) = _
              rw [if_neg (by omega), if_neg (by decide), show j + 1 - 1 = j by omega]; omega
            cases j with
            | succ j =>
              rw [rhs j]
              refine Nat.le_trans ?_ (ihd j m (by omega))
              show bh9 (tks (((17179869184, p.2) :: (grw f _ _).1).drop (bh9 (tks ((17179869184, p.2) :: (grw f _ _).1)) (j + 1)))) m ≤ _
              rw [e, List.drop_succ_cons]
              exact Nat.le_refl _
            | zero =>
              cases m with
              | zero => rw [bh9_0]; omega
              | succ m =>
                have i0 := ihd 0 m (by omega)
                rw [bh9_0, bh9_0] at i0
                have i0 : bh9 (tks (grw f ((p :: R).drop (bh9 (tks (p :: R)) 1)) ((t :: Y).drop (bh9 (t :: Y) 1))).1) m ≤ bh9 (tks ((p :: R).drop (bh9 (tks (p :: R)) 1))) m := i0
                rw [bh9_0, bh9_0]
                show bh9 (tks ((17179869184, p.2) :: (grw f _ _).1)) (m + 1) ≤ bh9 (tks (p :: R)) (m + 1)
                rw [e, rhm m]; omega
          · rw [grw_no hp hg]
            have tl : ((p :: R).take (bh9 (tks (p :: R)) 1)).length = bh9 (tks (p :: R)) 1 := by rw [List.length_take]; show min _ (R.length + 1) = _; omega
            cases j with
            | succ j =>
              rw [rhs j]
              refine Nat.le_trans ?_ (ihd j m (by omega))
              show bh9 (tks (((p :: R).take (bh9 (tks (p :: R)) 1) ++ (grw f _ _).1).drop (bh9 (tks ((p :: R).take (bh9 (tks (p :: R)) 1) ++ (grw f _ _).1)) (j + 1)))) m ≤ _
              rw [Nat.add_comm j 1, bh9_add, tks_app, bh9_app c3, ← List.drop_drop, tks_len, List.drop_left' rfl]
              rw [← tks_len (R := (p :: R).take (bh9 (tks (p :: R)) 1)), List.drop_left' rfl]
              exact Nat.le_refl _
            | zero =>
              cases m with
              | zero => rw [bh9_0]; omega
              | succ m =>
                have i0 := ihd 0 m (by omega)
                rw [bh9_0, bh9_0] at i0
                have i0 : bh9 (tks (grw f ((p :: R).drop (bh9 (tks (p :: R)) 1)) ((t :: Y).drop (bh9 (t :: Y) 1))).1) m ≤ bh9 (tks ((p :: R).drop (bh9 (tks (p :: R)) 1))) m := i0
                rw [bh9_0, bh9_0]
                show bh9 (tks ((p :: R).take (bh9 (tks (p :: R)) 1) ++ (grw f _ _).1)) (m + 1) ≤ bh9 (tks (p :: R)) (m + 1)
                rw [rhm m, Nat.add_comm m 1, bh9_add, tks_app, bh9_app c3, tks_len, tl]
                rw [List.drop_left' (by rw [tks_len, tl])]
                omega
theorem Hv9.grw {f n : Nat} {R : Rw9} {Y : List Int64} (h : Hv9 (tks R) n) (hl : R.length ≤ f) (h1 : Wf9 (tks R) n) (h2 : Wf9 Y n) : Hv9 (tks (grw f R Y).1) n := by
  intro j hj
  have := grw_hvk f hl h1 h2 j 1 (by omega)
  rw [tks_drop, tks_drop] at this
  exact Nat.le_trans this (h j hj)
theorem Hv9.flat {T : List Int64} {n : Nat} (h : ∀ t, t ∈ T → t ≠ 8589934592) : Hv9 T n := by
  intro j _
  have h2 : ∀ t, t ∈ T.drop (bh9 T j) → t ≠ 8589934592 := fun t ht => h t (List.mem_of_mem_drop ht)
  generalize T.drop (bh9 T j) = S at h2
  cases S with
  | nil => exact Nat.zero_le _
  | cons t S => rw [bh9_cons (h2 t List.mem_cons_self)]; omega
theorem Hv9.cons {T S : List Int64} {n : Nat} (hT : Wf9 T 1) (h40 : T.length ≤ 40) (hS : Hv9 S n) : Hv9 (T ++ S) (n + 1) := by
  intro j hj
  cases j with
  | zero =>
    rw [bh9_0]
    show bh9 (T ++ S) 1 ≤ 40
    rw [bh9_app hT]; exact h40
  | succ j =>
    rw [Nat.add_comm j 1, bh9_add, bh9_app hT, ← List.drop_drop, List.drop_left]
    exact hS j (by omega)
end

section
def Tk7 (x : Int64) (s b : Int32) : Prop := (s = 3 ∧ b = 0 ∧ x = s_X0_make (nI 4) 0) ∨ (s = 2 ∧ b = 0 ∧ x = s_X0_make (nI 2) 0) ∨ ((s = 0 ∨ s = 1) ∧ x = s_X0_make s b)
def Pb9 (μx μm : Mem) (u : Nat) : Prop := (μm.1 66 u = -1 ∨ (0 ≤ (μm.1 66 u).toInt ∧ (μm.1 66 u).toInt < (u : Int))) ∧ (∀ f L n : Nat, (μm.1 57 u).toInt = (f : Int) → (μm.1 58 u).toInt = (L : Int) → (μm.1 3 f).toInt = (n : Int) → Wf9 ((List.range L).map (fun k => μx.2.1 (48 + 3 * u) k)) n ∧ Hv9 ((List.range L).map (fun k => μx.2.1 (48 + 3 * u) k)) n) ∧ ((μm.1 0 111).toInt < (u : Int) → μx.1 45 (4 * u + 2) = μm.1 59 u)
def Pa7 (μx μm : Mem) (G : List Fn5) : Prop := ∃ V : Nat, (μx.1 39 2).toInt = (V : Int) ∧ (μm.1 0 110).toInt = (V : Int) ∧ V ≤ 24 ∧ ∀ u, u < V → (∃ f L : Nat, (μm.1 57 u).toInt = (f : Int) ∧ f < G.length ∧ (μx.1 (47 + 3 * u) 3).toInt = ((μm.1 2 f).toInt - 1) * 6 + (μm.1 3 f).toInt ∧ (μm.1 58 u).toInt = (L : Int) ∧ L ≤ 200 ∧ (μx.1 (47 + 3 * u) 2).toInt = (L : Int) ∧ (μm.1 59 u).toInt ≤ 8 ∧ (μm.1 59 u).toInt = ((((List.range L).filter (fun k => decide (μm.1 60 (210 * u + k) = 3))).length : Nat) : Int) ∧ ∀ k, k < L → Tk7 (μx.2.1 (48 + 3 * u) k) (μm.1 60 (210 * u + k)) (μm.1 61 (210 * u + k))) ∧ (μx.1 45 (4 * u) = μm.1 66 u ∧ Pb9 μx μm u)
def Pr8 (μx μm : Mem) (P : Nat) (C : List Th3) (G : List Fn5) : Prop := P29 P ∧ sel 2 (μx.2.2 137 5) = P ∧ Lc P C μx ∧ C.length ≤ 2472 ∧ Kw (G.map fkey) ∧ Kt P (G.map fkey) μx ∧ Fs5 P G μx ∧ Pn5 μm G ∧ (∀ g, g ∈ G → Fc6 C g) ∧ Bh μm 0 (nv μm 18)
theorem Pr8.of {μx μm q z : Mem} {P : Nat} {C : List Th3} {G : List Fn5} (h : Pr8 μx μm P C G) (r : q.2.2 137 5 = μx.2.2 137 5) (c : ∀ i k, 2 ≤ i → i ≤ 15 → q.1 i k = μx.1 i k) (m0 : ∀ k, k = 17 ∨ k = 18 → z.1 0 k = μm.1 0 k) (m : ∀ i k, 2 ≤ i → i ≤ 9 → z.1 i k = μm.1 i k) (hb : Bh z 0 (nv z 18)) : Pr8 q z P C G := by
  obtain ⟨hP, h1, h2, h3, h4, ⟨x1, x2, x3, x4⟩, h6, h7, h8, _⟩ := h
  have hP' := hP
  unfold P29 at hP'
  exact ⟨hP, by rw [r]; exact h1, h2.cong (c _ _ (by omega) (by omega)) (fun k => c _ _ (by omega) (by omega)) (fun k => c _ _ (by omega) (by omega)) (fun k => c _ _ (by omega) (by omega)), h3, h4, ⟨by rw [c _ _ (by omega) (by omega)]; exact x1, by rw [c _ _ (by omega) (by omega)]; exact x2, fun i hi => by rw [c _ _ (by omega) (by omega)]; exact x3 i hi, fun k hk => by rw [c _ _ (by omega) (by omega)]; exact x4 k hk⟩, h6.cong (fun k _ => c _ _ (by omega) (by omega)) (fun k _ => c _ _ (by omega) (by omega)) (fun f _ => c _ _ (by omega) (by omega)), h7.of m0 m, h8, hb⟩
def Lim9 (μx μm : Mem) : Prop := ∀ k, k ≤ 2 → μx.1 137 k = μm.1 29 k ∧ (k = 0 → (μm.1 29 k).toInt ≤ 12)
def S8 (μx μm : Mem) (It Bk : List Nat) (cl : Nat → Prop) (v b a h D : Nat) (N : List Int32) (m bc ob : Nat) : Prop := Re7 μx μm It Bk cl v b a ∧ Bb7 μx Bk ∧ Sk7 μx μm h ∧ Vr7 μx μm D N ∧ (∀ c, c ∈ N → isVa c = true) ∧ ((μx.1 30 10).toInt = (D : Int) ∧ (μm.1 0 67).toInt = ((14 * D : Nat) : Int) ∧ (μm.1 0 92).toInt = (D : Int) ∧ D ≤ 12) ∧ ((μx.1 137 12).toInt = (bc : Int) ∧ (μx.1 137 13).toInt = (ob : Int) ∧ (μm.1 0 90).toInt = (ob : Int)) ∧ (μm.1 0 65).toInt = (m : Int) ∧ (μx.1 39 3 = μm.1 0 91 ∧ μx.1 39 4 = μm.1 0 96 ∧ μx.1 39 5 = μm.1 0 97) ∧ Lim9 μx μm ∧ μm.1 0 111 = μx.1 137 7
theorem S8.v111 {μx μm : Mem} {It Bk : List Nat} {cl : Nat → Prop} {v b a h D : Nat} {N : List Int32} {m bc ob : Nat} (h : S8 μx μm It Bk cl v b a h D N m bc ob) : (μm.1 0 111).toInt = (v : Int) := by
  have h1 := h.2.2.2.2.2.2.2.2.2.2
  have h2 := h.1.2.2.2.1.2.1
  rw [h1]; exact h2
def Xs8 (h D n bc : Nat) (μ q : Mem) : Prop := (∀ k, k < h → q.2.1 36 k = μ.2.1 36 k) ∧ (∀ k, k < 32 * D + n → q.2.1 37 k = μ.2.1 37 k) ∧ (∀ k, k ≤ D → q.1 38 k = μ.1 38 k) ∧ (∀ k, k < 3 * bc → q.1 138 k = μ.1 138 k) ∧ (∀ k, k < bc → q.2.1 139 k = μ.2.1 139 k) ∧ (q.2.2 137 5 = μ.2.2 137 5 ∧ ∀ k, q.2.1 140 k = μ.2.1 140 k)
def Ms8 (h D m : Nat) (μ z : Mem) : Prop := (∀ k, k < h → z.1 40 k = μ.1 40 k) ∧ (∀ k, k < 14 * D + 14 → z.1 41 k = μ.1 41 k) ∧ (∀ i k, i = 37 ∨ i = 38 ∨ i = 39 → k < m → z.1 i k = μ.1 i k)
theorem Xs8.rf {h D n bc : Nat} {μ : Mem} : Xs8 h D n bc μ μ := ⟨fun _ _ => rfl, fun _ _ => rfl, fun _ _ => rfl, fun _ _ => rfl, fun _ _ => rfl, rfl, fun _ => rfl⟩
theorem Xs8.tr {h D n bc h2 n2 bc2 : Nat} {μ q z : Mem} (x : Xs8 h D n bc μ q) (y : Xs8 h2 D n2 bc2 q z) (e1 : h ≤ h2) (e2 : n ≤ n2) (e3 : bc ≤ bc2) : Xs8 h D n bc μ z := by
  obtain ⟨a1, a2, a3, a4, a5, a6⟩ := x
  obtain ⟨b1, b2, b3, b4, b5, b6⟩ := y
  exact ⟨fun k hk => (b1 k (by omega)).trans (a1 k hk), fun k hk => (b2 k (by omega)).trans (a2 k hk), fun k hk => (b3 k hk).trans (a3 k hk), fun k hk => (b4 k (by omega)).trans (a4 k hk), fun k hk => (b5 k (by omega)).trans (a5 k hk), b6.1.trans a6.1, fun k => (b6.2 k).trans (a6.2 k)⟩
theorem Ms8.rf {h D m : Nat} {μ : Mem} : Ms8 h D m μ μ := ⟨fun _ _ => rfl, fun _ _ => rfl, fun _ _ _ _ => rfl⟩
theorem Ms8.tr {h D m h2 m2 : Nat} {μ q z : Mem} (x : Ms8 h D m μ q) (y : Ms8 h2 D m2 q z) (e1 : h ≤ h2) (e2 : m ≤ m2) : Ms8 h D m μ z := by
  obtain ⟨a1, a2, a3⟩ := x
  obtain ⟨b1, b2, b3⟩ := y
  exact ⟨fun k hk => (b1 k (by omega)).trans (a1 k hk), fun k hk => (b2 k hk).trans (a2 k hk), fun i k hi hk => (b3 i k hi (by omega)).trans (a3 i k hi hk)⟩
end

section
theorem c_step3 {P i : Nat} {C : List Th3} {μ : Mem} {s m t : Int32} {A : Mem → Prop} (hP : sel 2 (μ.2.2 137 5) = P) (hL : Lc P C μ) (hC : C.length ≤ 2472) (hi : C[i]? = some (s, m, t)) (h9 : (μ.1 137 9).toInt = (i : Int)) (hK : ∀ r2 r4 r6 (μ1 μ3 μ5 : Mem), r2 = s → r4 = m → r6 = t → μ1 = μ → μ3 = μ → μ5 = μ → True) : pk (p_X3_stepAt (sel 2 (μ.2.2 137 5)) (μ.1 137 9) μ) (fun r => r.1 = s ∧ r.2 = μ) ∧ pk (p_X3_markAt (sel 2 (μ.2.2 137 5)) (μ.1 137 9) μ) (fun r => r.1 = m ∧ r.2 = μ) ∧ pk (p_X3_bitsAt (sel 2 (μ.2.2 137 5)) (μ.1 137 9) μ) (fun r => r.1 = t ∧ r.2 = μ) := by
  rw [hP]; exact c_at hL hC hi h9
theorem c_step_num {P i h : Nat} {C : List Th3} {μ : Mem} {m t : Int32} (hP : sel 2 (μ.2.2 137 5) = P) (hL : Lc P C μ) (hC : C.length ≤ 2472) (hi : C[i]? = some (0, m, t)) (h9 : (μ.1 137 9).toInt = (i : Int)) (h7 : (μ.1 30 7).toInt = (h : Int)) (hb : h < 2480) : pk (p_X10_step μ) (fun q => q = sF (sL (sF μ 137 9 (μ.1 137 9 + 1)) 36 h (s_X0_make m t)) 30 7 (μ.1 30 7 + 1)) := by
  obtain ⟨k1, k2, k3⟩ := c_step3 (A := fun _ => True) hP hL hC hi h9 (fun _ _ _ _ _ _ _ _ _ _ _ _ => trivial)
  rw [p_X10_step_eq]
  refine pk_bd k1 ?_
  rintro r2 μ1 ⟨e, e'⟩
  have e : r2 = 0 := e
  have e' : μ1 = μ := e'
  subst e'
  refine pk_bd k2 ?_
  rintro r4 μ3 ⟨e4, e'⟩
  have e4 : r4 = m := e4
  have e' : μ3 = μ1 := e'
  subst e'
  refine pk_bd k3 ?_
  rintro r6 μ5 ⟨e6, e'⟩
  have e6 : r6 = t := e6
  have e' : μ5 = μ3 := e'
  subst e'
  refine pk_bvy (fun μ7 m7 => ?_)
  have e : r2 = 0 := e
  have e4 : r4 = m := e4
  rw [if_pos e, e4, e6]
  have g7 : (μ7.1 30 7).toInt = (h : Int) := by rw [m7, sF_i (by decide)]; exact h7
  refine pk_bw (c_push _ g7 hb) (fun μ10 m10 => pk_some ?_)
  rw [m10, m7, sF_i (by decide)]
theorem c_step_var {P i h D s : Nat} {C : List Th3} {μ : Mem} {m t : Int32} (hP : sel 2 (μ.2.2 137 5) = P) (hL : Lc P C μ) (hC : C.length ≤ 2472) (hi : C[i]? = some (1, m, t)) (h9 : (μ.1 137 9).toInt = (i : Int)) (h7 : (μ.1 30 7).toInt = (h : Int)) (hb : h < 2480) (hD : (μ.1 30 10).toInt = (D : Int)) (hm : m.toInt = (s : Int)) (hs : 32 * D + s < 992) : pk (p_X10_step μ) (fun q => q = sF (sL (sF μ 137 9 (μ.1 137 9 + 1)) 36 h (μ.2.1 37 (32 * D + s))) 30 7 (μ.1 30 7 + 1)) := by
  obtain ⟨k1, k2, k3⟩ := c_step3 (A := fun _ => True) hP hL hC hi h9 (fun _ _ _ _ _ _ _ _ _ _ _ _ => trivial)
  rw [p_X10_step_eq]
  refine pk_bd k1 ?_
  rintro r2 μ1 ⟨e, e'⟩
  have e : r2 = 1 := e
  have e' : μ1 = μ := e'
  subst e'
  refine pk_bd k2 ?_
  rintro r4 μ3 ⟨e4, e'⟩
  have e4 : r4 = m := e4
  have e' : μ3 = μ1 := e'
  subst e'
  refine pk_bd k3 ?_
  rintro r6 μ5 ⟨e6, e'⟩
  have e' : μ5 = μ3 := e'
  subst e'
  refine pk_bvy (fun μ7 m7 => ?_)
  have e : r2 = 1 := e
  have e4 : r4 = m := e4
  rw [if_neg (by rw [e]; decide), if_pos e, e4]
  have g10 : (μ7.1 30 10).toInt = (D : Int) := by rw [m7, sF_i (by decide)]; exact hD
  refine pk_bd (c_varAt g10 hm hs) ?_
  rintro r14 μ13 ⟨e14, e'⟩
  have e14 : r14 = μ7.2.1 37 (32 * D + s) := e14
  have e' : μ13 = μ7 := e'
  subst e'
  have g7 : (μ13.1 30 7).toInt = (h : Int) := by rw [m7, sF_i (by decide)]; exact h7
  refine pk_bw (c_push _ g7 hb) (fun μ15 m15 => pk_some ?_)
  rw [m15, e14, m7, sF_i (by decide)]
  rfl
theorem m_work_num {μ : Mem} {p h : Nat} {a2 a3 : Int32} {s : Nat} (hs : s = 0 ∨ s = 1) (ha : a2.toInt = (p : Int)) (h7 : μ.1 7 p = nI s) (h66 : (μ.1 0 66).toInt = (h : Int)) : pk (p_X12_goOne 0 a2 a3 μ) (fun q => ∃ (z : Mem) (y : Nat) (r : Int32), Nn7 μ z y (nI s) (μ.1 8 p) ∧ r.toInt = (y : Int) ∧ q = sF (sF z 40 h r) 0 66 (z.1 0 66 + 1)) := by
  rw [p_X12_goOne_eq, if_pos rfl, p_X12_work_eq, tn_of ha, h7]
  have node : pk (p_X12_work_b16 a2 (nI s) μ) (fun q => ∃ (z : Mem) (y : Nat) (r : Int32), Nn7 μ z y (nI s) (μ.1 8 p) ∧ r.toInt = (y : Int) ∧ q = sF (sF z 40 h r) 0 66 (z.1 0 66 + 1)) := by
    rw [p_X12_work_b16_eq, tn_of ha]
    refine pk_gd (fun _ => pk_bd (m_node (nI s) (μ.1 8 p) μ) ?_)
    rintro r4 μ3 ⟨y, hy, hN⟩
    have hN : Nn7 μ μ3 y (nI s) (μ.1 8 p) := hN
    have hy : r4.toInt = (y : Int) := hy
    have g : (μ3.1 0 66).toInt = (h : Int) := by rw [hN.2.2.2.2.2.2.2.2.2.1 66 (by decide)]; exact h66
    exact pk_bw (m_come r4 g) (fun μ5 h5 => pk_some ⟨μ3, y, r4, hN, hy, h5.1⟩)
  refine pk_bw (pk_gd (fun _ => pk_bvy (fun v1 e1 => ?_))) (fun q hq => pk_some hq)
  rw [e1]
  rcases hs with e | e
  · subst e
    rw [if_pos (by decide)]; exact node
  · subst e
    rw [if_neg (by decide), if_pos (by decide)]; exact node
theorem m_work_var {μ : Mem} {p h x : Nat} {a2 a3 : Int32} (ha : a2.toInt = (p : Int)) (h7 : μ.1 7 p = 4) (h66 : (μ.1 0 66).toInt = (h : Int)) (hx : (μ.1 0 67 + μ.1 8 p).toInt = (x : Int)) : pk (p_X12_goOne 0 a2 a3 μ) (fun q => q = sF (sF μ 40 h (μ.1 41 x)) 0 66 (μ.1 0 66 + 1)) := by
  rw [p_X12_goOne_eq, if_pos rfl, p_X12_work_eq, tn_of ha, h7, tn_of hx]
  refine pk_bw (pk_gd (fun _ => pk_bvy (fun v1 e1 => ?_))) (fun q hq => pk_some hq)
  rw [e1, if_neg (by decide), if_neg (by decide), if_pos (by decide)]
  exact pk_gd (fun _ => pk_gd (fun _ => pk_bw (m_come _ h66) (fun μ5 h5 => pk_some h5.1)))
end
