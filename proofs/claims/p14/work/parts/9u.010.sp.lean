section
def J9 (G : List Fn5) (v b a h V : Nat) (It Bk : List Nat) (cl : Nat → Prop) (μx μm q z : Mem) : Prop := (Fc9 v h V μx q ∧ Fr9 h (μm.1 0 87).toNatClampNeg (μm.1 0 88).toNatClampNeg V μm z) ∧ Sc8 μx μm q z ∧ Re7 q z It Bk cl v b a ∧ Pa7 q z G ∧ Cq9 q z It ∧ (q.1 39 4 = z.1 0 96 ∧ q.1 39 5 = z.1 0 97) ∧ ((V : Int) ≤ (q.1 39 2).toInt ∧ (q.1 39 2).toInt ≤ (V : Int) + 1) ∧ (q.1 30 7 = μx.1 30 7 ∧ z.1 0 66 = μm.1 0 66)
theorem J9.aside {P : Nat} {C : List Th3} {G : List Fn5} {v b a h D m bc ob V : Nat} {N : List Int32} {μx μm q z : Mem} {It Bk : List Nat} {cl : Nat → Prop} (W : W9 P C G v b a h D N m bc ob μx μm It Bk cl) (hV : (μx.1 39 2).toInt = (V : Int)) (fx : Ax9 μx q) (fm : Az9 μm z) (h4 : q.1 39 4 = z.1 0 96) (h5 : q.1 39 5 = z.1 0 97) (hsu : Su5 q) : J9 G v b a h V It Bk cl μx μm q z := by
  obtain ⟨W2, _⟩ := W.aside fx fm h4 h5 hsu
  obtain ⟨S2, _, A2, _, _, _, Q2⟩ := W2
  refine ⟨⟨fx.fc, fm.fr⟩, ⟨fun k => fx.2.1 40 k (by decide) (by omega), fun k => fx.2.2 44 k (by decide) (by decide), ⟨fm.2 0 87 (by omega) (by decide) (by decide) (by omega), fm.2 0 88 (by omega) (by decide) (by decide) (by omega)⟩, fun i k a1 a2 => fm.2 i k (by omega) (by omega) (by omega) (by omega)⟩, S2.1, A2, Q2, ⟨h4, h5⟩, ?_, fx.2.1 30 7 (by decide) (by omega), fm.2 0 66 (by omega) (by decide) (by decide) (by omega)⟩
  rw [fx.2.1 39 2 (by decide) (by omega), hV]; omega
theorem ct_mem {z : Mem} {It : List Nat} {u : Nat} (h : Ct9 z It u = 0) : ∀ p, p ∈ It → ¬ (z.1 46 p = 11 ∧ z.1 48 p = nI u) := by
  intro p hp e
  unfold Ct9 at h
  have := List.length_eq_zero_iff.mp h
  have h2 := List.filter_eq_nil_iff.mp this p hp
  exact h2 (decide_eq_true e)
theorem J9.newv {G : List Fn5} {v b a h V : Nat} {μx μm qa za q z : Mem} {It Bk : List Nat} {cl : Nat → Prop} {T : List Int64} {key parent st fi : Int32} {L : Nat} (J : J9 G v b a h V It Bk cl μx μm qa za) (hV : (qa.1 39 2).toInt = (V : Int)) (hlt : V < 24) (hx : Nv9 V T key parent st qa q) (hm : Nm9 V L fi parent za z) (hA : Pa7 q z G) : J9 G v b a h V It Bk cl μx μm q z := by
  obtain ⟨⟨j1, j2⟩, j3, j4, j5, j6, ⟨j7, j8⟩, _, ⟨j9, j0⟩⟩ := J
  have x2 := hx.2.1
  have vV : v < V := by have := j4.2.2.2.1.2.2.2.1; omega
  have n40 : ∀ i k, i ≠ 39 → i ≠ 45 → i < 47 → q.1 i k = qa.1 i k := fun i k c1 c2 c3 => hx.2.2.1 i k c1 c2 (by omega)
  have m46 : ∀ i k, 46 ≤ i → i ≤ 54 → z.1 i k = za.1 i k := fun i k c1 c2 => hm.2.2.1 i k (by omega) (by omega) (by omega)
  have m0 : ∀ k, k ≠ 110 → z.1 0 k = za.1 0 k := fun k hk => hm.2.2.1 0 k (by omega) (by omega) (by omega)
  have R : Re7 q z It Bk cl v b a := by
    refine j4.of3 (fun k hk => x2.2 k (by omega)) (by rw [x2.1]; omega) (fun i k hi => n40 i k (by omega) (by omega) (by omega)) (hx.2.2.2.2.1 _ (by omega)) (fun k hk => hx.2.2.1 137 k (by decide) (by decide) (by omega)) (fun i k hi => hx.2.2.2.2.2.2 i k (by omega) (by omega)) (fun k hk => m0 k (by omega)) m46 (fun i k hi => hm.2.2.1 i k (by omega) (by omega) (by omega))
  have sc : Sc8 qa za q z := ⟨fun k => n40 40 k (by decide) (by decide) (by decide), fun k => hx.2.2.2.2.2.2 44 k (by omega) (by omega), ⟨m0 87 (by decide), m0 88 (by decide)⟩, m46⟩
  refine ⟨⟨j1.tr hx.fc, j2.tr hm.fr (Nat.le_refl _) (Nat.le_refl _)⟩, ⟨fun k => (sc.1 k).trans (j3.1 k), fun k => (sc.2.1 k).trans (j3.2.1 k), ⟨sc.2.2.1.1.trans j3.2.2.1.1, sc.2.2.1.2.trans j3.2.2.1.2⟩, fun i k c1 c2 => (sc.2.2.2 i k c1 c2).trans (j3.2.2.2 i k c1 c2)⟩, R, hA, fun u hu => ?_, ⟨by rw [x2.2 4 (by decide), m0 96 (by decide)]; exact j7, by rw [x2.2 5 (by decide), m0 97 (by decide)]; exact j8⟩, by rw [x2.1]; omega, by rw [n40 30 7 (by decide) (by decide) (by decide)]; exact j9, by rw [m0 66 (by decide)]; exact j0⟩
  have hct : Ct9 z It u = Ct9 za It u := by
    unfold Ct9
    have e46 : z.1 46 = za.1 46 := funext (fun k => m46 46 k (by decide) (by decide))
    have e48 : z.1 48 = za.1 48 := funext (fun k => m46 48 k (by decide) (by decide))
    rw [e46, e48]
  have h6 := j6 u hu
  rw [hct, x2.1]
  rw [hV] at h6
  rcases Nat.lt_trichotomy u V with e | e | e
  · rw [if_pos (by omega)] at h6 ⊢
    rw [hx.2.2.2.2.1 _ (by omega)]; exact h6
  · subst e
    rw [if_neg (by omega)] at h6
    rw [if_pos (by omega), hx.2.2.2.1.2.1]
    exact h6
  · rw [if_neg (by omega)] at h6 ⊢
    exact h6
def Rz9 (P : Nat) (C : List Th3) (G : List Fn5) (v b a h D : Nat) (N : List Int32) (m bc ob : Nat) (μx μm : Mem) (It Bk : List Nat) (cl : Nat → Prop) (q z : Mem) : Prop := (∃ cd : Int32, q.1 137 6 = cd ∧ z.1 0 68 = cd ∧ cd ≠ 0 ∧ Su5 q) ∨ ∃ It2 Bk2 : List Nat, W9 P C G v b a (h + 1) D N m bc ob q z It2 Bk2 cl ∧ (∀ B, F9 v b B h D N.length bc m μx μm It Bk cl q z It2 Bk2 cl) ∧ (q.1 137 9 = μx.1 137 9 ∧ q.1 39 3 = μx.1 39 3 ∧ q.1 30 5 = μx.1 30 5)
theorem Su5.of2 {μ q : Mem} (h : Su5 μ) (e : ∀ k, k = 14 ∨ k = 15 → q.2.2 137 k = μ.2.2 137 k) : Su5 q := by unfold Su5 at h ⊢; rw [e 14 (Or.inl rfl), e 15 (Or.inr rfl)]; exact h
theorem Pa7.keep {μx μm q z : Mem} {G : List Fn5} {v : Nat} (h : Pa7 μx μm G) (hv : (μm.1 0 111).toInt = (v : Int)) (fx : Lx9 v μx q) {p o : Nat} (fm : Lm9 p o μm z) : Pa7 q z G := h.of (fx.2.2.1 2 (by decide)) (fun i k a1 a2 => ⟨fx.2.1 i k (by omega) (by omega) (by omega) (by omega) (by omega), fx.2.2.2.2 i k (by omega) (by omega)⟩) (fun u => fx.2.2.2.1 _ (by omega)) (fm.2.1 110 (by decide) (by decide) (by decide) (by decide) (by decide)) (fun i k hi => fm.2.2.1 i k (by omega) (by omega) (by omega) (by omega) (by omega) (by omega) (by omega)) (fun u hu => fx.2.2.2.1 _ (by omega)) (fm.2.1 111 (by decide) (by decide) (by decide) (by decide) (by decide))
end

section
theorem bb_gl {b : Nat} {μx μm q z : Mem} {It Bk It2 Bk2 : List Nat} {cl cl2 : Nat → Prop} {μ : Mem} (hB : Bb7 μ Bk) (g : ∀ B, Gw8 b B μx μm It Bk cl q z It2 Bk2 cl2) (hb : (b : Int) < (μ.1 39 6).toInt) : Bb7 μ Bk2 := by
  intro x hx
  obtain ⟨⟨E, F, _, e2, e3, _⟩, _⟩ := g (x + 1)
  rw [e2] at hx
  rcases List.mem_append.mp hx with e | e
  · exact hB x e
  · rcases e3 x e with e4 | e4
    · rw [e4]; exact hb
    · omega
theorem Re7.push9 {q0 z0 q z : Mem} {It Bk : List Nat} {cl : Nat → Prop} {v b a h p o V : Nat} (hR : Re7 q0 z0 It Bk cl v b a) (qi : ∀ i k, ¬ (i = 30 ∧ k = 7) → q.1 i k = q0.1 i k) (ql : ∀ i k, i ≠ 36 → q.2.1 i k = q0.2.1 i k) (zi : ∀ i k, ¬ (i = 0 ∧ (k = 56 ∨ k = 66)) → ¬ (30 ≤ i ∧ i ≤ 34) → i ≠ 40 → z.1 i k = z0.1 i k) : Re7 q z It Bk cl v b a := hR.of3 (fun k hk => qi 39 k (by omega)) (by rw [qi 39 2 (by omega)]; exact Int.le_refl _) (fun i k hi => qi i k (by omega)) (qi 45 _ (by omega)) (fun k hk => qi 137 k (by omega)) (fun i k hi => ql i k (by omega)) (fun k hk => zi 0 k (by omega) (by omega) (by omega)) (fun i k a1 a2 => zi i k (by omega) (by omega) (by omega)) (fun i k hi => zi i k (by omega) (by omega) (by omega))
theorem nI_24 {u w : Nat} (hu : u ≤ 24) (hw : w ≤ 24) (h : nI u = nI w) : u = w := by
  have := congrArg Int32.toInt h
  rw [ni_ti (by omega), ni_ti (by omega)] at this
  omega
theorem call_end {P : Nat} {C : List Th3} {G : List Fn5} {v b a h D m bc ob V u : Nat} {N : List Int32} {q1 zd qs zs q' z' q z : Mem} {It Bk It' Bk' : List Nat} {cl : Nat → Prop} {a1 : Int32} {Xs : List (Int64 × Nat)} (W1 : W9 P C G v b a h D N m bc ob q1 zd It Bk cl) (hh : h < 2480) (hVq : (q1.1 39 2).toInt = (V : Int)) (hV24 : V ≤ 24) (J : J9 G v b a h V It Bk cl q1 zd qs zs) (hu : (u : Int) < (qs.1 39 2).toInt) (ha : a1.toInt = (u : Int)) (hsu : Su5 qs) (R' : Re7 q' z' It' Bk' cl v b a) (G' : Gl8 b qs zs It Bk cl q' z' It' Bk' cl) (lx : Lx9 v qs q') (lm : Lm9 (zs.1 0 87).toNatClampNeg (zs.1 0 88).toNatClampNeg zs z') (hX8 : Xs.length ≤ 8) (hD : Dn9 Xs q' z') (hA : Ac9 u a1 Xs v b It'.length h q' q) (hB : Bi8 11 a1 (Xs.map Prod.snd) It'.length h z' z) : Rz9 P C G v b a h D N m bc ob q1 zd It Bk cl q z := by
  have hbd1 := W1.2.2.2.2.1
  obtain ⟨⟨s1, s2, s3, s4, s5, s6⟩, n391, _, n89, n300⟩ := W1.f43
  obtain ⟨⟨j1, j2⟩, j3, j4, j5, j6, ⟨j7, j8⟩, ⟨jv1, jv2⟩, ⟨j9, j0⟩⟩ := J
  rcases hA with ⟨n1, n2, n3⟩ | ⟨n1, q0, hcl, hq⟩
  · rcases hB with ⟨_, m1⟩ | ⟨m1, _⟩
    · exact Or.inl ⟨-2, n2, m1, by decide, hsu.of (by rw [n3]; exact lx.1)⟩
    · omega
  · rcases hB with ⟨m1, _⟩ | ⟨_, p, o, y, z0, z2, r, hp, ho, hL, hN, hr, hz⟩
    · omega
    have hLo : ∀ (k : Nat) (x : Int64 × Nat), Xs[k]? = some x → Lo7 z' x.1 x.2 := fun k x hx => va_lo (hD k x hx).2.2
    have hXl : (Xs.map Prod.snd).length = Xs.length := List.length_map _
    have Re0 := re_call R' n1 hcl hL rfl hX8 hLo hp ho
    have hF := hN.2.2.2.2.2.2.2
    have qi : ∀ i k, ¬ (i = 30 ∧ k = 7) → q.1 i k = q0.1 i k := fun i k hk => by rw [hq, sF_at, if_neg hk]; rfl
    have ql : ∀ i k, i ≠ 36 → q.2.1 i k = q0.2.1 i k := fun i k hi => by
      rw [hq]; show (sL q0 36 h _).2.1 i k = _
      rw [sL_at, if_neg (fun e => hi e.1)]
    have zi : ∀ i k, ¬ (i = 0 ∧ (k = 56 ∨ k = 66)) → ¬ (30 ≤ i ∧ i ≤ 34) → i ≠ 40 → z.1 i k = z0.1 i k := fun i k c1 c2 c3 => by
      rw [hz, sF_at, if_neg (by omega), sF_i c3]
      by_cases c : i = 0
      · subst c; exact hF.2.2.1 k (by omega)
      · exact hF.2.1 i k c c2
    have ReF : Re7 q z (It' ++ [p]) (Bk' ++ [b]) cl v b a := Re0.push9 (h := h) (p := p) (o := o) (V := V) qi ql zi
    obtain ⟨t1, t2, t3, t4, _⟩ := R'.1
    have fcT : Fc9 v h V q1 q := by
      have : Fc9 v h V q0 q := by rw [hq]; exact push_fc _ _
      exact j1.tr (lx.fc.tr (hcl.fc.tr this))
    have tp := tn_of hp
    have to := tn_of ho
    have frT : Fr9 h (zd.1 0 87).toNatClampNeg (zd.1 0 88).toNatClampNeg V zd z := by
      have c1 : Fr9 h p o V z2 z := by rw [hz]; exact come_fr _ _
      have c2 : Fr9 h p o V z' z := (hL.fr9 hp ho).tr ((hN.fr9).tr c1 (Nat.le_refl _) (Nat.le_refl _)) (Nat.le_refl _) (Nat.le_refl _)
      have e87 : (zd.1 0 87).toNatClampNeg = (zs.1 0 87).toNatClampNeg := by rw [j3.2.2.1.1]
      have e88 : (zd.1 0 88).toNatClampNeg = (zs.1 0 88).toNatClampNeg := by rw [j3.2.2.1.2]
      rw [e87, e88] at j2 ⊢
      exact j2.tr (lm.fr.tr c2 (by rw [← tp]; exact lm.2.2.2.2.1) (by rw [← to]; exact lm.2.2.2.2.2)) (Nat.le_refl _) (Nat.le_refl _)
    have scF : Sc8 q0 z0 q z := ⟨fun k => qi 40 k (by omega), fun k => ql 44 k (by decide), ⟨zi 0 87 (by omega) (by omega) (by omega), zi 0 88 (by omega) (by omega) (by omega)⟩, fun i k a b => zi i k (by omega) (by omega) (by omega)⟩
    have gwT : ∀ B, Gw8 b B q1 zd It Bk cl q z (It' ++ [p]) (Bk' ++ [b]) cl := fun B => (Gw8.same j3).tr ((G'.1 B).tr ((gw_call (B := B) R' n1 hcl hL hp ho).tr (Gw8.same scF) (Nat.le_refl _)) (Nat.le_refl _)) (Nat.le_refl _)
    have k396 : q.1 39 6 = q1.1 39 6 := fcT.2.2.1 6 (by omega)
    have hBb : Bb7 q (Bk' ++ [b]) := by
      have h0 : Bb7 q Bk := fun x hx => by rw [k396]; exact W1.1.2.1 x hx
      exact bb_gl h0 gwT (by rw [k396]; exact s6)
    have gx01 : Gs7 q1 q0 := (j1.tr (lx.fc.tr hcl.fc)).gs hV24
    have gz2 : Gh7 zd z2 := j2.2.2.2.tr (lm.2.2.2.1.tr ((hL.fm hp ho).2.2.2.1.tr hF.2.2.2))
    have fc0 : Fc9 v h V q1 q0 := j1.tr (lx.fc.tr hcl.fc)
    have k307 : q0.1 30 7 = q1.1 30 7 := by
      obtain ⟨w, ⟨_, _, _, _, _, _, _, _, wo⟩, wi, _⟩ := hcl
      rw [wi 30 7 (by omega) (by omega), wo 30 7 (by decide) (by decide) (by decide) (by decide) (by decide), lx.2.1 30 7 (by decide) (by decide) (by decide) (by decide) (by decide)]; exact j9
    have k66 : z2.1 0 66 = zd.1 0 66 := by
      rw [hF.2.2.1 66 (by decide), hL.2.2.2.2.2.2.1 66 (by decide) (by decide) (by decide) (by decide), lm.2.1 66 (by decide) (by decide) (by decide) (by decide) (by decide)]; exact j0
    have z40 : ∀ k, k < h → z2.1 40 k = zd.1 40 k := fun k hk => by
      rw [hF.2.1 40 k (by decide) (by omega), hL.2.2.2.2.2.2.2.1 40 k (by decide) (by omega) (by omega), lm.2.2.1 40 k (by decide) (by omega) (by omega) (by omega) (by decide) (by decide) (by decide)]
      exact j2.2.2.1 40 k (by decide) (by decide) (by decide) (by omega) (by omega) (by omega) (by omega) (by decide) (by decide) (by omega) (by omega)
    have Sk0 : Sk7 q0 z2 h := W1.1.2.2.1.of gx01 gz2 k307 k66 (fun k hk => fc0.2.2.2.2 36 k (by decide) (by decide) (by decide) (by omega) (by omega) (by omega)) z40
    have hva : Va7 q0 z2 (s_X0_make (nI 3) (q'.1 45 (4 * v + 2))) y 1 0 := by
      rw [t4]; exact hN.leaf (m := 3) (Or.inr (Or.inr rfl))
    obtain ⟨SkF, _, _⟩ := sk_push Sk0 hva (by decide) hr (by omega) hq hz
    have v111 : (zs.1 0 111).toInt = (v : Int) := by
      rw [j2.2.1 111 (by decide) (by decide) (by decide) (by decide) (by decide) (by decide) (by decide) (by decide) (by decide) (by decide)]; exact W1.1.v111
    have PaL : Pa7 q' z' G := j5.keep v111 lx lm
    have v111' : (z'.1 0 111).toInt = (v : Int) := by rw [lm.2.1 111 (by decide) (by decide) (by decide) (by decide) (by decide)]; exact v111
    have hcl' := hcl
    obtain ⟨w, ⟨w2, w1, wk, _, w40, w45, w42, w43, wo⟩, wi, wx7, w8, wr, wl, wx⟩ := hcl'
    have hL' := hL
    obtain ⟨g1, g2, g3, g4, ⟨l1, l2, l3, l4, l5⟩, g6, g7, g8, g9, g10, g11⟩ := hL'
    have q0i : ∀ i k, i ≠ 39 → i ≠ 40 → i ≠ 42 → i ≠ 43 → i ≠ 45 → q0.1 i k = q'.1 i k := fun i k c1 c2 c3 c4 c5 => by rw [wi i k (by omega) (by omega)]; exact wo i k c1 c2 c3 c4 c5
    have q45 : ∀ j, j ≠ 4 * u + 1 → j ≠ 4 * v + 2 → q.1 45 j = q'.1 45 j := fun j c1 c2 => by rw [qi 45 j (by omega), wi 45 j (by omega) (by omega), w45, if_neg (fun e => c2 e.2)]
    have k392 : q.1 39 2 = qs.1 39 2 := by rw [qi 39 2 (by omega), wi 39 2 (by omega) (by omega), wk 2 (by decide), lx.2.2.1 2 (by decide)]
    have k392' : q'.1 39 2 = qs.1 39 2 := lx.2.2.1 2 (by decide)
    have PaF : Pa7 q z G := by
      refine PaL.of (by rw [k392, k392']) (fun i k c1 c2 => ⟨by rw [qi i k (by omega)]; exact q0i i k (by omega) (by omega) (by omega) (by omega) (by omega), by rw [ql i k (by omega)]; exact wl i k (by omega)⟩) (fun x => q45 _ (by omega) (by omega)) ?_ (fun i k hi => ?_) (fun x hx => q45 _ (by omega) (by rw [v111'] at hx; omega)) ?_
      · rw [zi 0 110 (by omega) (by omega) (by omega)]; exact g7 110 (by decide) (by decide) (by decide) (by decide)
      · rw [zi i k (by omega) (by omega) (by omega)]; exact g8 i k (by omega) (by omega) (by omega)
      · rw [zi 0 111 (by omega) (by omega) (by omega)]; exact g7 111 (by decide) (by decide) (by decide) (by decide)
    obtain ⟨V3, p1, _, p3, _⟩ := j5
    have hu24 : u < 24 := by omega
    have hilt := R'.ilt
    have ctx : ∀ w : Nat, w ≤ 24 → Ct9 z (It' ++ [p]) w = Ct9 zs It w + (if w = u then 1 else 0) := by
      intro w hw
      have e1 : Ct9 z' It' w = Ct9 zs It w := ct_grow (G'.1 0) j4.ilt G'.2 w
      rw [← e1]
      unfold Ct9
      rw [List.filter_append, List.length_append]
      have h1 : It'.filter (fun p => decide (z.1 46 p = 11 ∧ z.1 48 p = nI w)) = It'.filter (fun p => decide (z'.1 46 p = 11 ∧ z'.1 48 p = nI w)) := by
        refine List.filter_congr (fun x hx => ?_)
        have hxp := hilt x hx
        rw [tp] at hxp
        rw [zi 46 x (by omega) (by omega) (by omega), zi 48 x (by omega) (by omega) (by omega), g8 46 x (by decide) (by omega) (by omega), g8 48 x (by decide) (by omega) (by omega)]
      rw [h1]
      congr 1
      have e46 : z.1 46 p = 11 := by rw [zi 46 p (by omega) (by omega) (by omega)]; exact l1
      have e48 : z.1 48 p = a1 := by rw [zi 48 p (by omega) (by omega) (by omega)]; exact l3
      have ea : a1 = nI u := ti_eq.mpr (by rw [ha, ni_ti (by omega)])
      by_cases c : w = u
      · subst c
        rw [if_pos rfl, List.filter_cons_of_pos (by rw [e46, e48, ea]; exact decide_eq_true ⟨rfl, rfl⟩)]; rfl
      · rw [if_neg c, List.filter_cons_of_neg (by rw [e46, e48, ea]; exact fun e => c (nI_24 (by omega) (by omega) (of_decide_eq_true e).2).symm)]; rfl
    have CqF : Cq9 q z (It' ++ [p]) := by
      intro x hx
      rw [ctx x hx, k392]
      have h6 := j6 x hx
      by_cases c : x = u
      · subst c
        rw [if_pos (by omega)] at h6
        rw [if_pos (by omega), if_pos rfl, qi 45 _ (by omega), w8, lx.2.2.2.1 _ (by omega)]
        have hle : Ct9 zs It x ≤ 300 := by unfold Ct9; exact Nat.le_trans (List.length_filter_le _ _) n300
        have e1 : (1 : Int32).toInt = 1 := by decide
        rw [ti_add (by omega) (by omega), h6, e1]; omega
      · rw [if_neg c]
        show _ = ((Ct9 zs It x : Nat) : Int)
        rw [← h6]
        by_cases c2 : (x : Int) < (qs.1 39 2).toInt
        · rw [if_pos c2, if_pos c2, q45 _ (by omega) (by omega), lx.2.2.2.1 _ (by omega)]
        · rw [if_neg c2, if_neg c2]
    have hlen : It.length ≤ It'.length := by
      obtain ⟨⟨E, _, e1, _⟩, _⟩ := G'.1 0
      rw [e1, List.length_append]; omega
    have k391 : (q.1 39 1).toInt = ((It'.length + 1 : Nat) : Int) := by
      have := ReF.1.1
      rw [List.length_append] at this; exact this
    have suF : Su5 q := by
      refine hsu.of2 (fun k hk => ?_)
      rw [hq]; show q0.2.2 137 k = _
      rw [wr, lx.1]
    have k394 : q.1 39 4 = z.1 0 96 := by
      rw [qi 39 4 (by omega), wi 39 4 (by omega) (by omega), wk 4 (by decide), lx.2.2.1 4 (by decide), zi 0 96 (by omega) (by omega) (by omega), g7 96 (by decide) (by decide) (by decide) (by decide), lm.2.1 96 (by decide) (by decide) (by decide) (by decide) (by decide)]; exact j7
    have k395 : q.1 39 5 = z.1 0 97 := by
      rw [qi 39 5 (by omega), wi 39 5 (by omega) (by omega), wk 5 (by decide), lx.2.2.1 5 (by decide), zi 0 97 (by omega) (by omega) (by omega), g7 97 (by decide) (by decide) (by decide) (by decide), lm.2.1 97 (by decide) (by decide) (by decide) (by decide) (by decide)]; exact j8
    refine Or.inr ⟨It' ++ [p], Bk' ++ [b], W1.fin hV24 (by omega) fcT frT ReF hBb SkF PaF ?_ CqF suF k394 k395, fun B => F9.fin (gwT B) hV24 hVq (by rw [k392, hVq]; exact jv1) (by rw [k392, hVq, k391, n391]; omega) fcT frT, fcT.2.1 137 9 (by decide) (by decide) (by decide) (by decide) (by decide) (by decide) (by omega) (by omega), fcT.2.2.1 3 (by omega), fcT.2.1 30 5 (by decide) (by decide) (by decide) (by decide) (by decide) (by decide) (by omega) (by omega)⟩
    rw [k396, k392, List.length_append]
    show _ ≤ (v : Int) + 2 + 2 * ((It'.length + 1 : Nat) : Int) + 2 * (ob : Int)
    omega
theorem call_fin {P : Nat} {C : List Th3} {G : List Fn5} {v b a h D m bc ob V u : Nat} {N : List Int32} {q1 zd qs zs : Mem} {It Bk : List Nat} {cl : Nat → Prop} {a1 key : Int32} {pt ut : Nat} {R : Rw9} (W1 : W9 P C G v b a h D N m bc ob q1 zd It Bk cl) (hh : h < 2480) (hVq : (q1.1 39 2).toInt = (V : Int)) (hV24 : V ≤ 24) (J : J9 G v b a h V It Bk cl q1 zd qs zs) (hc : Ch9 pt ut key R qs) (hP : Pm9 R zs) (hR200 : R.length ≤ 200) (hVa : ∀ p, p ∈ R → ∃ w d, Va7 qs zs p.2.1 p.2.2 w d ∧ w ≤ 40) (h8 : ns9 R ≤ 8) (hu : (u : Int) < (qs.1 39 2).toInt) (ha : a1.toInt = (u : Int)) : pk2 (p_X10_leaveCallTo a1 qs) (p_X12_leaveCall_b123 a1 zs) (Rz9 P C G v b a h D N m bc ob q1 zd It Bk cl) := by
  have e0 : (0 : Int32).toInt = ((0 : Nat) : Int) := by decide
  obtain ⟨_, _, pt142, _, _, _, _⟩ := hc.ps
  rw [p_X10_leaveCallTo_eq, p_X12_leaveCall_b123_eq]
  have J' := J
  obtain ⟨⟨j1, j2⟩, j3, j4, j5, j6, ⟨j7, j8⟩, ⟨jv1, jv2⟩, ⟨j9, j0⟩⟩ := J'
  refine lifts9 (R0 := R) (pt := pt) (q0 := qs) pt142 hR200 R.length FUEL FUEL 0 0 0 0 0 qs zs It Bk [] (by omega) (by omega) (by show 0 ≤ 0; omega) (by rw [List.drop_zero]; show 0 + ns9 R ≤ 8; omega) e0 e0 e0 e0 hc.2.1 rfl j4 hc.2.2.2.1 ⟨hP.1, fun k p _ hk => hP.2 k p hk⟩ hVa (fun k x hx => by cases hx) ?_ (fun q' z' hb h68 => Or.inl ⟨-2, hb.1, h68, by decide, hc.su.of hb.2⟩)
  intro q' z' It' Bk' Xs n1 n2 R' G' lx lm hX8 hn1 hn2 hD
  have R'' := R'
  obtain ⟨⟨t1, t2, t3, t4, Pp, Oo, tP, tO, _⟩, hBl, hC, ⟨s1, s2, s3, s4, s5, s6⟩, _⟩ := R''
  obtain ⟨V3, p1, _, p3, _⟩ := j5
  have k392' : q'.1 39 2 = qs.1 39 2 := lx.2.2.1 2 (by decide)
  refine pk2_of2 (A := Ac9 u a1 Xs v b It'.length h q') (B := Bi8 11 a1 (Xs.map Prod.snd) It'.length h z') (c_callI (V := V3) hX8 ha hn1 (by omega) (by rw [k392']; exact p1) p3 (fun k x hx => (hD k x hx).1) s1 s2 s3 s4 s5 s6 t1 (fun hne => by
    obtain ⟨l, e, hl⟩ := cn_last hC s6 hne
    exact ⟨l, e, by omega⟩) (by rw [lx.2.1 30 7 (by decide) (by decide) (by decide) (by decide) (by decide), j9]; exact W1.x7.1) hh) (m_callI (by rw [List.length_map]; exact hX8) (by rw [List.length_map]; exact hn2) R'.2.2.2.2.2.1.1 t2 t3 (by rw [lm.2.1 66 (by decide) (by decide) (by decide) (by decide) (by decide), j0]; exact W1.x7.2) ⟨Oo, tO⟩ (fun k x hx => ?_)) (fun q z hA hB => call_end W1 hh hVq hV24 J hu ha hc.su R' G' lx lm hX8 hD hA hB)
  rw [List.getElem?_map] at hx
  cases hk : Xs[k]? with
  | none => rw [hk] at hx; cases hx
  | some y =>
    rw [hk] at hx
    have : y.2 = x := Option.some.inj hx
    rw [← this]; exact (hD k y hk).2.1
end

section
noncomputable def zr9 (Z : List (Int64 × Nat)) : Rw9 := Z.map (fun p => (tok p.1, p.1, p.2))
theorem zr9_len {Z : List (Int64 × Nat)} : (zr9 Z).length = Z.length := List.length_map _
theorem zr9_app {Z Y : List (Int64 × Nat)} : zr9 (Z ++ Y) = zr9 Z ++ zr9 Y := List.map_append
theorem tok_npt {μx μm : Mem} {v : Int64} {x w d : Nat} (hv : Va7 μx μm v x w d) (hx : μm.1 30 x ≠ 2) : tok v ≠ 8589934592 := by
  obtain ⟨t0, t1⟩ := tok_tk hv
  intro e
  by_cases c : s_X12_isNumber (μm.1 30 x) = 0
  · exact hx ((tk_pt (t0 c)).mp e)
  · exact hx ((tk_pt (t1 c)).mp e)
theorem tok_tk8 {μx μm : Mem} {v : Int64} {x w d : Nat} (hv : Va7 μx μm v x w d) : Tk8 (tok v) := by
  obtain ⟨t0, t1⟩ := tok_tk hv
  by_cases c : s_X12_isNumber (μm.1 30 x) = 0
  · exact ⟨_, _, t0 c⟩
  · exact ⟨_, _, t1 c⟩
theorem pre_wf {μ0 μm : Mem} : ∀ (k : Nat) {g : Nat} {v : Int64} {x w d : Nat} {Z : List (Int64 × Nat)}, Z.length ≤ k → Pre9 μ0 μm g v x Z → Va7 μ0 μm v x w d → Wf9 (tks (zr9 Z)) 1 ∧ ∃ Z', Z = (v, x) :: Z' := by
  intro k
  induction k with
  | zero =>
    intro g v x w d Z hk h hv
    have := pre_len g h
    omega
  | succ k ih =>
    intro g v x w d Z hk h hv
    by_cases c : μm.1 30 x = 2
    · obtain ⟨k', y, z, Z1, Z2, a1, a2, a3, a4, a5, ⟨g1, a6⟩, ⟨g2, a7⟩, ⟨w1, d1, a8⟩, ⟨w2, d2, a9⟩⟩ := pre_pair h hv c
      rw [a5, List.length_cons, List.length_append] at hk
      obtain ⟨i1, _⟩ := ih (by omega) a6 a8
      obtain ⟨i2, _⟩ := ih (by omega) a7 a9
      refine ⟨?_, Z1 ++ Z2, a5⟩
      rw [a5]
      show Wf9 (tok v :: tks (zr9 (Z1 ++ Z2))) 1
      refine ⟨by omega, ?_⟩
      rw [a1, tok_p, if_pos rfl, zr9_app, tks_app]
      exact wf9_app i1 i2
    · have hZ := pre_leaf h c
      subst hZ
      exact ⟨wf9_1 (tok_npt hv c), [], rfl⟩
def Ar8 (μ0 μm : Mem) (p : Int64 × Nat × List (Int64 × Nat)) : Prop := Wt9 μ0 μm p ∧ p.2.2.length ≤ 40 ∧ Al9 μ0 μm p.2.2
theorem args_wf {μ0 μm : Mem} : ∀ (As : List (Int64 × Nat × List (Int64 × Nat))), (∀ p, p ∈ As → Ar8 μ0 μm p) → (fl9 As).length ≤ 40 * As.length ∧ Wf9 (tks (zr9 (fl9 As))) As.length ∧ hds As.length (zr9 (fl9 As)) = As.map (fun p => (p.1, p.2.1)) ∧ (∀ t, t ∈ tks (zr9 (fl9 As)) → Tk8 t) ∧ ∀ p, p ∈ zr9 (fl9 As) → ∃ w d, Va7 μ0 μm p.2.1 p.2.2 w d ∧ w ≤ 40 := by
  intro As
  induction As with
  | nil => intro _; exact ⟨Nat.zero_le _, rfl, rfl, fun t ht => (by cases ht), fun p hp => (by cases hp)⟩
  | cons a As ih =>
    intro h
    obtain ⟨i1, i2, i3, i4, i5⟩ := ih (fun p hp => h p (List.mem_cons_of_mem _ hp))
    obtain ⟨⟨⟨g, hg⟩, w, d, hv⟩, h2, h3⟩ := h a List.mem_cons_self
    obtain ⟨w1, Z', hZ⟩ := pre_wf _ (Nat.le_refl _) hg hv
    have ef : fl9 (a :: As) = a.2.2 ++ fl9 As := rfl
    rw [ef, zr9_app]
    refine ⟨by rw [List.length_append, List.length_cons]; omega, ?_, ?_, fun t ht => ?_, fun p hp => ?_⟩
    · rw [tks_app, List.length_cons, Nat.add_comm]; exact wf9_app w1 i2
    · rw [List.length_cons, List.map_cons]
      have e1 : zr9 a.2.2 = (tok a.1, a.1, a.2.1) :: zr9 Z' := by rw [hZ]; rfl
      rw [e1, List.cons_append, hds_cons (by rw [← e1]; exact w1), i3]
    · rw [tks_app] at ht
      rcases List.mem_append.mp ht with e | e
      · unfold tks zr9 at e
        rw [List.map_map] at e
        obtain ⟨p, hp, hpt⟩ := List.mem_map.mp e
        obtain ⟨w', d', hv', _⟩ := h3 p hp
        rw [← hpt]; exact tok_tk8 hv'
      · exact i4 t e
    · rcases List.mem_append.mp hp with e | e
      · unfold zr9 at e
        obtain ⟨q, hq, hqp⟩ := List.mem_map.mp e
        rw [← hqp]; exact h3 q hq
      · exact i5 p e
theorem args_of {q z : Mem} {h : Nat} : ∀ (n : Nat), (∀ k, k < n → ∃ x w d, (z.1 40 (h + k)).toInt = ((x : Nat) : Int) ∧ Va7 q z (q.2.1 36 (h + k)) x w d ∧ w ≤ 40) → ∃ As : List (Int64 × Nat × List (Int64 × Nat)), As.length = n ∧ (∀ k p, As[k]? = some p → q.2.1 36 (h + k) = p.1 ∧ (z.1 40 (h + k)).toInt = (p.2.1 : Int)) ∧ ∀ p, p ∈ As → Ar8 q z p := by
  intro n
  induction n with
  | zero => intro _; exact ⟨[], rfl, fun k p hk => (by cases hk), fun p hp => (by cases hp)⟩
  | succ n ih =>
    intro hs
    obtain ⟨As, a1, a2, a3⟩ := ih (fun k hk => hs k (by omega))
    obtain ⟨x, w, d, b1, b2, b3⟩ := hs n (by omega)
    obtain ⟨Z, c1, c2, c3⟩ := va_pre d (Nat.le_refl _) b2 b3
    refine ⟨As ++ [(q.2.1 36 (h + n), x, Z)], by rw [List.length_append, a1]; rfl, fun k p hk => ?_, fun p hp => ?_⟩
    · rcases Nat.lt_or_ge k As.length with e | e
      · rw [List.getElem?_append_left e] at hk; exact a2 k p hk
      · rw [List.getElem?_append_right e] at hk
        have : k - As.length < 1 := by have := lt_some hk; simpa using this
        have : k = n := by omega
        subst this
        rw [a1, Nat.sub_self] at hk
        have : (q.2.1 36 (h + k), x, Z) = p := by simpa using hk
        subst this
        exact ⟨rfl, b1⟩
    · rcases List.mem_append.mp hp with e | e
      · exact a3 p e
      · rw [List.mem_singleton.mp e]
        exact ⟨⟨⟨d, c2⟩, w, d, b2⟩, by show Z.length ≤ 40; omega, c3⟩
theorem c_shaped {q0 μm : Mem} {h n V m : Nat} {key a2 : Int32} {mt : Nat → Bool} {Yf : Nat → List Int64} {par : Nat → Int32} {As : List (Int64 × Nat × List (Int64 × Nat))} (hsu : Su5 q0) (hn : n ≤ 5) (h2 : a2.toInt = (n : Int)) (hl : As.length = n) (h30 : (q0.1 30 7).toInt = ((h + n : Nat) : Int)) (hst : ∀ k p, As[k]? = some p → q0.2.1 36 (h + k) = p.1) (hA : ∀ p, p ∈ As → Ar8 q0 μm p) (hy : Vy9 V n mt Yf par) (hv : Vc9 V key mt Yf par q0) (h7 : 0 ≤ (q0.1 137 7).toInt ∧ (q0.1 137 7).toInt < (V : Int)) : pk (p_X10_shapeCall key a2 q0) (fun q2 => ∃ pt ut, Ch9 pt ut key (gch mt Yf par 24 (q0.1 137 7) (zr9 (fl9 As))).1 q2 ∧ Gc9 (gch mt Yf par 24 (q0.1 137 7) (zr9 (fl9 As))).2 (sF q0 30 7 (imax 0 (q0.1 30 7 - a2))) q2) := by
  have e0 : (0 : Int32).toInt = 0 := by decide
  obtain ⟨f1, f2, f3, f4, _⟩ := args_wf As hA
  obtain ⟨pt, ut, hpu, s1, s2⟩ : ∃ pt ut, ((pt = 142 ∧ ut = 145) ∨ (pt = 145 ∧ ut = 142)) ∧ sel 1 (q0.2.2 137 14) = pt ∧ sel 1 (q0.2.2 137 15) = ut := by
    rcases hsu with ⟨a, b⟩ | ⟨a, b⟩
    · exact ⟨142, 145, Or.inl ⟨rfl, rfl⟩, a, b⟩
    · exact ⟨145, 142, Or.inr ⟨rfl, rfl⟩, a, b⟩
  have hpt : 142 ≤ pt := by omega
  have hps : Ps9 pt := by
    rcases hpu with ⟨e, _⟩ | ⟨e, _⟩
    · rw [e]; exact ps_142
    · rw [e]; exact ps_145
  refine c_shape (μm := μm) (h := h) (pt := pt) (by omega) hps hn h2 hl (by omega) s1 h30 hst (fun p hp => (hA p hp).1) (fun μ0 q k2 k1 k3 ha => ?_)
  obtain ⟨b1, b2, b3, b4, b5⟩ := ha
  rw [p_X8_drop_eq]
  refine pk_bw (pk_bvy (fun μ1 q1 => pk_some (Q := fun q' => q' = sF q 30 7 (imax 0 (q.1 30 7 - a2))) q1)) (fun q' hq' => pk_bvs ?_)
  have i' : ∀ i k, ¬ (i = 30 ∧ k = 7) → q'.1 i k = q.1 i k := fun i k hk => by rw [hq', sF_at, if_neg hk]
  have r' : q'.2 = q.2 := by rw [hq']; rfl
  have e30 : q.1 30 7 = q0.1 30 7 := by rw [b3 30 7 (by omega), k1 30 7 (by omega)]
  have g0 : Gc9 0 (sF q0 30 7 (imax 0 (q0.1 30 7 - a2))) q' := by
    refine ⟨fun i k _ => by rw [r', b1, k2]; rfl, fun i k c1 _ => ?_, ?_, fun i k c1 c2 => ?_⟩
    · by_cases c : i = 30 ∧ k = 7
      · obtain ⟨c3, c4⟩ := c
        subst c3; subst c4
        rw [hq', sF_v, sF_v, e30]
      · rw [i' i k c, sF_at, if_neg c, b3 i k (by omega), k1 i k (by omega)]
    · rw [i' 39 4 (by omega), b3 39 4 (by omega), k1 39 4 (by omega), sF_i (by decide)]
      show _ = _ + (0 : Int32)
      rw [Int32.add_zero]
    · rw [r', b4 i k c2 (by omega) (by omega), k2]; rfl
  have pxq : Px9 pt (zr9 (fl9 As)) q := by
    refine ⟨by rw [b2, zr9_len]; congr 1; omega, fun k p hk => ?_⟩
    unfold zr9 at hk
    rw [List.getElem?_map] at hk
    cases hf : (fl9 As)[k]? with
    | none => rw [hf] at hk; cases hk
    | some x =>
      rw [hf] at hk
      have : (tok x.1, x.1, x.2) = p := Option.some.inj hk
      subst this
      have := b5 k x hf
      rw [Nat.zero_add] at this
      exact this
  have hc : Ch9 pt ut key (zr9 (fl9 As)) q' := ⟨hpu, by rw [r', b1, k2]; exact s1, by rw [r', b1, k2]; exact s2, pxq.cong (i' _ _ (by omega)) (fun i k _ => by rw [r']), by rw [i' _ _ (by omega), b3 _ _ (by omega), k3]⟩
  have ax0 : Ax9 (sF q0 30 7 (imax 0 (q0.1 30 7 - a2))) q' := g0.ax
  have hv0 : Vc9 V key mt Yf par (sF q0 30 7 (imax 0 (q0.1 30 7 - a2))) := by
    obtain ⟨v1, v2, v3⟩ := hv
    refine ⟨by rw [sF_i (by decide)]; exact v1, v2, fun u hu => ?_⟩
    obtain ⟨x1, x2, x3⟩ := v3 u hu
    exact ⟨by rw [sF_i (by omega)]; exact x1, x2.cong (by rw [sF_i (by omega)]) (fun k => rfl), by rw [sF_i (by decide)]; exact x3⟩
  have hR : Rg9 n (zr9 (fl9 As)) := ⟨by rw [zr9_len]; omega, by rw [← hl]; exact f2, f4⟩
  have e7 : q'.1 137 7 = q0.1 137 7 := by rw [i' 137 7 (by omega), b3 137 7 (by omega), k1 137 7 (by omega)]
  rw [e7]
  have hv24 := hv.2.1
  refine pk_mono (c_chain hy 24 FUEL (q0.1 137 7) 0 pt ut (zr9 (fl9 As)) q' (by omega) (Or.inr ⟨h7.1, by omega⟩) h7.2 (by rw [e0]; omega) hR hc (hv0.of ax0)) ?_
  rintro q2 ⟨pt', ut', e1, e2⟩
  refine ⟨pt', ut', e1, ?_⟩
  have := g0.tr e2
  rw [Nat.zero_add] at this
  exact this
theorem m_shaped {μx zd : Mem} {n V : Nat} {fi many : Int32} {mt : Nat → Bool} {Yf : Nat → List Int64} {par : Nat → Int32} {As : List (Int64 × Nat × List (Int64 × Nat))} {Q : Mem → Prop} (hn : n ≤ 5) (h2 : many.toInt = (n : Int)) (hl : As.length = n) (h45 : ∀ k p, As[k]? = some p → (zd.1 45 k).toInt = (p.2.1 : Int)) (hA : ∀ p, p ∈ As → Ar8 μx zd p) (hV24 : V ≤ 24) (hy : Vy9 V n mt Yf par) (hv : Vz9 V fi mt Yf par zd) (h7 : 0 ≤ (zd.1 0 111).toInt ∧ (zd.1 0 111).toInt < (V : Int)) (hQ : ∀ f z2, Pm9 (gch mt Yf par 24 (zd.1 0 111) (zr9 (fl9 As))).1 z2 → Az9 zd z2 → z2.1 0 96 = zd.1 0 96 + Int32.ofNat (gch mt Yf par 24 (zd.1 0 111) (zr9 (fl9 As))).2 → z2.1 0 97 = zd.1 0 97 → (∀ k, z2.1 45 k = zd.1 45 k) → Vz9 V fi mt Yf par z2 → pk (p_X12_leaveCall_b10 (f + 1) fi many (-1) z2) Q) : pk (p_X12_leaveCall fi many zd) Q := by
  have e0 : (0 : Int32).toInt = ((0 : Nat) : Int) := by decide
  have e1 : (1 : Int32).toInt = 1 := by decide
  obtain ⟨f1, f2, f3, f4, _⟩ := args_wf As hA
  rw [p_X12_leaveCall_eq, p_X12_layMade_eq]
  have i1 : ∀ i k, ¬ (i = 0 ∧ k = 118) → (sF zd 0 118 0).1 i k = zd.1 i k := fun i k hk => by rw [sF_at, if_neg hk]
  have key : pk (bv (sF zd 0 118 0) (fun μ1 => bv (many - 1) (fun v2 => p_X12_layMade_b11 FUEL 0 v2 μ1))) (fun z => Pm9 (zr9 (fl9 As)) z ∧ Az9 zd z ∧ (∀ k, k ≠ 118 → z.1 0 k = zd.1 0 k) ∧ (∀ i k, i ≠ 0 → i ≠ 55 → ¬ (67 ≤ i ∧ i ≤ 69) → z.1 i k = zd.1 i k)) := by
    refine pk_bvs (pk_bvs ?_)
    refine m_lay (μx := μx) (μ0 := zd) As (by omega) (fun p hp => (hA p hp).1) (by omega) n FUEL 0 (many - 1) (sF zd 0 118 0) (by omega) (by rw [ti_sub (by omega) (by omega), h2, e1]) (by rw [hl, Nat.sub_self]; exact e0) (by rw [sF_v]; decide) (fun j p hj => by rw [i1 45 j (by omega)]; exact h45 j p hj) (by rw [← hl, List.drop_length]; trivial) (fun i k a b => i1 i k (by omega)) (i1 0 56 (by omega)) (fun μ' z a1 a2 hb => ?_)
    obtain ⟨b1, b2, b3, b4⟩ := hb
    have fr : ∀ i k, i ≠ 55 → ¬ (i = 0 ∧ k = 118) → ¬ (i = 67 ∨ i = 68 ∨ i = 69) → z.1 i k = zd.1 i k := fun i k c1 c2 c3 => by rw [b3 i k c1 c2 (by omega), a1 i k c1, i1 i k c2]
    refine ⟨⟨by rw [b2, zr9_len]; congr 1; omega, fun k p hk => ?_⟩, ⟨by rw [b1, a2]; rfl, fun i k c1 c2 c3 c4 => fr i k c3 (by omega) (by omega)⟩, fun k hk => fr 0 k (by decide) (by omega) (by omega), fun i k c1 c2 c3 => fr i k c2 (by omega) (by omega)⟩
    unfold zr9 at hk
    rw [List.getElem?_map] at hk
    cases hf : (fl9 As)[k]? with
    | none => rw [hf] at hk; cases hk
    | some x =>
      rw [hf] at hk
      have : (tok x.1, x.1, x.2) = p := Option.some.inj hk
      subst this
      have := b4 k x hf
      rw [Nat.zero_add] at this
      exact this
  refine pk_bw key (fun z hz => pk_bvs ?_)
  obtain ⟨p1, p2, p3, p4⟩ := hz
  have hR : Rg9 n (zr9 (fl9 As)) := ⟨by rw [zr9_len]; omega, by rw [← hl]; exact f2, f4⟩
  have hvz : Vz9 V fi mt Yf par z := by
    refine ⟨by rw [p3 110 (by decide)]; exact hv.1, fun u hu => ?_⟩
    obtain ⟨x1, ⟨x2, x2'⟩, x3⟩ := hv.2 u hu
    exact ⟨by rw [p4 57 u (by decide) (by decide) (by omega)]; exact x1, ⟨x2.of (fun i l hi => p4 i l (by omega) (by omega) (by omega)), by rw [p4 58 u (by decide) (by decide) (by omega)]; exact x2'⟩, by rw [p4 66 u (by decide) (by decide) (by omega)]; exact x3⟩
  rw [p3 111 (by decide)]
  refine m_chain hV24 hy 24 FUEL (zd.1 0 111) (zr9 (fl9 As)) z (Or.inr ⟨h7.1, by omega⟩) h7.2 hR p1 hvz (fun f' z2 x1 x2 => ?_)
  refine hQ f' z2 x1 (p2.tr ⟨x2.1, fun i k c1 c2 c3 c4 => x2.2.2 i k (by omega) (by omega)⟩) (by rw [x2.2.1, p3 96 (by decide)]) ?_ (fun k => ?_) (hvz.of x2)
  · rw [x2.2.2 0 97 (by omega) (by omega), p3 97 (by decide)]
  · rw [x2.2.2 45 k (by omega) (by omega), p4 45 k (by decide) (by decide) (by omega)]
end

section
theorem tk7_inj {x : Int64} {s b s' b' : Int32} (h : Tk7 x s b) (h' : Tk7 x s' b') : s = s' ∧ b = b' := by
  have hs : s = s' := by
    have k1 := tk_kind h
    have k2 := tk_kind h'
    rw [k1] at k2
    have a1 := tk_st h
    have a2 := tk_st h'
    by_cases c : s = 3
    · rw [c]; exact (a2.mp (a1.mpr c)).symm
    · have c' : ¬ s' = 3 := fun e => c (a1.mp (a2.mpr e))
      rw [if_neg c, if_neg c'] at k2; exact k2
  subst hs
  refine ⟨rfl, ?_⟩
  rcases tk_cases h with ⟨a1, a2, a3⟩ | ⟨a1, a2, a3⟩ | ⟨m, hm, a1, a2⟩ <;> rcases tk_cases h' with ⟨b1, b2, b3⟩ | ⟨b1, b2, b3⟩ | ⟨m', hm', b1, b2⟩
  · rw [a2, b2]
  · rw [a2, b2]
  · rw [a1] at b1; rcases hm' with e | e <;> subst e <;> exact absurd b1 (by decide)
  · rw [a2, b2]
  · rw [a2, b2]
  · rw [a1] at b1; rcases hm' with e | e <;> subst e <;> exact absurd b1 (by decide)
  · rw [b1] at a1; rcases hm with e | e <;> subst e <;> exact absurd a1 (by decide)
  · rw [b1] at a1; rcases hm with e | e <;> subst e <;> exact absurd a1 (by decide)
  · rw [a2] at b2
    exact (mk_inj (by omega) (by omega) b2).2
theorem tk7_fun {x y : Int64} {s b : Int32} (h : Tk7 x s b) (h' : Tk7 y s b) : x = y := by
  rcases tk_cases h with ⟨a1, a2, a3⟩ | ⟨a1, a2, a3⟩ | ⟨m, hm, a1, a2⟩ <;> rcases tk_cases h' with ⟨b1, b2, b3⟩ | ⟨b1, b2, b3⟩ | ⟨m', hm', b1, b2⟩
  · rw [a3, b3]
  · rw [a1] at b1; exact absurd b1 (by decide)
  · rw [a1] at b1; rcases hm' with e | e <;> subst e <;> exact absurd b1 (by decide)
  · rw [a1] at b1; exact absurd b1 (by decide)
  · rw [a3, b3]
  · rw [a1] at b1; rcases hm' with e | e <;> subst e <;> exact absurd b1 (by decide)
  · rw [b1] at a1; rcases hm with e | e <;> subst e <;> exact absurd a1 (by decide)
  · rw [b1] at a1; rcases hm with e | e <;> subst e <;> exact absurd a1 (by decide)
  · rw [a1] at b1
    have : m = m' := nI_inj (by omega) (by omega) b1
    subst this
    rw [a2, b2]
theorem tks_get {R : Rw9} {k : Nat} {p : Int64 × Int64 × Nat} (h : R[k]? = some p) : (tks R)[k]? = some p.1 := by
  unfold tks; rw [List.getElem?_map, h]; rfl
theorem match_iff {V : Nat} {key fi : Int32} {mt : Nat → Bool} {Yf : Nat → List Int64} {par : Nat → Int32} {q z : Mem} (hvc : Vc9 V key mt Yf par q) (hvz : Vz9 V fi mt Yf par z) {R : Rw9} (hP : Pm9 R z) {u : Nat} (hu : u < V) : Cm9 q key (tks R) (47 + 3 * u) ↔ Dm9 z fi u := by
  obtain ⟨c1, c2, c3⟩ := hvc.2.2 u hu
  obtain ⟨d1, ⟨d2, d2'⟩, d3⟩ := hvz.2 u hu
  constructor
  · rintro ⟨e1, e2, e3⟩
    have hlen : (Yf u).length = R.length := by
      have := c2.1
      rw [e2, tks_len] at this
      omega
    refine ⟨d1.mpr (c1.mp e1), ti_eq.mpr (by rw [d2', hP.1, hlen]), fun k hk => ?_⟩
    rw [hP.1] at hk
    have hkR : k < R.length := by omega
    have hpk : R[k]? = some R[k] := List.getElem?_eq_getElem hkR
    have hyk : (Yf u)[k]? = some (Yf u)[k] := List.getElem?_eq_getElem (by omega)
    have t1 := (hP.2 k _ hpk).1
    have t2 := d2 k _ hyk
    have y1 := c2.2 k _ hyk
    have y2 := e3 k _ (tks_get hpk)
    rw [y1] at y2
    rw [y2] at t2
    exact tk7_inj t2 t1
  · rintro ⟨e1, e2, e3⟩
    have hlen : (Yf u).length = R.length := by
      have := congrArg Int32.toInt e2
      rw [d2', hP.1] at this
      omega
    refine ⟨c1.mpr (d1.mp e1), by rw [c2.1, hlen, tks_len], fun k t ht => ?_⟩
    have hkR : k < R.length := by have := lt_some ht; rw [tks_len] at this; exact this
    have hpk : R[k]? = some R[k] := List.getElem?_eq_getElem hkR
    have hyk : (Yf u)[k]? = some (Yf u)[k] := List.getElem?_eq_getElem (by omega)
    have t1 := (hP.2 k _ hpk).1
    have t2 := d2 k _ hyk
    obtain ⟨s1, s2⟩ := e3 k (by rw [hP.1]; omega)
    rw [s1, s2] at t2
    have : (tks R)[k]? = some (R[k]).1 := tks_get hpk
    rw [this] at ht
    have ht := Option.some.inj ht
    rw [← ht, c2.2 k _ hyk]
    exact tk7_fun t2 t1
theorem ns9_cnt : ∀ (R : Rw9) (S : Nat → Bool) (i : Nat), (∀ k p, R[k]? = some p → S (i + k) = decide (p.1 = 17179869184)) → ((List.range' i R.length).filter S).length = ns9 R := by
  intro R
  induction R with
  | nil => intro S i _; rfl
  | cons p R ih =>
    intro S i h
    rw [List.length_cons, List.range'_succ, ns9_cons]
    have h0 := h 0 p rfl
    rw [Nat.add_zero] at h0
    have hi := ih S (i + 1) (fun k q hk => by rw [show i + 1 + k = i + (k + 1) by omega]; exact h (k + 1) q (by simpa using hk))
    by_cases c : p.1 = 17179869184
    · rw [List.filter_cons_of_pos (by rw [h0]; exact decide_eq_true c), List.length_cons, hi, if_pos c]; omega
    · rw [List.filter_cons_of_neg (by rw [h0]; simpa using c), hi, if_neg c]; omega
theorem cn9_ns {R : Rw9} {S : Nat → Bool} (h200 : R.length ≤ 200) (h : ∀ k p, R[k]? = some p → S k = decide (p.1 = 17179869184)) : (cn9 S 0 R.length 0).toInt = (ns9 R : Int) := by
  have e0 : (0 : Int32).toInt = ((0 : Nat) : Int) := by decide
  rw [cn9_ti R.length 0 0 0 e0 (by omega), Nat.zero_add, ns9_cnt R S 0 (fun k p hk => by rw [Nat.zero_add]; exact h k p hk)]
theorem m_129N {z : Mem} {cd : Int32} (h : z.1 0 68 = cd) (hc : cd ≠ 0) (g : Nat) (a b c : Int32) : pk (p_X12_leaveCall_b129 g a b c z) (fun z => z.1 0 68 = cd) := by
  have n : ¬ z.1 0 68 = 0 := by rw [h]; exact hc
  have h86 : pk (p_X12_leaveCall_b186 a b z) (fun z => z.1 0 68 = cd) := by
    rw [p_X12_leaveCall_b186_eq, if_neg n]
    exact pk_some h
  cases g with
  | zero => intro r e; rw [p_X12_leaveCall_b129_z] at e; exact absurd e (by simp)
  | succ g =>
    rw [p_X12_leaveCall_b129_s, if_neg n]
    exact pk_ite (fun _ => h86) (fun _ => h86)
theorem bw_id (f : Option Mem) : bw f (fun μ => some μ) = f := by cases f <;> rfl
theorem kind4 {R : Rw9} {q z : Mem} {pt : Nat} (hp : Px9 pt R q) (hP : Pm9 R z) : ∀ k p, R[k]? = some p → decide (s_X0_kind (q.2.1 (pt + 1) k) = 4) = decide (p.1 = 17179869184) ∧ decide (z.1 67 k = 3) = decide (p.1 = 17179869184) := by
  intro k p hk
  have t := (hP.2 k p hk).1
  rw [(hp.2 k p hk).1, tk_kind t]
  have ts := tk_st t
  by_cases c : z.1 67 k = 3
  · rw [if_pos c, c]
    have := ts.mpr c
    rw [this]; exact ⟨rfl, rfl⟩
  · rw [if_neg c]
    have cn : ¬ p.1 = 17179869184 := fun e => c (ts.mp e)
    have n4 : ¬ z.1 67 k = 4 := by
      rcases tk_cases t with ⟨a1, _⟩ | ⟨a1, _⟩ | ⟨m, hm, a1, _⟩
      · rw [a1]; decide
      · rw [a1]; decide
      · rw [a1]; rcases hm with e | e <;> subst e <;> decide
    exact ⟨by rw [decide_eq_false n4, decide_eq_false cn], by rw [decide_eq_false c, decide_eq_false cn]⟩
theorem j_65 {P : Nat} {C : List Th3} {G : List Fn5} {v b a h D m bc ob V n f : Nat} {N : List Int32} {q1 zd qa za : Mem} {It Bk : List Nat} {cl : Nat → Prop} {key fi r : Int32} {pt ut : Nat} {R : Rw9} {mt : Nat → Bool} {Yf : Nat → List Int64} {par : Nat → Int32} (W1 : W9 P C G v b a h D N m bc ob q1 zd It Bk cl) (hh : h < 2480) (hVq : (q1.1 39 2).toInt = (V : Int)) (J : J9 G v b a h V It Bk cl q1 zd qa za) (hc : Ch9 pt ut key R qa) (hP : Pm9 R za) (hR : Rg9 n R) (hRh : Hv9 (tks R) n) (hVal : ∀ p, p ∈ R → ∃ w d, Va7 qa za p.2.1 p.2.2 w d ∧ w ≤ 40) (hvc : Vc9 V key mt Yf par qa) (hvz : Vz9 V fi mt Yf par za) (hf : fi.toInt = (f : Int)) (hfG : f < G.length) (hkey : key.toInt = ((za.1 2 f).toInt - 1) * 6 + (za.1 3 f).toInt) (hn3 : (za.1 3 f).toInt = (n : Int)) (hr : Fi9 (fun u => Cm9 qa key (tks R) (47 + 3 * u)) V r) (h8 : r = -1 → ns9 R ≤ 8) : pk2 (p_X10_leaveCall_b65 r qa) (p_X12_leaveCall_b108 fi r za) (Rz9 P C G v b a h D N m bc ob q1 zd It Bk cl) := by
  have em : (-1 : Int32).toInt = -1 := by decide
  obtain ⟨V1, hV24, hv3⟩ := hvc
  have hvc : Vc9 V key mt Yf par qa := ⟨V1, hV24, hv3⟩
  have J' := J
  obtain ⟨⟨j1, j2⟩, j3, j4, j5, j6, _, _, _⟩ := J'
  obtain ⟨p1, p2, p3, p4, p5, p6, p7⟩ := hc.ps
  have k137 : qa.1 137 7 = q1.1 137 7 := j1.2.1 137 7 (by decide) (by decide) (by decide) (by decide) (by decide) (by decide) (by omega) (by omega)
  have k111 : za.1 0 111 = zd.1 0 111 := j2.2.1 111 (by decide) (by decide) (by decide) (by decide) (by decide) (by decide) (by decide) (by decide) (by decide) (by decide)
  have hpe : za.1 0 111 = qa.1 137 7 := by rw [k111, k137]; exact W1.1.2.2.2.2.2.2.2.2.2.2
  have hvt : (qa.1 137 7).toInt = (v : Int) := j4.2.2.2.1.2.1
  have hvV : v < V := by have := j4.2.2.2.1.2.2.2.1; omega
  have hk4 := kind4 hc.2.2.2.1 hP
  rw [p_X10_leaveCall_b65_eq, p_X12_leaveCall_b108_eq]
  by_cases cr : r = -1
  · rw [if_pos cr, if_pos cr, hpe, hc.2.1]
    refine pk2_bdl (c_addVariant (R := R) (V := V) (by omega) hc.2.2.2.1 hc.2.2.2.2 hR.1 V1 hV24) (fun r11 μ10 hA => pk2_bdr (m_newV (L := R.length) (by exact hvz.1) hV24 hP.1 hR.1) (fun r31 μ30 hB => ?_))
    rcases hA with ⟨a1, a2, a3⟩ | ⟨a1, a2, a3⟩
    · rcases hB with ⟨b1, b2, b3⟩ | ⟨b1, _⟩
      · have a2 : r11 = -1 := a2
        have a3 : μ10 = qa := a3
        have b3 : μ30 = sF za 0 68 (-4) := b3
        rw [p_X10_leaveCall_b86_eq, if_pos a2, a3, p_X10_breakOff_eq, if_pos j4.2.2.2.1.1, p_X12_leaveCall_b123_eq]
        refine pk2_of2 (A := fun q => q = sF qa 137 6 (-4)) (B := fun z => z.1 0 68 = -4) (pk_bw (pk_bvy (fun μ2 q2 => pk_some (Q := fun q => q = sF qa 137 6 (-4)) q2)) (fun q hq => pk_some hq)) (m_129N (by rw [b3, sF_v]) (by decide) _ _ _ _) (fun q z hq hz => Or.inl ⟨-4, by rw [hq, sF_v], hz, by decide, hc.su.of (by rw [hq]; rfl)⟩)
      · omega
    · rcases hB with ⟨b1, _⟩ | ⟨_, b2, b3⟩
      · omega
      have a2 : r11.toInt = (V : Int) := a2
      have b2 : r31.toInt = (V : Int) := b2
      have a3 : Nv9 V (tks R) key (qa.1 137 7) (cn9 (fun k => decide (s_X0_kind (qa.2.1 (pt + 1) k) = 4)) 0 R.length 0) qa μ10 := a3
      have b3 : Nm9 V R.length fi (qa.1 137 7) za μ30 := b3
      have er : r31 = r11 := ti_eq.mpr (by rw [a2, b2])
      rw [er, p_X10_leaveCall_b86_eq, if_neg (fun e => by rw [e, em] at a2; omega), bw_id]
      have hst : ∀ k, k < R.length → (fun k => decide (s_X0_kind (qa.2.1 (pt + 1) k) = 4)) k = decide (za.1 67 k = 3) := fun k hk => by
        have := hk4 k _ (List.getElem?_eq_getElem hk)
        exact this.1.trans this.2.symm
      have hA' : Pa7 μ10 μ30 G := Pa7.new (f := f) j5 V1 a1 hR.1 hP ⟨hR.2.1, hRh⟩ hf hfG hkey hn3 (Or.inr ⟨by rw [hvt]; omega, by rw [hvt]; omega⟩) hst (by rw [cn9_ns hR.1 (fun k p hk => (hk4 k p hk).1)]; have := h8 cr; omega) a3 b3
      have J2 := J.newv V1 a1 a3 b3 hA'
      have gx : Gs7 qa μ10 := (a3.fc (v := v) (h := h)).gs hV24
      have gz : Gh7 za μ30 := b3.gh
      refine call_fin (u := V) W1 hh hVq hV24 J2 (pt := pt) (ut := ut) (key := key) (R := R) ⟨hc.1, by rw [a3.1]; exact hc.2.1, by rw [a3.1]; exact hc.2.2.1, hc.2.2.2.1.cong (a3.2.2.1 _ _ (by omega) (by omega) (by omega)) (fun i k hi => a3.2.2.2.2.2.2 i k (by omega) (by omega)), by rw [a3.2.2.1 _ _ (by omega) (by omega) (by omega)]; exact hc.2.2.2.2⟩ ?_ hR.1 (fun p hp => ?_) (h8 cr) (by rw [a3.2.1.1]; omega) a2
      · refine ⟨by rw [b3.2.2.1 0 118 (by omega) (by omega) (by omega)]; exact hP.1, fun k p hk => ?_⟩
        rw [b3.2.2.1 67 k (by omega) (by omega) (by omega), b3.2.2.1 68 k (by omega) (by omega) (by omega), b3.2.2.1 69 k (by omega) (by omega) (by omega)]
        exact hP.2 k p hk
      · obtain ⟨w, d, x1, x2⟩ := hVal p hp
        exact ⟨w, d, x1.gr gx gz, x2⟩
  · rw [if_neg cr, if_neg cr, p_X10_leaveCall_b86_eq, if_neg cr, bw_id]
    rcases hr with ⟨e, _⟩ | ⟨u, u1, u2, u3, _⟩
    · exact absurd e cr
    have u3 : Cm9 qa key (tks R) (47 + 3 * u) := u3
    refine call_fin (u := u) W1 hh hVq hV24 J hc hP hR.1 hVal ?_ (by rw [V1]; omega) u2
    obtain ⟨d1, d2, d3⟩ := (match_iff hvc hvz hP u1).mp u3
    obtain ⟨V', x1, x2, x3, x4⟩ := j5
    obtain ⟨⟨f', L, y1, y2, y3, y4, y5, y6, y7, y8, y9⟩, _⟩ := x4 u (by omega)
    have hL : L = R.length := by
      have := congrArg Int32.toInt d2
      rw [y4, hP.1] at this
      omega
    rw [y8] at y7
    have : ((List.range L).filter (fun k => decide (za.1 60 (210 * u + k) = 3))).length = ns9 R := by
      rw [hL, rng0]
      refine ns9_cnt R _ 0 (fun k p hk => ?_)
      rw [Nat.zero_add, (d3 k (by rw [hP.1]; have := lt_some hk; omega)).1]
      exact (hk4 k p hk).2
    omega
end

section
theorem fn_key {G : List Fn5} {z : Mem} (hP : Pn5 z G) {j : Nat} (hj : j < G.length) : ∃ g H1 H2, G = H1 ++ g :: H2 ∧ H2.length = j ∧ z.1 2 j = g.1 - 97 + 1 ∧ (z.1 3 j).toInt = (g.2.1.length : Int) := by
  obtain ⟨g, H1, H2, e, el⟩ := fn_ex hj
  obtain ⟨_, _, hK⟩ := hP
  rw [e] at hK
  obtain ⟨⟨a1, a2, _⟩, _⟩ := hK.tail
  refine ⟨g, H1, H2, e, el, ?_, ?_⟩
  · rw [← el]; exact a1
  · rw [← el]; exact a2
theorem ky_w {g : Fn5} {w s : Int32} (hg : Kv (fkey g)) (h1 : w = g.1 - 97 + 1) (h2 : s.toInt = (g.2.1.length : Int)) : (w.toInt - 1) * 6 + s.toInt = (ky (fkey g) : Int) := by
  have hr := isL_r (c := g.1) hg.1
  have d0 : (97 : Int32).toInt = 97 := by decide
  have e1 : (1 : Int32).toInt = 1 := by decide
  have d1 : (g.1 - 97).toInt = g.1.toInt - 97 := by rw [ti_sub (by omega) (by omega), d0]
  have d2 : (g.1 - 97 + 1).toInt = g.1.toInt - 97 + 1 := by rw [ti_add (by omega) (by omega), d1, e1]
  rw [h1, d2, h2]
  show _ = (((g.1.toInt - 97).toNat * 6 + g.2.1.length : Nat) : Int)
  omega
theorem rng_get {n k : Nat} {F : Nat → Int64} {t : Int64} (h : ((List.range n).map F)[k]? = some t) : k < n ∧ t = F k := by
  have hk : k < n := by have := lt_some h; rw [List.length_map, List.length_range] at this; exact this
  refine ⟨hk, ?_⟩
  rw [List.getElem?_map, List.getElem?_range hk] at h
  exact (Option.some.inj h).symm
theorem pa_v9 {q z : Mem} {G G1 G2 : List Fn5} {f : Fn5} {key fi : Int32} (hA : Pa7 q z G) (hP : Pn5 z G) (hK : Kw (G.map fkey)) (hG : G = G1 ++ f :: G2) (hfi : fi.toInt = (G2.length : Int)) (hkey : key.toInt = (ky (fkey f) : Int)) : ∃ (V : Nat) (mt : Nat → Bool) (Yf : Nat → List Int64) (par : Nat → Int32), Vc9 V key mt Yf par q ∧ Vz9 V fi mt Yf par z ∧ Vy9 V f.2.1.length mt Yf par := by
  obtain ⟨V, h1, h2, h3, h4⟩ := hA
  have kf : Kv (fkey f) := hK.2 _ (List.mem_map.mpr ⟨f, by rw [hG]; simp, rfl⟩)
  refine ⟨V, fun u => decide (z.1 57 u = fi), fun u => (List.range (z.1 58 u).toNatClampNeg).map (fun k => q.2.1 (48 + 3 * u) k), fun u => z.1 66 u, ⟨h1, h3, fun u hu => ?_⟩, ⟨h2, fun u hu => ?_⟩, fun u hu => ?_⟩
  · obtain ⟨⟨f', L, a1, a2, a3, a4, a5, a6, a8, a9, a7⟩, b, bp, bw, br⟩ := h4 u hu
    refine ⟨?_, ⟨?_, fun k t hk => ?_⟩, b⟩
    · obtain ⟨g, H1, H2, e, el, w1, w2⟩ := fn_key hP a2
      have kg := hK.2 _ (List.mem_map.mpr ⟨g, by rw [e]; simp, rfl⟩)
      rw [ky_w kg w1 w2] at a3
      constructor
      · intro hk
        rw [hk, hkey] at a3
        have hky := ky_inj kf kg (by omega)
        obtain ⟨_, e2⟩ := key_uniq hK hG e hky
        refine decide_eq_true (ti_eq.mpr ?_)
        rw [a1, hfi, e2, el]
      · intro hk
        have hk := of_decide_eq_true hk
        rw [hk, hfi] at a1
        have hh := hG.symm.trans e
        have hl1 : G1.length = H1.length := by
          have := congrArg List.length hh
          rw [List.length_append, List.length_append, List.length_cons, List.length_cons] at this
          omega
        obtain ⟨_, e3⟩ := List.append_inj hh hl1
        have e4 : f = g := by injection e3
        refine ti_eq.mpr ?_
        rw [a3, hkey, e4]
    · rw [a6, List.length_map, List.length_range, tn_of a4]
    · obtain ⟨_, e⟩ := rng_get hk
      rw [e, show 47 + 3 * u + 1 = 48 + 3 * u by omega]
  · obtain ⟨⟨f', L, a1, a2, a3, a4, a5, a6, a8, a9, a7⟩, b, bp, bw, br⟩ := h4 u hu
    refine ⟨⟨fun e => decide_eq_true e, fun e => of_decide_eq_true e⟩, ⟨fun k t hk => ?_, ?_⟩, rfl⟩
    · obtain ⟨hl, e⟩ := rng_get hk
      rw [e]
      rw [tn_of a4] at hl
      exact a7 k hl
    · rw [List.length_map, List.length_range, a4, tn_of a4]
  · obtain ⟨⟨f', L, a1, a2, a3, a4, a5, a6, a8, a9, a7⟩, b, bp, bw, br⟩ := h4 u hu
    refine ⟨by rw [List.length_map, List.length_range, tn_of a4]; exact a5, fun hm => ?_, fun t ht => ?_, bp⟩
    · have hm := of_decide_eq_true hm
      obtain ⟨_, _, hk6⟩ := hP
      rw [hG] at hk6
      obtain ⟨⟨_, c2, _⟩, _⟩ := hk6.tail
      show Wf9 ((List.range (z.1 58 u).toNatClampNeg).map (fun k => q.2.1 (48 + 3 * u) k)) _
      rw [tn_of a4]
      exact (bw G2.length L f.2.1.length (by rw [hm]; exact hfi) a4 c2).1
    · obtain ⟨k, hk, e⟩ := List.mem_map.mp ht
      have hk := List.mem_range.mp hk
      rw [tn_of a4] at hk
      rw [← e]
      exact ⟨_, _, a7 k hk⟩
theorem pk2_ofpk {α β : Type} {f : Option α} {g : Option β} {P : α → β → Prop} (h : pk f (fun q => pk g (fun z => P q z))) : pk2 f g P := fun q z e e2 => h q e z e2
theorem c_too {q : Mem} {pt V L : Nat} {key : Int32} (hs : sel 1 (q.2.2 137 14) = pt) (hV : (q.1 39 2).toInt = (V : Int)) (hV24 : V ≤ 24) (hL : (q.1 pt 2).toInt = (L : Int)) (h200 : L ≤ 200) : pk (p_X10_isTooMuch key q) (fun r => r.2 = q ∧ (r.1 = 0 ↔ ¬ (q.1 137 1 ≤ cn9 (fun u => decide (q.1 (47 + 3 * u) 3 = key)) 0 V 0 ∨ q.1 137 2 ≤ q.1 39 1 ∨ ¬ cn9 (fun k => decide (s_X0_kind (q.2.1 (pt + 1) k) = 4)) 0 L 0 ≤ 8))) := by
  rw [p_X10_isTooMuch_eq]
  refine pk_bdv (pk_mono (c_vof hV hV24) (fun r h => ⟨h.2, h.1⟩)) ?_
  refine pk_ite (fun c => pk_some ⟨rfl, ?_⟩) (fun c => pk_ite (fun c2 => pk_some ⟨rfl, ?_⟩) (fun c2 => ?_))
  · exact ⟨fun e => absurd (show (1 : Int32) = 0 from e) (by decide), fun e => absurd (Or.inl c) e⟩
  · exact ⟨fun e => absurd (show (1 : Int32) = 0 from e) (by decide), fun e => absurd (Or.inr (Or.inl c2)) e⟩
  rw [hs]
  refine pk_bdv (pk_mono (c_stars hL h200) (fun r h => ⟨h.2, h.1⟩)) ?_
  refine pk_ite (fun c3 => pk_some ⟨rfl, ?_⟩) (fun c3 => pk_some ⟨rfl, ?_⟩)
  · exact ⟨fun _ e => e.elim c (fun e => e.elim c2 (fun e => e c3)), fun _ => rfl⟩
  · exact ⟨fun e => absurd (show (1 : Int32) = 0 from e) (by decide), fun e => absurd (Or.inr (Or.inr c3)) e⟩
theorem m_too {α : Type} {F : Option α} {Post : α → Mem → Prop} {z : Mem} {V L : Nat} {fi many : Int32} (hV : (z.1 0 110).toInt = (V : Int)) (hV24 : V ≤ 24) (hL : (z.1 0 118).toInt = (L : Int)) (h200 : L ≤ 200) {r6 : Int32} (h1 : (z.1 29 1 ≤ cn9 (fun u => decide (z.1 57 u = fi)) 0 V 0 ∨ z.1 29 2 ≤ z.1 0 89 ∨ ¬ cn9 (fun k => decide (z.1 67 k = 3)) 0 L 0 ≤ 8) → pk2 F (p_X12_leaveCall_b87 fi many z) Post) (h0 : ¬ (z.1 29 1 ≤ cn9 (fun u => decide (z.1 57 u = fi)) 0 V 0 ∨ z.1 29 2 ≤ z.1 0 89 ∨ ¬ cn9 (fun k => decide (z.1 67 k = 3)) 0 L 0 ≤ 8) → pk2 F (p_X12_leaveCall_b108 fi r6 z) Post) : pk2 F (bd (p_X12_variantsOf fi z) (fun r33 μ32 => gd (inb 1 3) ((if (μ32.1 29 (1 : Int32).toNatClampNeg) ≤ r33 then p_X12_leaveCall_b87 fi many μ32 else gd (inb 2 3) ((if (μ32.1 29 (2 : Int32).toNatClampNeg) ≤ (μ32.1 0 89) then p_X12_leaveCall_b87 fi many μ32 else bd (p_X12_starsMade μ32) (fun r42 μ41 => (if r42 ≤ 8 then p_X12_leaveCall_b108 fi r6 μ41 else p_X12_leaveCall_b87 fi many μ41)))))))) Post := by
  have t1 : (1 : Int32).toNatClampNeg = 1 := by decide
  have t2 : (2 : Int32).toNatClampNeg = 2 := by decide
  refine pk2_bdvr (pk_mono (m_vof hV hV24) (fun r h => ⟨h.2, h.1⟩)) (pk2_gdr (fun _ => ?_))
  rw [t1]
  by_cases c : z.1 29 1 ≤ cn9 (fun u => decide (z.1 57 u = fi)) 0 V 0
  · rw [if_pos c]; exact h1 (Or.inl c)
  rw [if_neg c]
  refine pk2_gdr (fun _ => ?_)
  rw [t2]
  by_cases c2 : z.1 29 2 ≤ z.1 0 89
  · rw [if_pos c2]; exact h1 (Or.inr (Or.inl c2))
  rw [if_neg c2]
  refine pk2_bdvr (pk_mono (m_starsM hL h200) (fun r h => ⟨h.2, h.1⟩)) ?_
  by_cases c3 : cn9 (fun k => decide (z.1 67 k = 3)) 0 L 0 ≤ 8
  · rw [if_pos c3]
    exact h0 (fun e => e.elim c (fun e => e.elim c2 (fun e => e c3)))
  · rw [if_neg c3]; exact h1 (Or.inr (Or.inr c3))
theorem str_wf : ∀ (H : List (Int64 × Nat)), Wf9 (tks (str9 H)) H.length := by
  intro H
  induction H with
  | nil => rfl
  | cons h H ih =>
    show Wf9 (17179869184 :: tks (str9 H)) (H.length + 1)
    refine ⟨by omega, ?_⟩
    rw [if_neg (by decide)]; exact ih
theorem str_len {H : List (Int64 × Nat)} : (str9 H).length = H.length := List.length_map _
theorem str_rg {H : List (Int64 × Nat)} (hn : H.length ≤ 5) : Rg9 H.length (str9 H) := by
  refine ⟨by rw [str_len]; omega, str_wf H, fun t ht => ?_⟩
  unfold tks str9 at ht
  rw [List.map_map] at ht
  obtain ⟨x, _, e⟩ := List.mem_map.mp ht
  have e : (17179869184 : Int64) = t := e
  rw [← e]; exact tk8_st
theorem ns9_le {R : Rw9} : ns9 R ≤ R.length := List.length_filter_le _ _
theorem str_hv {H : List (Int64 × Nat)} {n : Nat} : Hv9 (tks (str9 H)) n := by
  refine Hv9.flat (fun t ht => ?_)
  unfold tks str9 at ht
  rw [List.map_map] at ht
  obtain ⟨x, _, e⟩ := List.mem_map.mp ht
  have e : (17179869184 : Int64) = t := e
  rw [← e]; exact st_ne
theorem gch_hv {V n : Nat} {mt : Nat → Bool} {Yf : Nat → List Int64} {par : Nat → Int32} (hy : Vy9 V n mt Yf par) : ∀ (m : Nat) (k : Int32) (R : Rw9), (k = -1 ∨ (0 ≤ k.toInt ∧ k.toInt < (V : Int))) → Rg9 n R → Hv9 (tks R) n → Hv9 (tks (gch mt Yf par m k R).1) n := by
  intro m
  induction m with
  | zero => intro k R _ _ h; exact h
  | succ m ih =>
    intro k R hk hR h
    rw [gch]
    by_cases c : k = -1
    · rw [if_pos c]; exact h
    · rw [if_neg c]
      have hk2 : 0 ≤ k.toInt ∧ k.toInt < (V : Int) := hk.resolve_left c
      have tk : k.toInt = (k.toNatClampNeg : Int) := by
        have : k.toNatClampNeg = k.toInt.toNat := rfl
        omega
      obtain ⟨y1, y2, y3, y4⟩ := hy k.toNatClampNeg (by omega)
      have nx : par k.toNatClampNeg = -1 ∨ (0 ≤ (par k.toNatClampNeg).toInt ∧ (par k.toNatClampNeg).toInt < (V : Int)) := by
        rcases y4 with e | e
        · exact Or.inl e
        · exact Or.inr ⟨e.1, by omega⟩
      by_cases cm : mt k.toNatClampNeg = true
      · rw [if_pos cm]
        exact ih _ _ nx (hR.grw (y2 cm)).1 (h.grw hR.1 hR.2.1 (y2 cm))
      · rw [if_neg cm]; exact ih _ _ nx hR h
theorem args_hv {μ0 μm : Mem} : ∀ (As : List (Int64 × Nat × List (Int64 × Nat))), (∀ p, p ∈ As → Ar8 μ0 μm p) → Hv9 (tks (zr9 (fl9 As))) As.length := by
  intro As
  induction As with
  | nil => intro _ j hj; exact absurd hj (by simp)
  | cons p As ih =>
    intro h
    obtain ⟨⟨⟨g, y0⟩, w0, d0, y1⟩, y2, y3⟩ := h p List.mem_cons_self
    obtain ⟨w, _⟩ := pre_wf p.2.2.length (Nat.le_refl _) y0 y1
    have e : tks (zr9 (fl9 (p :: As))) = tks (zr9 p.2.2) ++ tks (zr9 (fl9 As)) := by
      have : fl9 (p :: As) = p.2.2 ++ fl9 As := rfl
      rw [this, zr9_app, tks_app]
    rw [e]
    exact Hv9.cons w (by rw [tks_len, zr9_len]; exact y2) (ih (fun p' hp => h p' (List.mem_cons_of_mem _ hp)))
end

section
theorem Vz9.of0 {V : Nat} {fi : Int32} {mt : Nat → Bool} {Yf : Nat → List Int64} {par : Nat → Int32} {μ z : Mem} (h : Vz9 V fi mt Yf par μ) (h1 : z.1 0 110 = μ.1 0 110) (h2 : ∀ i k, i = 57 ∨ i = 58 ∨ i = 60 ∨ i = 61 ∨ i = 66 → z.1 i k = μ.1 i k) : Vz9 V fi mt Yf par z := by
  refine ⟨by rw [h1]; exact h.1, fun u hu => ?_⟩
  obtain ⟨x1, ⟨x2, x2'⟩, x3⟩ := h.2 u hu
  exact ⟨by rw [h2 57 u (by omega)]; exact x1, ⟨x2.of (fun i l hi => h2 i l (by omega)), by rw [h2 58 u (by omega)]; exact x2'⟩, by rw [h2 66 u (by omega)]; exact x3⟩
theorem cn9_eqv {V : Nat} {key fi : Int32} {mt : Nat → Bool} {Yf : Nat → List Int64} {par : Nat → Int32} {q z : Mem} (hc : Vc9 V key mt Yf par q) (hz : Vz9 V fi mt Yf par z) : cn9 (fun u => decide (q.1 (47 + 3 * u) 3 = key)) 0 V 0 = cn9 (fun u => decide (z.1 57 u = fi)) 0 V 0 := by
  refine cn9_cong V 0 0 (fun u _ hu => ?_)
  have a := (hc.2.2 u (by omega)).1
  have b := (hz.2 u (by omega)).1
  exact decide_eq_decide.mpr (a.trans b.symm)
theorem cn9_eqs {R : Rw9} {q z : Mem} {pt : Nat} (hp : Px9 pt R q) (hP : Pm9 R z) : cn9 (fun k => decide (s_X0_kind (q.2.1 (pt + 1) k) = 4)) 0 R.length 0 = cn9 (fun k => decide (z.1 67 k = 3)) 0 R.length 0 := by
  refine cn9_cong R.length 0 0 (fun k _ hk => ?_)
  have := kind4 hp hP k _ (List.getElem?_eq_getElem (show k < R.length by omega))
  exact this.1.trans this.2.symm
theorem left_go {P : Nat} {C : List Th3} {G G1 G2 : List Fn5} {f : Fn5} {v b a h D m bc ob n V : Nat} {N : List Int32} {q1 zd q2 z2 : Mem} {It Bk : List Nat} {cl : Nat → Prop} {key k fi : Int32} {pt ut g : Nat} {R : Rw9} {H : List (Int64 × Nat)} {mt : Nat → Bool} {Yf : Nat → List Int64} {par : Nat → Int32} (W1 : W9 P C G v b a h D N m bc ob q1 zd It Bk cl) (hh : h < 2480) (hn : n ≤ 5) (hk : k.toInt = (n : Int)) (hG : G = G1 ++ f :: G2) (hfn : f.2.1.length = n) (hfi : fi.toInt = (G2.length : Int)) (hkey : key.toInt = (ky (fkey f) : Int)) (hV : (q1.1 39 2).toInt = (V : Int)) (hvc : Vc9 V key mt Yf par q2) (hvz : Vz9 V fi mt Yf par z2) (hc : Ch9 pt ut key R q2) (hP : Pm9 R z2) (hR : Rg9 n R) (hRh : Hv9 (tks R) n) (hH : hds n R = H) (hHn : H.length = n) (hH45 : ∀ j x, H[j]? = some x → (z2.1 45 j).toInt = (x.2 : Int)) (hVal : ∀ p, p ∈ R → ∃ w d, Va7 q2 z2 p.2.1 p.2.2 w d ∧ w ≤ 40) (hHval : ∀ x, x ∈ H → ∃ w d, Va7 q2 z2 x.1 x.2 w d ∧ w ≤ 40) (fx : Ax9 q1 q2) (fm : Az9 zd z2) (h4 : q2.1 39 4 = z2.1 0 96) (h5 : q2.1 39 5 = z2.1 0 97) : pk2 (p_X10_leaveCall key q2) (p_X12_leaveCall_b10 (g + 1) fi k (-1) z2) (Rz9 P C G v b a h D N m bc ob q1 zd It Bk cl) := by
  have hPr := W1.2.1
  have hV24 := hvc.2.1
  obtain ⟨p1, p2, p3, p4, p5, p6, p7⟩ := hc.ps
  have J := J9.aside W1 hV fx fm h4 h5 hc.su
  have J' := J
  obtain ⟨⟨j1, j2⟩, _, j3, j4, _, _, _, _⟩ := J'
  have hfl : G2.length < G.length := by rw [hG, List.length_append, List.length_cons]; omega
  have row : ∀ {z : Mem}, (∀ i l, i = 2 ∨ i = 3 → z.1 i l = zd.1 i l) → key.toInt = ((z.1 2 G2.length).toInt - 1) * 6 + (z.1 3 G2.length).toInt ∧ (z.1 3 G2.length).toInt = (n : Int) := by
    intro z e
    have hpn := W1.pn
    obtain ⟨_, _, hk6⟩ := hpn
    rw [hG] at hk6
    obtain ⟨⟨c1, c2, _⟩, _⟩ := hk6.tail
    have c1 : zd.1 2 G2.length = f.1 - 97 + 1 := c1
    have c2 : (zd.1 3 G2.length).toInt = (f.2.1.length : Int) := c2
    have kf : Kv (fkey f) := hPr.2.2.2.2.1.2 _ (List.mem_map.mpr ⟨f, by rw [hG]; simp, rfl⟩)
    rw [e 2 _ (Or.inl rfl), e 3 _ (Or.inr rfl)]
    exact ⟨by rw [hkey, ky_w kf c1 c2], by rw [c2, hfn]⟩
  have row2 := row (z := z2) (fun i l hi => fm.2 i l (by omega) (by omega) (by omega) (by omega))
  have hpx := hc.2.2.2.1
  have hkp := hc.2.2.2.2
  rw [p_X10_leaveCall_eq, hc.2.1, p_X12_leaveCall_b10_s, if_pos rfl]
  refine pk2_bdl (c_find hpx.py hkp (by rw [tks_len]; exact hR.1) hvc.1 hV24) (fun r μ1 hr => pk2_bdr (m_by hP.1 hR.1 hvz.1 hV24) (fun r' z3 hr' => ?_))
  obtain ⟨e1, hr⟩ := hr
  obtain ⟨e2, hr'⟩ := hr'
  have e1 : μ1 = q2 := e1
  have e2 : z3 = z2 := e2
  have hr : Fi9 (fun u => Cm9 q2 key (tks R) (47 + 3 * u)) V r := hr
  have hr' : Fi9 (Dm9 z2 fi) V r' := hr'
  have er : r = r' := Fi9.uniq hr hr' (fun u hu => match_iff hvc hvz hP hu)
  subst e1; subst e2; subst er
  by_cases cr : r = -1
  · rw [if_pos cr, if_pos cr]
    have hL1 : ∀ l, l ≤ 2 → μ1.1 137 l = z3.1 29 l := fun l hl => by
      rw [fx.2.1 137 l (by decide) (by omega), fm.2 29 l (by omega) (by omega) (by omega) (by omega)]
      exact (W1.1.2.2.2.2.2.2.2.2.2.1 l hl).1
    have e39 : μ1.1 39 1 = z3.1 0 89 := ti_eq.mpr (by rw [j3.1.1, j3.1.2.1])
    refine pk2_bdl (c_too (L := R.length) hc.2.1 hvc.1 hV24 hpx.1 hR.1) (fun r13 μ12 ht => ?_)
    obtain ⟨ht1, ht2⟩ := ht
    have ht1 : μ12 = μ1 := ht1
    subst ht1
    have ht2 : r13 = 0 ↔ ¬ (μ12.1 137 1 ≤ cn9 (fun u => decide (μ12.1 (47 + 3 * u) 3 = key)) 0 V 0 ∨ μ12.1 137 2 ≤ μ12.1 39 1 ∨ ¬ cn9 (fun k => decide (s_X0_kind (μ12.2.1 (pt + 1) k) = 4)) 0 R.length 0 ≤ 8) := ht2
    rw [cn9_eqv hvc hvz, cn9_eqs hpx hP, hL1 1 (by decide), hL1 2 (by decide), e39] at ht2
    refine m_too hvz.1 hV24 hP.1 hR.1 (fun tm => ?_) (fun tm => ?_)
    · have n0 : ¬ r13 = 0 := fun e => (ht2.mp e) tm
      rw [if_neg n0, p_X12_leaveCall_b87_eq]
      show pk2 (bw (p_X2_letAllGo (sel 1 ((sF μ12 39 5 (μ12.1 39 5 + 1)).2.2 137 14)) (sel 1 ((sF μ12 39 5 (μ12.1 39 5 + 1)).2.2 137 15)) (sF μ12 39 5 (μ12.1 39 5 + 1))) (fun μ16 => bw (p_X10_swapCalls μ16) (fun μ18 => bd (p_X5_find (sel 1 (μ18.2.2 137 14)) μ18) (fun r21 μ20 => p_X10_leaveCall_b65 r21 μ20)))) _ _
      have s22 : (sF μ12 39 5 (μ12.1 39 5 + 1)).2 = μ12.2 := rfl
      have s1 : ∀ i l, ¬ (i = 39 ∧ l = 5) → (sF μ12 39 5 (μ12.1 39 5 + 1)).1 i l = μ12.1 i l := fun i l hl => by rw [sF_at, if_neg hl]
      have s5 : (sF μ12 39 5 (μ12.1 39 5 + 1)).1 39 5 = μ12.1 39 5 + 1 := sF_v
      generalize sF μ12 39 5 (μ12.1 39 5 + 1) = qs at s22 s1 s5
      rw [s22, hc.2.1, hc.2.2.1]
      have hpq : Px9 pt R qs := hpx.cong (s1 _ _ (by omega)) (fun i l _ => by rw [s22])
      refine pk2_bwl (c_letGo p5 p2 hR.2.2 hR.1 hR.2.1 hpq) (fun μ16 hl => ?_)
      obtain ⟨⟨l1, l2⟩, l3, l4, l5⟩ := hl
      refine pk2_bwl (c_swap hc (l4.trans (by rw [s22])) l3 (by rw [l1, s1 _ _ (by omega)]; exact hkp)) (fun μ18 hw => ?_)
      obtain ⟨w1, w2, w3, w4⟩ := hw
      refine pk2_bwr (m_letGo hn hHn hk hH45) (fun z35 hz => ?_)
      obtain ⟨z1, z2'⟩ := hz
      refine pk2_bvr ?_
      rw [hH] at w1
      have y22 : (sF z35 0 97 (z35.1 0 97 + 1)).2 = z35.2 := rfl
      have y1 : ∀ i l, ¬ (i = 0 ∧ l = 97) → (sF z35 0 97 (z35.1 0 97 + 1)).1 i l = z35.1 i l := fun i l hl => by rw [sF_at, if_neg hl]
      have y5 : (sF z35 0 97 (z35.1 0 97 + 1)).1 0 97 = z35.1 0 97 + 1 := sF_v
      generalize sF z35 0 97 (z35.1 0 97 + 1) = z37 at y22 y1 y5
      have pm : Pm9 (str9 H) z37 := ⟨by rw [y1 0 118 (by omega)]; exact z1.1, fun l p hl => by rw [y1 67 l (by omega), y1 68 l (by omega), y1 69 l (by omega)]; exact z1.2 l p hl⟩
      have z96 : z35.1 0 96 = z3.1 0 96 := by
        have := z2'.2.1
        rw [this]
        show _ + (0 : Int32) = _
        rw [Int32.add_zero]
      have zf : ∀ i l, ¬ (67 ≤ i ∧ i ≤ 72) → ¬ (i = 0 ∧ (l = 96 ∨ l = 97 ∨ l = 118)) → z37.1 i l = z3.1 i l := fun i l c1 c2 => by rw [y1 i l (by omega), z2'.2.2 i l c1 (by omega)]
      have fx2 : Ax9 μ12 μ18 := ⟨fun i l c => by rw [w2 i l c, l4, s22], fun i l c1 c2 => by rw [w3, l2 i l (by omega), s1 i l (by omega)], fun i l c1 c2 => by rw [w4, l5 i l (by omega) (by omega), s22]⟩
      have fm2 : Az9 z3 z37 := ⟨by rw [y22, z2'.1], fun i l c1 c2 c3 c4 => zf i l c4 c1⟩
      have fxx := fx.tr fx2
      have fmm := fm.tr fm2
      have h4' : μ18.1 39 4 = z37.1 0 96 := by rw [w3, l2 39 4 (by omega), s1 39 4 (by omega), y1 0 96 (by omega), z96]; exact h4
      have h5' : μ18.1 39 5 = z37.1 0 97 := by rw [w3, l2 39 5 (by omega), s5, y5, z2'.2.2 0 97 (by omega) (by omega), h5]
      have J2 := J9.aside W1 hV fxx fmm h4' h5' w1.su
      have hvc2 := hvc.of fx2
      have hvz2 : Vz9 V fi mt Yf par z37 := hvz.of0 (zf 0 110 (by omega) (by omega)) (fun i l hi => zf i l (by omega) (by omega))
      have hR2 : Rg9 n (str9 H) := by rw [← hHn]; exact str_rg (by omega)
      rw [w1.2.1]
      refine pk2_bdl (c_find w1.2.2.2.1.py w1.2.2.2.2 (by rw [tks_len]; exact hR2.1) hvc2.1 hV24) (fun r21 μ20 hr2 => pk2_bdr (m_by pm.1 hR2.1 hvz2.1 hV24) (fun r39 z38 hr3 => ?_))
      obtain ⟨e3, hr2⟩ := hr2
      obtain ⟨e4, hr3⟩ := hr3
      have e3 : μ20 = μ18 := e3
      have e4 : z38 = z37 := e4
      have hr2 : Fi9 (fun u => Cm9 μ18 key (tks (str9 H)) (47 + 3 * u)) V r21 := hr2
      have hr3 : Fi9 (Dm9 z37 fi) V r39 := hr3
      have er2 : r21 = r39 := Fi9.uniq hr2 hr3 (fun u hu => match_iff hvc2 hvz2 pm hu)
      subst e3; subst e4; subst er2
      have row3 := row (z := z38) (fun i l hi => fmm.2 i l (by omega) (by omega) (by omega) (by omega))
      have gx : Gs7 μ12 μ20 := gs_same (fx2.2.1 30 5 (by omega) (by omega)) (fun l => fx2.2.2 31 l (by omega) (by omega)) (fun l => fx2.2.2 32 l (by omega) (by omega)) (fun l => fx2.2.1 33 l (by omega) (by omega)) (fun l => fx2.2.1 34 l (by omega) (by omega))
      refine j_65 (n := n) (f := G2.length) W1 hh hV J2 w1 pm hR2 str_hv (fun p hp => ?_) hvc2 hvz2 hfi hfl row3.1 row3.2 hr2 (fun _ => ?_)
      · obtain ⟨x, hx, e⟩ := List.mem_map.mp hp
        obtain ⟨w, d, x1, x2⟩ := hHval x hx
        rw [← e]
        exact ⟨w, d, x1.gr gx fm2.gh, x2⟩
      · have := ns9_le (R := str9 H)
        rw [str_len] at this
        omega
    · rw [if_pos (ht2.mpr tm)]
      refine j_65 (n := n) (f := G2.length) W1 hh hV J hc hP hR hRh hVal hvc hvz hfi hfl row2.1 row2.2 hr (fun _ => ?_)
      have c8 : cn9 (fun k => decide (z3.1 67 k = 3)) 0 R.length 0 ≤ 8 := Decidable.of_not_not (fun e => tm (Or.inr (Or.inr e)))
      rw [ti_le, cn9_ns hR.1 (fun l p hl => (kind4 hpx hP l p hl).2)] at c8
      have e8 : (8 : Int32).toInt = 8 := by decide
      rw [e8] at c8
      omega
  · rw [if_neg cr, if_neg cr]
    exact j_65 (n := n) (f := G2.length) W1 hh hV J hc hP hR hRh hVal hvc hvz hfi hfl row2.1 row2.2 hr (fun e => absurd e cr)
end

section
theorem c_workL {P : Nat} {G G1 G2 : List Fn5} {f : Fn5} {q0 : Mem} {key a2 : Int32} {D ob : Nat} (hsel : sel 2 (q0.2.2 137 5) = P) (hG : G = G1 ++ f :: G2) (hK : Kw (G.map fkey)) (hKt : Kt P (G.map fkey) q0) (hF : Fs5 P G q0) (ha : key.toInt = (ky (fkey f) : Int)) (h10 : (q0.1 30 10).toInt = (D : Int)) (h13 : (q0.1 137 13).toInt = (ob : Int)) (hu : 0 < ob ∨ (q0.1 137 0).toInt ≤ (D : Int)) : pk (p_X10_workCall key a2 q0) (fun r => r.1 = 0 ∧ r.2 = q0) := by
  have e0 : (0 : Int32).toInt = 0 := by decide
  have em : (-1 : Int32).toInt = -1 := by decide
  rw [p_X10_workCall_eq, hsel]
  refine pk_bd (c_start hG hK hKt hF ha) ?_
  rintro r2 μ1 ⟨g1, g2⟩
  have g1 : μ1 = q0 := g1
  have g2 : r2.toInt = (f.2.2.2 : Int) := g2
  rw [g1, if_neg (fun e => by rw [e, em] at g2; omega)]
  refine pk_ite (fun c => pk_some ⟨rfl, rfl⟩) (fun c => ?_)
  rw [ti_lt, e0, h13] at c
  rw [if_neg (by rw [ti_lt, h10]; omega)]
  exact pk_some ⟨rfl, rfl⟩
theorem m_thinkL {α : Type} {F : Option α} {Post : α → Mem → Prop} {zd : Mem} {r4 k : Int32} {D ob j : Nat} (h4 : r4.toInt = (j : Int)) (h90 : (zd.1 0 90).toInt = (ob : Int)) (h92 : (zd.1 0 92).toInt = (D : Int)) (hu : 0 < ob ∨ (zd.1 29 0).toInt ≤ (D : Int)) (h : pk2 F (p_X12_leaveCall r4 k zd) Post) : pk2 F (bw (p_X12_thinkCall r4 k zd) (fun μ13 => some μ13)) Post := by
  have e0 : (0 : Int32).toInt = 0 := by decide
  have em : (-1 : Int32).toInt = -1 := by decide
  have t0 : (0 : Int32).toNatClampNeg = 0 := by decide
  rw [bw_id, p_X12_thinkCall_eq, if_neg (fun e => by rw [e, em] at h4; omega)]
  by_cases c : zd.1 0 90 = 0
  · rw [if_pos c]
    refine pk2_gdr (fun _ => ?_)
    rw [c, e0] at h90
    rw [t0, if_pos (by rw [ti_le, h92]; omega), bw_id]
    exact h
  · rw [if_neg c, bw_id]; exact h
theorem left9 {P : Nat} {C : List Th3} {G G1 G2 : List Fn5} {f : Fn5} {v b a h D m bc ob n : Nat} {N : List Int32} {q0 q1 zd : Mem} {It Bk : List Nat} {cl : Nat → Prop} {key k fi : Int32} (W1 : W9 P C G v b a h D N m bc ob q1 zd It Bk cl) (hq1 : sF q0 30 7 (imax 0 (q0.1 30 7 - k)) = q1) (h30 : (q0.1 30 7).toInt = ((h + n : Nat) : Int)) (hh : h < 2480) (hn : n ≤ 5) (hk : k.toInt = (n : Int)) (hG : G = G1 ++ f :: G2) (hfn : f.2.1.length = n) (hfi : fi.toInt = (G2.length : Int)) (hkey : key.toInt = (ky (fkey f) : Int)) (hargs : ∀ j, j < n → ∃ x w d, (zd.1 40 (h + j)).toInt = ((x : Nat) : Int) ∧ Va7 q0 zd (q0.2.1 36 (h + j)) x w d ∧ w ≤ 40) (h45 : ∀ j, j < n → zd.1 45 j = zd.1 40 (h + j)) : pk2 (bw (p_X10_shapeCall key k q0) (fun μ62 => bw (p_X10_leaveCall key μ62) (fun μ64 => some μ64))) (p_X12_leaveCall fi k zd) (Rz9 P C G v b a h D N m bc ob q1 zd It Bk cl) := by
  have hPr := W1.2.1
  obtain ⟨V, mt, Yf, par, hvc, hvz, hy⟩ := pa_v9 W1.2.2.1 W1.pn hPr.2.2.2.2.1 hG hfi hkey
  rw [hfn] at hy
  have g1 : ∀ i l, ¬ (i = 30 ∧ l = 7) → q1.1 i l = q0.1 i l := fun i l hl => by rw [← hq1, sF_at, if_neg hl]
  have g22 : q1.2 = q0.2 := by rw [← hq1]; rfl
  have hvc0 : Vc9 V key mt Yf par q0 := by
    obtain ⟨v1, v2, v3⟩ := hvc
    refine ⟨by rw [← g1 39 2 (by omega)]; exact v1, v2, fun u hu => ?_⟩
    obtain ⟨x1, x2, x3⟩ := v3 u hu
    exact ⟨by rw [← g1 _ 3 (by omega)]; exact x1, x2.cong (by rw [g1 _ 2 (by omega)]) (fun l => by rw [g22]), by rw [← g1 45 _ (by omega)]; exact x3⟩
  have hV24 := hvc.2.1
  obtain ⟨As, hl, hst, hA⟩ := args_of n hargs
  obtain ⟨f1, f2, f3, f4, f5⟩ := args_wf As hA
  rw [hl] at f2 f3
  have hsu0 : Su5 q0 := W1.2.2.2.2.2.1.of (by rw [g22])
  have hx7 := W1.1.1.2.2.2.1.2.1
  have hxV := W1.1.1.2.2.2.1.2.2.2.1
  have hV := hvc.1
  have k7 : q1.1 137 7 = q0.1 137 7 := g1 137 7 (by omega)
  have hpe : zd.1 0 111 = q0.1 137 7 := by rw [← k7]; exact W1.1.2.2.2.2.2.2.2.2.2.2
  have h7 : 0 ≤ (q0.1 137 7).toInt ∧ (q0.1 137 7).toInt < (V : Int) := by rw [← k7]; omega
  have hR0 : Rg9 n (zr9 (fl9 As)) := ⟨by rw [zr9_len]; omega, f2, f4⟩
  obtain ⟨r1, r2, r3⟩ := gch_rg hy 24 (q0.1 137 7) (zr9 (fl9 As)) (Or.inr h7) hR0
  refine pk2_bwl (c_shaped (μm := zd) (h := h) (m := 0) hsu0 hn hk hl h30 (fun j p hj => (hst j p hj).1) hA hy hvc0 h7) ?_
  rintro q2 ⟨pt, ut, hc, hg⟩
  rw [bw_id]
  refine pk2_sw (pk2_ofpk (m_shaped (μx := q0) hn hk hl (fun j p hj => ?_) hA hV24 hy hvz (by rw [hpe]; exact h7) (fun f' z2 hP2 az e96 e97 e45 hvz2 => pk2_pk (pk2_sw ?_))))
  · rw [h45 j (by rw [← hl]; exact lt_some hj)]; exact (hst j p hj).2
  rw [hpe] at hP2 e96
  rw [hq1] at hg
  have hax := hg.ax
  have gx : Gs7 q0 q2 := gs_same (by rw [hax.2.1 30 5 (by omega) (by omega), g1 30 5 (by omega)]) (fun l => by rw [hax.2.2 31 l (by omega) (by omega), g22]) (fun l => by rw [hax.2.2 32 l (by omega) (by omega), g22]) (fun l => by rw [hax.2.1 33 l (by omega) (by omega), g1 33 l (by omega)]) (fun l => by rw [hax.2.1 34 l (by omega) (by omega), g1 34 l (by omega)])
  have hu := W1.1.2.2.2.2.2.2.2.2.1
  refine left_go (H := As.map (fun p => (p.1, p.2.1))) (V := V) W1 hh hn hk hG hfn hfi hkey hV (hvc.of hax) hvz2 hc hP2 r1 (gch_hv hy 24 (q0.1 137 7) (zr9 (fl9 As)) (Or.inr h7) hR0 (by rw [← hl]; exact args_hv As hA)) (r2.trans f3) (by rw [List.length_map]; exact hl) (fun j x hj => ?_) (fun p hp => ?_) (fun x hx => ?_) hax az (by rw [hg.2.2.1, e96, hu.2.1]) (by rw [hg.2.1 39 5 (by omega) (by omega), e97]; exact hu.2.2)
  · rw [List.getElem?_map] at hj
    cases hf : As[j]? with
    | none => rw [hf] at hj; cases hj
    | some p =>
      rw [hf] at hj
      have : (p.1, p.2.1) = x := Option.some.inj hj
      rw [← this, e45 j, h45 j (by rw [← hl]; exact lt_some hf)]
      exact (hst j p hf).2
  · obtain ⟨p', x1, x2⟩ := r3 p hp
    obtain ⟨w, d, y1, y2⟩ := f5 p' x1
    rw [x2]
    exact ⟨w, d, y1.gr gx az.gh, y2⟩
  · obtain ⟨p, x1, x2⟩ := List.mem_map.mp hx
    obtain ⟨⟨⟨g, y0⟩, w0, d0, y1⟩, y2, y3⟩ := hA p x1
    obtain ⟨_, Z', hZ⟩ := pre_wf p.2.2.length (Nat.le_refl _) y0 y1
    obtain ⟨w, d, t1, t2⟩ := y3 (p.1, p.2.1) (by rw [hZ]; exact List.mem_cons_self)
    rw [← x2]
    exact ⟨w, d, t1.gr gx az.gh, t2⟩
theorem lc9_all {P : Nat} {C : List Th3} {G : List Fn5} : Lc9 P C G := by
  intro β K Post G1 G2 T o n i e N l f hF h1 hl h2 hG hk μx μm It Bk cl v b a h D m bc ob a1 nn fu X Y W h37 h38 hpc hbu hhb hX hY hc ok bad
  have hnt : (Int32.ofNat n).toInt = (n : Int) := Int32.toInt_ofNat_of_lt (by omega)
  have hfn : f.2.1.length = n := congrArg Prod.snd hk
  have hf1 : f.1 = l := congrArg Prod.fst hk
  have hPr := W.2.1
  obtain ⟨d1, d2, d3, d4⟩ := W.1.2.2.2.2.2.1
  obtain ⟨o1, o2, o3⟩ := W.1.2.2.2.2.2.2.1
  obtain ⟨t7, t8, t9⟩ := fn_at W.pn hF i _ h1
  have t7 : μm.1 7 (o + i) = 12 := t7
  have t8 : μm.1 8 (o + i) = l - 97 + 1 := t8
  have t9 : μm.1 9 (o + i) = Int32.ofNat n := t9
  obtain ⟨q0, z0, fx0, fm0, S0, z65, pc0, b5, bu0, stp, ez0⟩ := W.beg h h2 hpc hbu hX
  have h69 : z0.1 0 69 = 1 := by rw [fm0.2.1 69 (by decide) (by decide) (by decide) (by decide) (by decide)]; exact W.x68.2
  have q7 : ((sF q0 30 7 (imax 0 (q0.1 30 7 - Int32.ofNat n))).1 30 7).toInt = (h : Int) := by rw [sF_v]; exact imax_h S0.1 hnt
  have fx1 : Qx8 h μx (sF q0 30 7 (imax 0 (q0.1 30 7 - Int32.ofNat n))) := fx0.tr (Qx8.top _)
  have g1 : ∀ i k, ¬ (i = 30 ∧ k = 7) → (sF q0 30 7 (imax 0 (q0.1 30 7 - Int32.ofNat n))).1 i k = q0.1 i k := fun i k hk => by rw [sF_at, if_neg hk]
  generalize hq1 : sF q0 30 7 (imax 0 (q0.1 30 7 - Int32.ofNat n)) = q1 at q7 fx1 g1
  have hsel : sel 2 (q0.2.2 137 5) = P := by rw [fx0.1]; exact hPr.2.1
  have hP9 : P = 2 ∨ P = 9 := hPr.1
  have hKt : Kt P (G.map fkey) q0 := Kt.of hPr.2.2.2.2.2.1 (fun i k hi => fx0.2.1 i k (by omega) (by omega) (by omega) (by omega))
  have hFs : Fs5 P G q0 := hPr.2.2.2.2.2.2.1.cong (fun k _ => fx0.2.1 _ k (by omega) (by omega) (by omega) (by omega)) (fun k _ => fx0.2.1 _ k (by omega) (by omega) (by omega) (by omega)) (fun g _ => fx0.2.1 _ _ (by omega) (by omega) (by omega) (by omega))
  have x10 : (q0.1 30 10).toInt = (D : Int) := by rw [fx0.2.2.1 10 (by decide) (by decide)]; exact d1
  have x13 : (q0.1 137 13).toInt = (ob : Int) := by rw [fx0.2.1 137 13 (by decide) (by decide) (by decide) (by omega)]; exact o2
  have x0 : q0.1 137 0 = μx.1 137 0 := fx0.2.1 137 0 (by decide) (by decide) (by decide) (by omega)
  have hkey : ((l - 97) * 6 + Int32.ofNat n).toInt = (ky (fkey f) : Int) := by rw [hk]; exact key_ti hl.1 hl.2
  refine op_run2 W hbu hX (R := fun q z => ∃ zd, Dc9 n h z0 zd ∧ Rz9 P C G v b a h D N m bc ob q1 zd It Bk cl q z) (pk2_step stp ?_) ?_
  · show pk2 (bd (p_X10_workCall ((l - 97) * 6 + Int32.ofNat n) (Int32.ofNat n) q0) (fun r60 μ59 => (if r60 = 0 then bw (p_X10_shapeCall ((l - 97) * 6 + Int32.ofNat n) (Int32.ofNat n) μ59) (fun μ62 => bw (p_X10_leaveCall ((l - 97) * 6 + Int32.ofNat n) μ62) (fun μ64 => some μ64)) else some μ59))) _ _
    refine pk2_bdvl (c_workL (ob := ob) hsel hG hPr.2.2.2.2.1 hKt hFs hkey x10 x13 (by rw [x0]; exact hc)) ?_
    rw [if_pos rfl, ez0]
    refine pk2_sw (pk2_ofpk (do_act fm0 h37 h38 t7 t8 t9 (body := p_X12_doCall (l - 97 + 1) (Int32.ofNat n) z0) (fun hb => ?_) ?_))
    · rw [if_neg (by decide), if_neg (by decide), if_neg (by decide), if_neg (by decide), if_neg (by decide), if_neg (by decide), if_neg (by decide), if_neg (by decide), if_neg (by decide)]
      exact pk_gd (fun _ => pk_gd (fun _ => pk_bw hb (fun q hq => pk_some hq)))
    refine m_docall hnt hl.2 S0.2.1 h69 (fun zd dc => ?_)
    obtain ⟨W1, F1⟩ := W.given fx1 fm0 q7 z65 dc
    obtain ⟨w1, w2, w3, _⟩ := W1.1.2.2.2.2.2.1
    obtain ⟨v1, v2, v3⟩ := W1.1.2.2.2.2.2.2.1
    have k69 : zd.1 0 69 = 1 := W1.x68.2
    refine pk_bd (m_fn W1.pn) ?_
    rintro r4 μ3 ⟨s1, s2⟩
    have s1 : μ3 = zd := s1
    rw [s1, k69, if_neg (by decide)]
    rcases s2 with ⟨s3, s4⟩ | ⟨f', H1, H2, s3, s4, s5, s6⟩
    · exfalso
      exact s4 f (by rw [hG]; simp) ⟨by rw [hf1], by rw [hfn, hnt]⟩
    have s4 : r4.toInt = (H2.length : Int) := s4
    have hk' : fkey f = fkey f' := by
      have hfG : f' ∈ G := by rw [s3]; simp
      have e1 : f'.1 = l := let_eq hl.1 (hPr.2.2.2.2.1.2 _ (List.mem_map.mpr ⟨f', hfG, rfl⟩)).1 s5
      rw [hnt] at s6
      unfold fkey
      rw [hf1, hfn, e1, show f'.2.1.length = n from by omega]
    obtain ⟨_, e2⟩ := key_uniq hPr.2.2.2.2.1 hG s3 hk'
    rw [← e2] at s4
    refine pk2_pk (pk2_sw ?_)
    have hL1 := W1.1.2.2.2.2.2.2.2.2.2.1 0 (by omega)
    refine m_thinkL (D := D) (ob := ob) s4 v3 w3 (by rw [← hL1.1, g1 137 0 (by omega), x0]; exact hc) ?_
    have hh : h < 2480 := by omega
    have gd0 : Gh7 z0 zd := gh_same (dc.2.2.1 0 56 (by decide) (by omega)) (fun i k x1 x2 => dc.2.2.1 i k (by omega) (by omega))
    refine pk2_mono (left9 W1 hq1 S0.1 hh hl.2 hnt hG hfn s4 hkey (fun j hj => ?_) (fun j hj => ?_)) (fun q z hz => ⟨zd, dc, hz⟩)
    · obtain ⟨x, w, d, y1, y2, y3⟩ := S0.2.2 (h + j) (by omega)
      exact ⟨x, w, d, by rw [dc.2.2.1 40 _ (by decide) (by omega)]; exact y1, y2.gr Gs7.rf gd0, y3⟩
    · rw [dc.2.2.2 j hj, dc.2.2.1 40 _ (by decide) (by omega)]
  · rintro q z n2 fu2 ⟨zd, dc, hz⟩
    obtain ⟨W1, F1⟩ := W.given fx1 fm0 q7 z65 dc
    rcases hz with ⟨cd, y1, y2, y3, y4⟩ | ⟨It2, Bk2, W2, F2, y1, y2, y3⟩
    · exact bad q z (a1 + 1) n2 fu2 cd y1 y2 y3 y4
    · refine ok q z It2 Bk2 cl (a1 + 1) n2 fu2 W2 ((F1 _).tr (F2 _) (Nat.le_refl _) (Nat.le_refl _) (Nat.le_refl _) (Nat.le_refl _) (Nat.le_refl _)) ?_ (bu0.same ?_ ?_)
      · rw [y1, g1 137 9 (by omega)]; exact pc0
      · rw [y2, g1 39 3 (by omega)]
      · rw [y3, g1 30 5 (by omega)]
theorem e9_fin {P : Nat} {C : List Th3} {G : List Fn5} (df : Nat) {T : List Th3} {o : Nat} (hF : Fn9 G T o) {r k : Nat} {N : List Int32} {i j c e : Nat} (cd : Cd6 (at5 T) (at5 C) r k N i j c e) (hN : N.length ≤ 25) : E9 P C G df o r k N i j c e := by
  intro β
  exact e9_all lc9_all df hF cd hN
end

section
theorem wf9_det : ∀ {T : List Int64} {n m : Nat}, Wf9 T n → Wf9 T m → n = m := by
  intro T
  induction T with
  | nil => intro n m h1 h2; have h1 : n = 0 := h1; have h2 : m = 0 := h2; omega
  | cons t T ih =>
    rintro n m ⟨a1, a2⟩ ⟨b1, b2⟩
    have := ih a2 b2
    by_cases c : t = 8589934592
    · rw [if_pos c, if_pos c] at this; omega
    · rw [if_neg c, if_neg c] at this; omega
theorem wf9_drop : ∀ {T : List Int64} {n : Nat} (i : Nat), Wf9 T n → i ≤ T.length → ∃ m, Wf9 (T.drop i) m := by
  intro T
  induction T with
  | nil => intro n i h _; exact ⟨n, by rw [List.drop_nil]; exact h⟩
  | cons t T ih =>
    intro n i h hi
    cases i with
    | zero => exact ⟨n, h⟩
    | succ i => exact ih i h.2 (by have : i + 1 ≤ T.length + 1 := hi; omega)
theorem wf9_len : ∀ {T : List Int64} {n : Nat}, Wf9 T n → n ≤ T.length := by
  intro T
  induction T with
  | nil => intro n h; have h : n = 0 := h; omega
  | cons t T ih =>
    rintro n ⟨a1, a2⟩
    have := ih a2
    show n ≤ T.length + 1
    by_cases c : t = 8589934592
    · rw [if_pos c] at this; omega
    · rw [if_neg c] at this; omega
noncomputable def ns8 (T : List Int64) : Nat := (T.filter (fun t => decide (t = 17179869184))).length
theorem ns8_le {T : List Int64} (i : Nat) : ns8 (T.take i) ≤ ns8 T := by
  have e : ns8 T = ns8 (T.take i) + ns8 (T.drop i) := by
    unfold ns8
    rw [← List.length_append, ← List.filter_append, List.take_append_drop]
  omega
theorem ns8_take {T : List Int64} {i : Nat} {t : Int64} (h : T[i]? = some t) : ns8 (T.take (i + 1)) = ns8 (T.take i) + (if t = 17179869184 then 1 else 0) := by
  unfold ns8
  rw [List.take_add_one, h, List.filter_append, List.length_append]
  show _ + (([t] : List Int64).filter _).length = _
  by_cases c : t = 17179869184
  · rw [if_pos c, List.filter_cons_of_pos (p := fun t => decide (t = 17179869184)) (decide_eq_true c)]; rfl
  · rw [if_neg c, List.filter_cons_of_neg (p := fun t => decide (t = 17179869184)) (by simpa using c)]; rfl
def Bp9 (S : List Int64) (m : Nat) (q z : Mem) : Prop := ∀ j, j < m → ∃ (x d : Nat), (z.1 35 (m - 1 - j)).toInt = (x : Int) ∧ Va7 q z (q.2.1 35 (m - 1 - j)) x (bh9 (S.drop (bh9 S j)) 1) d
theorem bp9_leaf {S : List Int64} {m : Nat} {q z q2 z2 : Mem} {t : Int64} (h : Bp9 S m q z) (ht : t ≠ 8589934592) (gq : Gs7 q q2) (gz : Gh7 z z2) (hq : ∀ k, k < m → q2.2.1 35 k = q.2.1 35 k) (hz : ∀ k, k < m → z2.1 35 k = z.1 35 k) {x d : Nat} (hx : (z2.1 35 m).toInt = (x : Int)) (hv : Va7 q2 z2 (q2.2.1 35 m) x 1 d) : Bp9 (t :: S) (m + 1) q2 z2 := by
  intro j hj
  cases j with
  | zero =>
    refine ⟨x, d, hx, ?_⟩
    rw [bh9_0]
    show Va7 q2 z2 (q2.2.1 35 m) x (bh9 (t :: S) 1) d
    rw [bh9_cons ht]; exact hv
  | succ j =>
    obtain ⟨y, e, h1, h2⟩ := h j (by omega)
    have e1 : m + 1 - 1 - (j + 1) = m - 1 - j := by omega
    rw [e1, hz _ (by omega), hq _ (by omega)]
    refine ⟨y, e, h1, ?_⟩
    rw [Nat.add_comm j 1, bh9_add, bh9_cons ht]
    show Va7 q2 z2 _ y (bh9 ((t :: S).drop (1 + bh9 S j)) 1) e
    rw [Nat.add_comm 1, List.drop_succ_cons]
    exact h2.gr gq gz
theorem bp9_pair {S : List Int64} {m : Nat} {q z q2 z2 : Mem} (h : Bp9 S (m + 2) q z) (gq : Gs7 q q2) (gz : Gh7 z z2) (hq : ∀ k, k < m → q2.2.1 35 k = q.2.1 35 k) (hz : ∀ k, k < m → z2.1 35 k = z.1 35 k) {x d : Nat} (hx : (z2.1 35 m).toInt = (x : Int)) (hv : Va7 q2 z2 (q2.2.1 35 m) x (1 + bh9 S 2) d) : Bp9 (8589934592 :: S) (m + 1) q2 z2 := by
  have bp : ∀ k, bh9 (8589934592 :: S) (k + 1) = bh9 S (k + 2) + 1 := by
    intro k
    show (if k + 1 = 0 then 0 else 1 + bh9 S (if (8589934592 : Int64) = 8589934592 then k + 1 + 1 else _)) = _
    rw [if_neg (by omega), if_pos rfl]
    show 1 + bh9 S (k + 2) = _
    omega
  intro j hj
  cases j with
  | zero =>
    refine ⟨x, d, hx, ?_⟩
    rw [bh9_0]
    show Va7 q2 z2 (q2.2.1 35 m) x (bh9 (8589934592 :: S) (0 + 1)) d
    rw [bp, Nat.add_comm]; exact hv
  | succ j =>
    obtain ⟨y, e, h1, h2⟩ := h (j + 2) (by omega)
    have e0 : m + 2 - 1 - (j + 2) = m - 1 - j := by omega
    rw [e0] at h1 h2
    have e1 : m + 1 - 1 - (j + 1) = m - 1 - j := by omega
    rw [e1, hz _ (by omega), hq _ (by omega)]
    refine ⟨y, e, h1, ?_⟩
    rw [bp, List.drop_succ_cons]
    exact h2.gr gq gz
def Xb9 (q0 q : Mem) : Prop := q.2.2 = q0.2.2 ∧ (∀ i k, i ≠ 33 → i ≠ 34 → ¬ (i = 30 ∧ k = 5) → q.1 i k = q0.1 i k) ∧ (∀ i k, i ≠ 31 → i ≠ 32 → i ≠ 35 → q.2.1 i k = q0.2.1 i k) ∧ Gs7 q0 q
def Zb9 (z0 z : Mem) : Prop := z.2 = z0.2 ∧ (∀ i k, i ≠ 0 → ¬ (30 ≤ i ∧ i ≤ 35) → z.1 i k = z0.1 i k) ∧ (∀ k, k ≠ 56 → k ≠ 58 → z.1 0 k = z0.1 0 k) ∧ Gh7 z0 z
theorem Xb9.rf {q : Mem} : Xb9 q q := ⟨rfl, fun _ _ _ _ _ => rfl, fun _ _ _ _ _ => rfl, Gs7.rf⟩
theorem Zb9.rf {z : Mem} : Zb9 z z := ⟨rfl, fun _ _ _ _ => rfl, fun _ _ _ => rfl, Gh7.rf⟩
theorem Xb9.tr {a b c : Mem} (h : Xb9 a b) (h2 : Xb9 b c) : Xb9 a c := ⟨h2.1.trans h.1, fun i k x1 x2 x3 => (h2.2.1 i k x1 x2 x3).trans (h.2.1 i k x1 x2 x3), fun i k x1 x2 x3 => (h2.2.2.1 i k x1 x2 x3).trans (h.2.2.1 i k x1 x2 x3), h.2.2.2.tr h2.2.2.2⟩
theorem Zb9.tr {a b c : Mem} (h : Zb9 a b) (h2 : Zb9 b c) : Zb9 a c := ⟨h2.1.trans h.1, fun i k x1 x2 => (h2.2.1 i k x1 x2).trans (h.2.1 i k x1 x2), fun k x1 x2 => (h2.2.2.1 k x1 x2).trans (h.2.2.1 k x1 x2), h.2.2.2.tr h2.2.2.2⟩
theorem m_build {z : Mem} {h : Nat} {a : Int32} (h58 : (z.1 0 58).toInt = (h : Int)) : pk (p_X12_build a z) (fun q => q = sF (sF z 35 h a) 0 58 (z.1 0 58 + 1) ∧ h < 300) := by
  rw [p_X12_build_eq, tn_of h58]
  refine pk_gd (fun g => pk_bvs (pk_bvs (pk_some ⟨by rw [sF_i (by decide)], ?_⟩)))
  have := inb_iff.mp g; omega
theorem m_unbuild {z : Mem} {h : Nat} (h58 : (z.1 0 58).toInt = ((h + 1 : Nat) : Int)) : pk (p_X12_unbuild z) (fun r => r.1 = z.1 35 h ∧ r.2 = sF z 0 58 (z.1 0 58 - 1)) := by
  have e1 : (1 : Int32).toInt = 1 := by decide
  have := ti_hi (z.1 0 58)
  have d : (z.1 0 58 - 1).toInt = (h : Int) := by rw [ti_sub (by omega) (by omega), h58, e1]; omega
  rw [p_X12_unbuild_eq]
  refine pk_bvs (pk_gd (fun g => pk_some ⟨?_, rfl⟩))
  rw [sF_v, tn_of d, sF_i (by decide)]
theorem zb9_bd {z : Mem} {h : Nat} {a b : Int32} : Zb9 z (sF (sF z 35 h a) 0 58 b) := ⟨rfl, fun i k c1 c2 => by rw [sF_i c1, sF_i (by omega)], fun k c1 c2 => by rw [sF_k c2, sF_i (by decide)], gh_same (by rw [sF_k (by decide), sF_i (by decide)]) (fun i k c1 c2 => by rw [sF_i (by omega), sF_i (by omega)])⟩
theorem zb9_un {z : Mem} {b : Int32} : Zb9 z (sF z 0 58 b) := ⟨rfl, fun i k c1 c2 => by rw [sF_i c1], fun k c1 c2 => by rw [sF_k c2], gh_same (by rw [sF_k (by decide)]) (fun i k c1 c2 => by rw [sF_i (by omega)])⟩
theorem Fh7.zb {z z2 : Mem} (f : Fh7 z z2) : Zb9 z z2 := ⟨f.1, fun i k c1 c2 => f.2.1 i k c1 (by omega), fun k c1 _ => f.2.2.1 k c1, f.2.2.2⟩
theorem m_oneL {z : Mem} {h : Nat} {s b : Int32} (hs : s ≠ 2) (h58 : (z.1 0 58).toInt = (h : Int)) : pk (p_X12_buildOne s b z) (fun z2 => ∃ (x : Nat) (z1 : Mem), Nn7 z z1 x s b ∧ Zb9 z z2 ∧ Gh7 z1 z2 ∧ (z2.1 35 h).toInt = (x : Int) ∧ (∀ k, k ≠ h → z2.1 35 k = z.1 35 k) ∧ (z2.1 0 58).toInt = ((h + 1 : Nat) : Int) ∧ h < 300 ∧ ∀ i k, 30 ≤ i → i ≤ 34 → z2.1 i k = z1.1 i k) := by
  have e1 : (1 : Int32).toInt = 1 := by decide
  rw [p_X12_buildOne_eq, if_neg hs]
  refine pk_bd (m_node s b z) (fun r μ10 hr => ?_)
  obtain ⟨x, hx, hN⟩ := hr
  have hx : r.toInt = (x : Int) := hx
  have hN : Nn7 z μ10 x s b := hN
  have fh := hN.2.2.2.2.2.2.2
  have k58 : μ10.1 0 58 = z.1 0 58 := fh.2.2.1 58 (by decide)
  refine pk_bw (m_build (h := h) (by rw [k58]; exact h58)) (fun μ12 hm => pk_some ?_)
  obtain ⟨hm, hh⟩ := hm
  rw [hm]
  refine ⟨x, μ10, hN, fh.zb.tr zb9_bd, zb9_bd.2.2.2, by rw [sF_i (by decide), sF_v]; exact hx, fun k hk => by rw [sF_i (by decide), sF_k hk]; exact fh.2.1 35 k (by decide) (by omega), ?_, hh, fun i k c1 c2 => by rw [sF_i (by omega), sF_i (by omega)]⟩
  rw [sF_v, k58, ti_add (by omega) (by omega), h58, e1]; omega
theorem m_oneP {μx z : Mem} {h x y w1 w2 d1 d2 : Nat} {v1 v2 : Int64} {b : Int32} (h58 : (z.1 0 58).toInt = ((h + 2 : Nat) : Int)) (hx : (z.1 35 (h + 1)).toInt = (x : Int)) (hy : (z.1 35 h).toInt = (y : Int)) (hv1 : Va7 μx z v1 x w1 d1) (hv2 : Va7 μx z v2 y w2 d2) (hw : w1 + w2 ≤ 100000) : pk (p_X12_buildOne 2 b z) (fun z2 => ∃ (p : Nat) (z1 : Mem), ((z1.1 0 56).toInt = ((p + 1 : Nat) : Int) ∧ z1.1 30 p = 2 ∧ z1.1 31 p = z.1 35 (h + 1) ∧ z1.1 32 p = z.1 35 h ∧ (z1.1 33 p).toInt = ((1 + w1 + w2 : Nat) : Int) ∧ (z1.1 34 p).toInt = ((1 + max d1 d2 : Nat) : Int)) ∧ Gh7 z z1 ∧ Gh7 z1 z2 ∧ Zb9 z z2 ∧ (z2.1 35 h).toInt = (p : Int) ∧ (∀ k, k ≠ h → z2.1 35 k = z.1 35 k) ∧ (z2.1 0 58).toInt = ((h + 1 : Nat) : Int)) := by
  have e1 : (1 : Int32).toInt = 1 := by decide
  have hz := ti_hi (z.1 0 58)
  have d1' : (z.1 0 58 - 1).toInt = ((h + 1 : Nat) : Int) := by rw [ti_sub (by omega) (by omega), h58, e1]; omega
  have d2' : (z.1 0 58 - 1 - 1).toInt = (h : Int) := by rw [ti_sub (by omega) (by omega), d1', e1]; omega
  rw [p_X12_buildOne_eq, if_pos rfl]
  refine pk_bdv (m_unbuild (h := h + 1) h58) ?_
  have ka : ∀ k, (sF z 0 58 (z.1 0 58 - 1)).1 35 k = z.1 35 k := fun k => sF_i (by decide)
  refine pk_bdv (m_unbuild (h := h) (by rw [sF_v]; exact d1')) ?_
  rw [ka h, sF_v]
  have z4 : Zb9 z (sF (sF z 0 58 (z.1 0 58 - 1)) 0 58 (z.1 0 58 - 1 - 1)) := zb9_un.tr zb9_un
  have k35 : ∀ k, (sF (sF z 0 58 (z.1 0 58 - 1)) 0 58 (z.1 0 58 - 1 - 1)).1 35 k = z.1 35 k := fun k => by rw [sF_i (by decide), sF_i (by decide)]
  have k58 : (sF (sF z 0 58 (z.1 0 58 - 1)) 0 58 (z.1 0 58 - 1 - 1)).1 0 58 = z.1 0 58 - 1 - 1 := sF_v
  generalize sF (sF z 0 58 (z.1 0 58 - 1)) 0 58 (z.1 0 58 - 1 - 1) = zz at z4 k35 k58
  refine pk_bd (m_pair (hv1.gr Gs7.rf z4.2.2.2) (hv2.gr Gs7.rf z4.2.2.2) hx hy hw) (fun r μ6 hr => ?_)
  obtain ⟨p, r1, r2, r3, r4, r5, r6, r7, r8, r9⟩ := hr
  have r1 : r.toInt = (p : Int) := r1
  have r3 : (μ6.1 0 56).toInt = ((p + 1 : Nat) : Int) := r3
  have r4 : Fh7 zz μ6 := r4
  have b58 : μ6.1 0 58 = z.1 0 58 - 1 - 1 := by rw [r4.2.2.1 58 (by decide), k58]
  refine pk_bw (m_build (h := h) (by rw [b58]; exact d2')) (fun μ12 hm => pk_some ?_)
  obtain ⟨hm, hh⟩ := hm
  rw [hm]
  refine ⟨p, μ6, ⟨r3, r5, r6, r7, r8, r9⟩, z4.2.2.2.tr r4.2.2.2, zb9_bd.2.2.2, (z4.tr r4.zb).tr zb9_bd, by rw [sF_i (by decide), sF_v]; exact r1, fun k hk => by rw [sF_i (by decide), sF_k hk, r4.2.1 35 k (by decide) (by omega), k35], ?_⟩
  rw [sF_v, b58, ti_add (by omega) (by omega), d2', e1]; omega
theorem gd_t {α : Type} {c : Bool} {x : Option α} (h : c = true) : gd c x = x := by rw [h]; rfl
theorem c_b108e {K : Nat → Nat → Nat → Int32 → Int32 → Int32 → Mem → Option (Int32 × Mem)} {a1 a2 a3 h : Nat} {a4 a5 a6 : Int32} {v : Int64} {μ : Mem} (h4 : a4.toInt = (h : Int)) (hh : h < 264) : p_X8_build_b108 K a1 a2 a3 a4 a5 a6 v μ = K a1 a2 a3 (a4 + 1) a5 (a6 + (-1)) (sL μ 35 h v) := by
  have e : (264 : Int32).toInt = 264 := by decide
  rw [p_X8_build_b108_eq, if_neg (by rw [ti_le, e, h4]; omega), gd_t (inb_iff.mpr (by rw [h4]; omega)), tn_of h4]
  show p_X8_build_b130 K a1 a2 a3 (a4 + 1) a5 a6 (sL μ 35 h v) = _
  rw [p_X8_build_b130_eq]; rfl
theorem xb9_l {q : Mem} {h : Nat} {v : Int64} : Xb9 q (sL q 35 h v) := ⟨rfl, fun _ _ _ _ _ => rfl, fun i k _ _ c => by rw [sL_at, if_neg (fun e => c e.1)], gs_same rfl (fun k => by rw [sL_at, if_neg (by omega)]) (fun k => by rw [sL_at, if_neg (by omega)]) (fun _ => rfl) (fun _ => rfl)⟩
theorem Fs7.xb {q q2 : Mem} (f : Fs7 q q2) : Xb9 q q2 := ⟨f.1, fun i k c1 c2 c3 => by
  by_cases c : i = 30
  · subst c; exact f.2.2.1 k (fun e => c3 ⟨rfl, e⟩)
  · exact f.2.1 i k c c1 c2, fun i k c1 c2 _ => f.2.2.2.1 i k c1 c2, f.2.2.2.2⟩
end
