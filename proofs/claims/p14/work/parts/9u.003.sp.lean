section
theorem Re7.of {μx μm q z : Mem} {It Bk : List Nat} {cl : Nat → Prop} {v b a : Nat} (h : Re7 μx μm It Bk cl v b a) (c1 : ∀ i k, i = 39 ∨ i = 40 ∨ i = 42 ∨ i = 43 ∨ i = 45 → q.1 i k = μx.1 i k) (c2 : ∀ k, k = 6 ∨ k = 7 ∨ k = 8 → q.1 137 k = μx.1 137 k) (c3 : ∀ i k, i = 41 ∨ i = 44 → q.2.1 i k = μx.2.1 i k) (f0 : ∀ k, k = 68 ∨ k = 69 ∨ k = 87 ∨ k = 88 ∨ k = 89 ∨ k = 93 → z.1 0 k = μm.1 0 k) (f : ∀ i k, 46 ≤ i → i ≤ 63 → i ≠ 55 → i ≠ 56 → z.1 i k = μm.1 i k) : Re7 q z It Bk cl v b a := by
  obtain ⟨⟨t1, t2, t3, t4, P, O, tP, tO, tb, tI⟩, hB, hC, ⟨s1, s2, s3, s4, s5, s6⟩, hb, ⟨m68, m69⟩, hS⟩ := h
  have d39 : ∀ k, q.1 39 k = μx.1 39 k := fun k => c1 39 k (by omega)
  have d40 : ∀ k, q.1 40 k = μx.1 40 k := fun k => c1 40 k (by omega)
  refine ⟨⟨by rw [d39]; exact t1, by rw [f0 89 (by omega)]; exact t2, t3, by rw [c1 45 _ (by omega), f0 93 (by omega)]; exact t4, P, O, by rw [f0 87 (by omega)]; exact tP, by rw [f0 88 (by omega)]; exact tO, by rw [f 62 v (by decide) (by decide) (by decide) (by decide)]; exact tb, fun i p hi => ?_⟩, hB, fun b2 h2 => ?_, ⟨by rw [c2 6 (by omega)]; exact s1, by rw [c2 7 (by omega)]; exact s2, by rw [c2 8 (by omega)]; exact s3, by rw [d39]; exact s4, s5, by rw [d39]; exact s6⟩, hb, ⟨by rw [f0 68 (by omega)]; exact m68, by rw [f0 69 (by omega)]; exact m69⟩, ?_⟩
  · obtain ⟨a1, ⟨b1, b2, b3, f', m, b4, b5, b6, b7⟩, u, u1, u2, u3, u4⟩ := tI i p hi
    have fo : ∀ j k, Op7 μx μm j k → Op7 q z j k := fun j k ho => ho.cong (c3 41 j (by omega)) (f 53 k (by decide) (by decide) (by decide) (by decide)) (f 54 k (by decide) (by decide) (by decide) (by decide))
    refine ⟨a1, ⟨by rw [d40, f 46 p (by decide) (by decide) (by decide) (by decide)]; exact b1, by rw [d40, f 47 p (by decide) (by decide) (by decide) (by decide)]; exact b2, by rw [d40, f 48 p (by decide) (by decide) (by decide) (by decide)]; exact b3, f', m, by rw [f 51 p (by decide) (by decide) (by decide) (by decide)]; exact b4, by rw [f 52 p (by decide) (by decide) (by decide) (by decide)]; exact b5, b6, ?_⟩, u, by rw [d40]; exact u1, u2, by rw [f 62 u (by decide) (by decide) (by decide) (by decide)]; exact u3, fun hu => by rw [f 63 u (by decide) (by decide) (by decide) (by decide)]; exact u4 hu⟩
    rw [f 46 p (by decide) (by decide) (by decide) (by decide), d40]
    rcases b7 with ⟨b7, b8, b9⟩ | ⟨b7, b8, b9, b10⟩
    · exact Or.inl ⟨b7, b8, fun k hk2 => fo _ _ (b9 k hk2)⟩
    · exact Or.inr ⟨b7, b8, b9, fun k hk2 => fo _ _ (b10 k hk2)⟩
  · rw [d39] at h2
    exact (hC b2 h2).cong (c1 42 _ (by omega)) (c1 43 _ (by omega)) (fun i _ => d40 _)
  · rw [f0 87 (by omega), f0 88 (by omega)]
    exact hS.cong (fun _ _ e => e) (fun _ _ _ => ⟨d40 _, d40 _⟩) (fun x hx => ⟨rfl, c3 44 x (by omega), hx⟩) (fun k _ => ⟨f 53 k (by decide) (by decide) (by decide) (by decide), f 54 k (by decide) (by decide) (by decide) (by decide)⟩) (Nat.le_refl _) (fun p _ => ⟨f 46 p (by decide) (by decide) (by decide) (by decide), f 49 p (by decide) (by decide) (by decide) (by decide), f 50 p (by decide) (by decide) (by decide) (by decide), f 51 p (by decide) (by decide) (by decide) (by decide)⟩)
end

section
theorem S8.num {μx μm q z z0 : Mem} {It Bk : List Nat} {cl : Nat → Prop} {v b a h D m bc ob y : Nat} {N : List Int32} {s : Nat} {bt r : Int32} (S : S8 μx μm It Bk cl v b a h D N (m + 1) bc ob) (hs : s = 0 ∨ s = 1) (hh : h < 2480) (hq : q = sF (sL (sF μx 137 9 (μx.1 137 9 + 1)) 36 h (s_X0_make (nI s) bt)) 30 7 (μx.1 30 7 + 1)) (hN : Nn7 (sF μm 0 65 (μm.1 0 65 - 1)) z0 y (nI s) bt) (hr : r.toInt = (y : Int)) (hz : z = sF (sF z0 40 h r) 0 66 (z0.1 0 66 + 1)) : S8 q z It Bk cl v b a (h + 1) D N m bc ob := by
  have e1 : (1 : Int32).toInt = 1 := by decide
  obtain ⟨hR, hB, hS, hV, hNv, ⟨d1, d2, d3, d4⟩, ⟨o1, o2, o3⟩, hm, ⟨u1, u2, u3⟩, hL, hA⟩ := S
  have hF := hN.2.2.2.2.2.2.2
  have qi : ∀ i k, i ≠ 30 → ¬ (i = 137 ∧ k = 9) → q.1 i k = μx.1 i k := fun i k a1 a2 => by
    rw [hq, sF_i a1]
    show (sF μx 137 9 (μx.1 137 9 + 1)).1 i k = _
    rw [sF_at, if_neg a2]
  have q30 : ∀ k, k ≠ 7 → q.1 30 k = μx.1 30 k := fun k hk => by
    rw [hq, sF_k hk]
    show (sF μx 137 9 (μx.1 137 9 + 1)).1 30 k = _
    rw [sF_i (by decide)]
  have ql : ∀ i k, i ≠ 36 → q.2.1 i k = μx.2.1 i k := fun i k hi => by
    rw [hq]
    show (sL (sF μx 137 9 (μx.1 137 9 + 1)) 36 h (s_X0_make (nI s) bt)).2.1 i k = _
    rw [sL_at, if_neg (fun x => hi x.1)]; rfl
  have zf : ∀ k, k ≠ 56 → k ≠ 65 → k ≠ 66 → z.1 0 k = μm.1 0 k := fun k a1 a2 a3 => by
    rw [hz, sF_k a3, sF_i (by decide), hF.2.2.1 k a1, sF_k a2]
  have za : ∀ i k, i ≠ 0 → ¬ (30 ≤ i ∧ i ≤ 34) → i ≠ 40 → z.1 i k = μm.1 i k := fun i k a1 a2 a3 => by
    rw [hz, sF_i a1, sF_i a3, hF.2.1 i k a1 a2, sF_i a1]
  have gx : Gs7 μx q := gs_same (q30 5 (by decide)) (fun k => ql 31 k (by decide)) (fun k => ql 32 k (by decide)) (fun k => qi 33 k (by decide) (by omega)) (fun k => qi 34 k (by decide) (by omega))
  have g0 : Gh7 μm (sF μm 0 65 (μm.1 0 65 - 1)) := gh_same (by rw [sF_k (by decide)]) (fun i k a1 a2 => by rw [sF_i (by omega)])
  have g1 : Gh7 μm z0 := g0.tr hF.2.2.2
  have g2 : Gh7 z0 z := gh_same (by rw [hz, sF_k (by decide), sF_i (by decide)]) (fun i k a1 a2 => by rw [hz, sF_i (by omega), sF_i (by omega)])
  have gz : Gh7 μm z := g1.tr g2
  have hv : Va7 q z (s_X0_make (nI s) bt) y 1 0 := (hN.leaf (μx := q) (by omega)).gr Gs7.rf g2
  obtain ⟨k1, k2, k3⟩ := hS
  have z66 : z0.1 0 66 = μm.1 0 66 := by rw [hF.2.2.1 66 (by decide), sF_k (by decide)]
  refine ⟨hR.of (fun i k hi => qi i k (by omega) (by omega)) (fun k hk => qi 137 k (by decide) (by omega)) (fun i k hi => ql i k (by omega)) (fun k hk => zf k (by omega) (by omega) (by omega)) (fun i k a1 a2 a3 a4 => za i k (by omega) (by omega) (by omega)), fun x hx => by rw [qi 39 6 (by decide) (by omega)]; exact hB x hx, ⟨?_, ?_, fun k hk => ?_⟩, hV.of gx gz (fun k _ => ql 37 _ (by decide)) (fun c _ => za 41 _ (by decide) (by omega) (by decide)), hNv, ⟨by rw [q30 10 (by decide)]; exact d1, by rw [zf 67 (by decide) (by decide) (by decide)]; exact d2, by rw [zf 92 (by decide) (by decide) (by decide)]; exact d3, d4⟩, ⟨by rw [qi 137 12 (by decide) (by omega)]; exact o1, by rw [qi 137 13 (by decide) (by omega)]; exact o2, by rw [zf 90 (by decide) (by decide) (by decide)]; exact o3⟩, ?_, ⟨by rw [qi 39 3 (by decide) (by omega), zf 91 (by decide) (by decide) (by decide)]; exact u1, by rw [qi 39 4 (by decide) (by omega), zf 96 (by decide) (by decide) (by decide)]; exact u2, by rw [qi 39 5 (by decide) (by omega), zf 97 (by decide) (by decide) (by decide)]; exact u3⟩, fun k hk => by rw [qi 137 k (by decide) (by omega), za 29 k (by decide) (by omega) (by decide)]; exact hL k hk, by rw [zf 111 (by decide) (by decide) (by decide), qi 137 7 (by decide) (by omega)]; exact hA⟩
  · rw [hq, sF_v, ti_add (by omega) (by omega), k1, e1]; omega
  · have hg : h < 6000 := by omega
    rw [hz, sF_v, z66, ti_add (by omega) (by omega), k2, e1]; omega
  · have l36 : q.2.1 36 k = if k = h then s_X0_make (nI s) bt else μx.2.1 36 k := by
      rw [hq]
      show (sL (sF μx 137 9 (μx.1 137 9 + 1)) 36 h (s_X0_make (nI s) bt)).2.1 36 k = _
      rw [sL_at]
      by_cases e : k = h
      · rw [if_pos ⟨rfl, e⟩, if_pos e]
      · rw [if_neg (fun x => e x.2), if_neg e]; rfl
    have l40 : z.1 40 k = if k = h then r else μm.1 40 k := by
      rw [hz, sF_i (by decide), sF_at]
      by_cases e : k = h
      · rw [if_pos ⟨rfl, e⟩, if_pos e]
      · rw [if_neg (fun x => e x.2), if_neg e, hF.2.1 40 k (by decide) (by omega), sF_i (by decide)]
    rw [l36, l40]
    by_cases e : k = h
    · rw [if_pos e, if_pos e]
      exact ⟨y, 1, 0, hr, hv, by omega⟩
    · rw [if_neg e, if_neg e]
      obtain ⟨x2, w2, dd, c1, c2, c3⟩ := k3 k (by omega)
      exact ⟨x2, w2, dd, c1, c2.gr gx gz, c3⟩
  · have hi := ti_hi (μm.1 0 65)
    rw [hz, sF_k (by decide), sF_i (by decide), hF.2.2.1 65 (by decide), sF_v, ti_sub (by omega) (by omega), hm, e1]; omega
end

section
theorem S8.var {μx μm q z : Mem} {It Bk : List Nat} {cl : Nat → Prop} {v b a h D m bc ob y : Nat} {N : List Int32} {w d : Nat} {x : Int64} {r : Int32} (S : S8 μx μm It Bk cl v b a h D N (m + 1) bc ob) (hx : Va7 μx μm x y w d) (hw : w ≤ 40) (hh : h < 2480) (hq : q = sF (sL (sF μx 137 9 (μx.1 137 9 + 1)) 36 h x) 30 7 (μx.1 30 7 + 1)) (hr : r.toInt = (y : Int)) (hz : z = sF (sF (sF μm 0 65 (μm.1 0 65 - 1)) 40 h r) 0 66 (μm.1 0 66 + 1)) : S8 q z It Bk cl v b a (h + 1) D N m bc ob := by
  have e1 : (1 : Int32).toInt = 1 := by decide
  obtain ⟨hR, hB, hS, hV, hNv, ⟨d1, d2, d3, d4⟩, ⟨o1, o2, o3⟩, hm, ⟨u1, u2, u3⟩, hL, hA⟩ := S
  have qi : ∀ i k, i ≠ 30 → ¬ (i = 137 ∧ k = 9) → q.1 i k = μx.1 i k := fun i k a1 a2 => by
    rw [hq, sF_i a1]
    show (sF μx 137 9 (μx.1 137 9 + 1)).1 i k = _
    rw [sF_at, if_neg a2]
  have q30 : ∀ k, k ≠ 7 → q.1 30 k = μx.1 30 k := fun k hk => by
    rw [hq, sF_k hk]
    show (sF μx 137 9 (μx.1 137 9 + 1)).1 30 k = _
    rw [sF_i (by decide)]
  have ql : ∀ i k, i ≠ 36 → q.2.1 i k = μx.2.1 i k := fun i k hi => by
    rw [hq]
    show (sL (sF μx 137 9 (μx.1 137 9 + 1)) 36 h x).2.1 i k = _
    rw [sL_at, if_neg (fun x => hi x.1)]; rfl
  have zf : ∀ k, k ≠ 56 → k ≠ 65 → k ≠ 66 → z.1 0 k = μm.1 0 k := fun k a1 a2 a3 => by
    rw [hz, sF_k a3, sF_i (by decide), sF_k a2]
  have za : ∀ i k, i ≠ 0 → ¬ (30 ≤ i ∧ i ≤ 34) → i ≠ 40 → z.1 i k = μm.1 i k := fun i k a1 a2 a3 => by
    rw [hz, sF_i a1, sF_i a3, sF_i a1]
  have gx : Gs7 μx q := gs_same (q30 5 (by decide)) (fun k => ql 31 k (by decide)) (fun k => ql 32 k (by decide)) (fun k => qi 33 k (by decide) (by omega)) (fun k => qi 34 k (by decide) (by omega))
  have gz : Gh7 μm z := gh_same (by rw [hz, sF_k (by decide), sF_i (by decide), sF_k (by decide)]) (fun i k a1 a2 => by rw [hz, sF_i (by omega), sF_i (by omega), sF_i (by omega)])
  have hv : Va7 q z x y w d := hx.gr gx gz
  obtain ⟨k1, k2, k3⟩ := hS
  refine ⟨hR.of (fun i k hi => qi i k (by omega) (by omega)) (fun k hk => qi 137 k (by decide) (by omega)) (fun i k hi => ql i k (by omega)) (fun k hk => zf k (by omega) (by omega) (by omega)) (fun i k a1 a2 a3 a4 => za i k (by omega) (by omega) (by omega)), fun x hx => by rw [qi 39 6 (by decide) (by omega)]; exact hB x hx, ⟨?_, ?_, fun k hk => ?_⟩, hV.of gx gz (fun k _ => ql 37 _ (by decide)) (fun c _ => za 41 _ (by decide) (by omega) (by decide)), hNv, ⟨by rw [q30 10 (by decide)]; exact d1, by rw [zf 67 (by decide) (by decide) (by decide)]; exact d2, by rw [zf 92 (by decide) (by decide) (by decide)]; exact d3, d4⟩, ⟨by rw [qi 137 12 (by decide) (by omega)]; exact o1, by rw [qi 137 13 (by decide) (by omega)]; exact o2, by rw [zf 90 (by decide) (by decide) (by decide)]; exact o3⟩, ?_, ⟨by rw [qi 39 3 (by decide) (by omega), zf 91 (by decide) (by decide) (by decide)]; exact u1, by rw [qi 39 4 (by decide) (by omega), zf 96 (by decide) (by decide) (by decide)]; exact u2, by rw [qi 39 5 (by decide) (by omega), zf 97 (by decide) (by decide) (by decide)]; exact u3⟩, fun k hk => by rw [qi 137 k (by decide) (by omega), za 29 k (by decide) (by omega) (by decide)]; exact hL k hk, by rw [zf 111 (by decide) (by decide) (by decide), qi 137 7 (by decide) (by omega)]; exact hA⟩
  · rw [hq, sF_v, ti_add (by omega) (by omega), k1, e1]; omega
  · have hg : h < 6000 := by omega
    rw [hz, sF_v, ti_add (by omega) (by omega), k2, e1]; omega
  · have l36 : q.2.1 36 k = if k = h then x else μx.2.1 36 k := by
      rw [hq]
      show (sL (sF μx 137 9 (μx.1 137 9 + 1)) 36 h x).2.1 36 k = _
      rw [sL_at]
      by_cases e : k = h
      · rw [if_pos ⟨rfl, e⟩, if_pos e]
      · rw [if_neg (fun x => e x.2), if_neg e]; rfl
    have l40 : z.1 40 k = if k = h then r else μm.1 40 k := by
      rw [hz, sF_i (by decide), sF_at]
      by_cases e : k = h
      · rw [if_pos ⟨rfl, e⟩, if_pos e]
      · rw [if_neg (fun x => e x.2), if_neg e, sF_i (by decide)]
    rw [l36, l40]
    by_cases e : k = h
    · rw [if_pos e, if_pos e]
      exact ⟨y, w, d, hr, hv, hw⟩
    · rw [if_neg e, if_neg e]
      obtain ⟨x2, w2, dd, c1, c2, c3⟩ := k3 k (by omega)
      exact ⟨x2, w2, dd, c1, c2.gr gx gz, c3⟩
  · have hi := ti_hi (μm.1 0 65)
    rw [hz, sF_k (by decide), sF_i (by decide), sF_v, ti_sub (by omega) (by omega), hm, e1]; omega
end

section
def Cx8 (v h : Nat) (μ q : Mem) : Prop := q.2.2 = μ.2.2 ∧ (∀ i k, i ≠ 30 → i ≠ 33 → i ≠ 34 → i ≠ 39 → i ≠ 40 → i ≠ 42 → i ≠ 43 → i ≠ 45 → i ≠ 137 → q.1 i k = μ.1 i k) ∧ (∀ k, k ≠ 5 → k ≠ 7 → q.1 30 k = μ.1 30 k) ∧ (∀ k, k ≠ 9 → q.1 137 k = μ.1 137 k) ∧ (∀ k, k ≠ 1 → q.1 39 k = μ.1 39 k) ∧ (∀ k, k ≠ 4 * v + 2 → q.1 45 k = μ.1 45 k) ∧ (∀ i k, i ≠ 31 → i ≠ 32 → i ≠ 41 → ¬ (i = 36 ∧ h ≤ k) → q.2.1 i k = μ.2.1 i k) ∧ Gs7 μ q
theorem Cx8.rf {v h : Nat} {μ : Mem} : Cx8 v h μ μ := ⟨rfl, fun _ _ _ _ _ _ _ _ _ _ _ => rfl, fun _ _ _ => rfl, fun _ _ => rfl, fun _ _ => rfl, fun _ _ => rfl, fun _ _ _ _ _ _ => rfl, Gs7.rf⟩
theorem Cx8.tr {v h : Nat} {μ q z : Mem} (a : Cx8 v h μ q) (b : Cx8 v h q z) : Cx8 v h μ z := by
  obtain ⟨a1, a2, a3, a4, a5, a6, a7, a8⟩ := a
  obtain ⟨b1, b2, b3, b4, b5, b6, b7, b8⟩ := b
  exact ⟨b1.trans a1, fun i k c1 c2 c3 c4 c5 c6 c7 c8 c9 => (b2 i k c1 c2 c3 c4 c5 c6 c7 c8 c9).trans (a2 i k c1 c2 c3 c4 c5 c6 c7 c8 c9), fun k c1 c2 => (b3 k c1 c2).trans (a3 k c1 c2), fun k c1 => (b4 k c1).trans (a4 k c1), fun k c1 => (b5 k c1).trans (a5 k c1), fun k c1 => (b6 k c1).trans (a6 k c1), fun i k c1 c2 c3 c4 => (b7 i k c1 c2 c3 c4).trans (a7 i k c1 c2 c3 c4), a8.tr b8⟩
theorem Cx8.pc {v h : Nat} {μ : Mem} (x : Int32) : Cx8 v h μ (sF μ 137 9 x) := ⟨rfl, fun i k _ _ _ _ _ _ _ _ c => by rw [sF_i c], fun k _ _ => by rw [sF_i (by decide)], fun k c => by rw [sF_k c], fun k _ => by rw [sF_i (by decide)], fun k _ => by rw [sF_i (by decide)], fun _ _ _ _ _ _ => rfl, gs_same (by rw [sF_i (by decide)]) (fun _ => rfl) (fun _ => rfl) (fun k => by rw [sF_i (by decide)]) (fun k => by rw [sF_i (by decide)])⟩
theorem Cx8.top {v h : Nat} {μ : Mem} (x : Int32) : Cx8 v h μ (sF μ 30 7 x) := ⟨rfl, fun i k c _ _ _ _ _ _ _ _ => by rw [sF_i c], fun k _ c => by rw [sF_k c], fun k _ => by rw [sF_i (by decide)], fun k _ => by rw [sF_i (by decide)], fun k _ => by rw [sF_i (by decide)], fun _ _ _ _ _ _ => rfl, gs_same (by rw [sF_k (by decide)]) (fun _ => rfl) (fun _ => rfl) (fun k => by rw [sF_i (by decide)]) (fun k => by rw [sF_i (by decide)])⟩
theorem Cx8.st {v h k : Nat} {μ : Mem} (hk : h ≤ k) (x : Int64) : Cx8 v h μ (sL μ 36 k x) := ⟨rfl, fun _ _ _ _ _ _ _ _ _ _ _ => rfl, fun _ _ _ => rfl, fun _ _ => rfl, fun _ _ => rfl, fun _ _ => rfl, fun i l _ _ _ c => by rw [sL_at, if_neg (fun e => c ⟨e.1, by omega⟩)], gs_same rfl (fun l => by rw [sL_at, if_neg (by omega)]) (fun l => by rw [sL_at, if_neg (by omega)]) (fun _ => rfl) (fun _ => rfl)⟩
theorem Cx8.push {v h k : Nat} {μ : Mem} (hk : h ≤ k) (x : Int64) : Cx8 v h μ (sF (sL μ 36 k x) 30 7 (μ.1 30 7 + 1)) := (Cx8.st hk x).tr (Cx8.top _)
theorem Fx7.cx {v h : Nat} {μ q : Mem} (f : Fx7 v μ q) : Cx8 v h μ q := ⟨f.1, fun i k _ _ _ c1 c2 c3 c4 c5 _ => f.2.1 i k c1 c2 c3 c4 c5, fun k _ _ => f.2.1 30 k (by decide) (by decide) (by decide) (by decide) (by decide), fun k _ => f.2.1 137 k (by decide) (by decide) (by decide) (by decide) (by decide), f.2.2.1, f.2.2.2.1, fun i k _ _ c _ => f.2.2.2.2 i k c, f.gs⟩
theorem Fs7.cx {v h : Nat} {μ q : Mem} (f : Fs7 μ q) : Cx8 v h μ q := ⟨f.1, fun i k c1 c2 c3 _ _ _ _ _ _ => f.2.1 i k c1 c2 c3, fun k c _ => f.2.2.1 k c, fun k _ => f.2.1 137 k (by decide) (by decide) (by decide), fun k _ => f.2.1 39 k (by decide) (by decide) (by decide), fun k _ => f.2.1 45 k (by decide) (by decide) (by decide), fun i k c1 c2 _ _ => f.2.2.2.1 i k c1 c2, f.2.2.2.2⟩
theorem Cx8.le {v h h2 : Nat} {μ q : Mem} (a : Cx8 v h2 μ q) (hh : h ≤ h2) : Cx8 v h μ q := by
  obtain ⟨a1, a2, a3, a4, a5, a6, a7, a8⟩ := a
  exact ⟨a1, a2, a3, a4, a5, a6, fun i k c1 c2 c3 c4 => a7 i k c1 c2 c3 (fun e => c4 ⟨e.1, by omega⟩), a8⟩
def Cm8 (h m p o : Nat) (μ z : Mem) : Prop := z.2 = μ.2 ∧ (∀ k, k ≠ 0 → k ≠ 1 → k ≠ 56 → k ≠ 65 → k ≠ 66 → k ≠ 87 → k ≠ 88 → k ≠ 89 → k ≠ 93 → z.1 0 k = μ.1 0 k) ∧ (∀ i k, i ≠ 0 → ¬ (30 ≤ i ∧ i ≤ 34) → ¬ ((37 ≤ i ∧ i ≤ 39) ∧ m ≤ k) → ¬ (i = 40 ∧ h ≤ k) → ¬ ((46 ≤ i ∧ i ≤ 52) ∧ p ≤ k) → ¬ ((i = 53 ∨ i = 54) ∧ o ≤ k) → i ≠ 55 → i ≠ 56 → z.1 i k = μ.1 i k) ∧ Gh7 μ z
theorem Cm8.rf {h m p o : Nat} {μ : Mem} : Cm8 h m p o μ μ := ⟨rfl, fun _ _ _ _ _ _ _ _ _ _ => rfl, fun _ _ _ _ _ _ _ _ _ _ => rfl, Gh7.rf⟩
theorem Cm8.tr {h m p o : Nat} {μ q z : Mem} (a : Cm8 h m p o μ q) (b : Cm8 h m p o q z) : Cm8 h m p o μ z := ⟨b.1.trans a.1, fun k c1 c2 c3 c4 c5 c6 c7 c8 c9 => (b.2.1 k c1 c2 c3 c4 c5 c6 c7 c8 c9).trans (a.2.1 k c1 c2 c3 c4 c5 c6 c7 c8 c9), fun i k c1 c2 c3 c4 c5 c6 c7 c8 => (b.2.2.1 i k c1 c2 c3 c4 c5 c6 c7 c8).trans (a.2.2.1 i k c1 c2 c3 c4 c5 c6 c7 c8), a.2.2.2.tr b.2.2.2⟩
theorem Cm8.le {h m p o h2 m2 p2 o2 : Nat} {μ z : Mem} (a : Cm8 h2 m2 p2 o2 μ z) (e1 : h ≤ h2) (e2 : m ≤ m2) (e3 : p ≤ p2) (e4 : o ≤ o2) : Cm8 h m p o μ z := ⟨a.1, a.2.1, fun i k c1 c2 c3 c4 c5 c6 c7 c8 => a.2.2.1 i k c1 c2 (fun e => c3 ⟨e.1, by omega⟩) (fun e => c4 ⟨e.1, by omega⟩) (fun e => c5 ⟨e.1, by omega⟩) (fun e => c6 ⟨e.1, by omega⟩) c7 c8, a.2.2.2⟩
theorem gh_F {μ : Mem} {i k : Nat} {x : Int32} (h0 : ¬ (i = 0 ∧ k = 56)) (h : ¬ (30 ≤ i ∧ i ≤ 34)) : Gh7 μ (sF μ i k x) := gh_same (by rw [sF_at, if_neg (by omega)]) (fun j l a b => by rw [sF_i (by omega)])
theorem Cm8.F {h m p o i k : Nat} {μ : Mem} (x : Int32) (c : (i = 0 ∧ (k = 0 ∨ k = 1 ∨ k = 65 ∨ k = 66 ∨ k = 87 ∨ k = 88 ∨ k = 89 ∨ k = 93)) ∨ ((37 ≤ i ∧ i ≤ 39) ∧ m ≤ k) ∨ (i = 40 ∧ h ≤ k) ∨ ((46 ≤ i ∧ i ≤ 52) ∧ p ≤ k) ∨ ((i = 53 ∨ i = 54) ∧ o ≤ k) ∨ i = 55 ∨ i = 56) : Cm8 h m p o μ (sF μ i k x) := by
  refine ⟨rfl, fun l c1 c2 c3 c4 c5 c6 c7 c8 c9 => ?_, fun j l c1 c2 c3 c4 c5 c6 c7 c8 => ?_, gh_F (by omega) (by omega)⟩
  · rw [sF_at, if_neg (by omega)]
  · rw [sF_at, if_neg (by omega)]
theorem Fm7.cm {h m p o : Nat} {μ z : Mem} (f : Fm7 p o μ z) : Cm8 h m p o μ z := ⟨f.1, fun k _ _ c3 _ _ c6 c7 c8 c9 => f.2.1 k c3 c6 c7 c8 c9, fun i k c1 c2 _ _ c5 c6 c7 c8 => f.2.2.1 i k c1 c2 c5 c6 c7 c8, f.2.2.2.1⟩
theorem Fh7.cm {h m p o : Nat} {μ z : Mem} (f : Fh7 μ z) : Cm8 h m p o μ z := (Fh7.fm (p := p) (o := o) f).cm
theorem Cm8.come {h m p o k : Nat} {μ : Mem} (hk : h ≤ k) (x : Int32) : Cm8 h m p o μ (sF (sF μ 40 k x) 0 66 (μ.1 0 66 + 1)) := (Cm8.F x (by omega)).tr (Cm8.F _ (by omega))
theorem Cm8.act {h m p o k : Nat} {μ : Mem} (hk : m ≤ k) (x y w : Int32) (t : Int32) : Cm8 h m p o μ (sF (sF (sF (sF μ 37 k x) 38 k y) 39 k w) 0 65 t) := (((Cm8.F x (by omega)).tr (Cm8.F y (by omega))).tr (Cm8.F w (by omega))).tr (Cm8.F t (by omega))
theorem Sk7.low {μx μm q z : Mem} {v h h0 m p o : Nat} (s : Sk7 μx μm h) (fx : Cx8 v h0 μx q) (fm : Cm8 h0 m p o μm z) (hh : h0 ≤ h) (q7 : (q.1 30 7).toInt = (h0 : Int)) (z66 : (z.1 0 66).toInt = (h0 : Int)) : Sk7 q z h0 := by
  refine ⟨q7, z66, fun k hk => ?_⟩
  obtain ⟨x, w, d, c1, c2, c3⟩ := s.2.2 k (by omega)
  refine ⟨x, w, d, ?_, ?_, c3⟩
  · rw [fm.2.2.1 40 k (by decide) (by omega) (by omega) (by omega) (by omega) (by omega) (by decide) (by decide)]; exact c1
  · rw [fx.2.2.2.2.2.2.1 36 k (by decide) (by decide) (by decide) (by omega)]
    exact c2.gr fx.2.2.2.2.2.2.2 fm.2.2.2
theorem Sk7.res {μx μm q z : Mem} {v h h0 m p o x w d : Nat} (s : Sk7 μx μm h) (fx : Cx8 v h0 μx q) (fm : Cm8 h0 m p o μm z) (hh : h0 ≤ h) (q7 : (q.1 30 7).toInt = ((h0 + 1 : Nat) : Int)) (z66 : (z.1 0 66).toInt = ((h0 + 1 : Nat) : Int)) (hv : Va7 q z (q.2.1 36 h0) x w d) (hx : (z.1 40 h0).toInt = (x : Int)) (hw : w ≤ 40) : Sk7 q z (h0 + 1) := by
  refine ⟨q7, z66, fun k hk => ?_⟩
  by_cases e : k = h0
  · subst e; exact ⟨x, w, d, hx, hv, hw⟩
  · obtain ⟨x, w, d, c1, c2, c3⟩ := s.2.2 k (by omega)
    refine ⟨x, w, d, ?_, ?_, c3⟩
    · rw [fm.2.2.1 40 k (by decide) (by omega) (by omega) (by omega) (by omega) (by omega) (by decide) (by decide)]; exact c1
    · rw [fx.2.2.2.2.2.2.1 36 k (by decide) (by decide) (by decide) (by omega)]
      exact c2.gr fx.2.2.2.2.2.2.2 fm.2.2.2
theorem S8.move {μx μm q z : Mem} {It Bk It2 Bk2 : List Nat} {cl : Nat → Prop} {v b a h h0 h2 D m m0 m2 bc ob p o : Nat} {N : List Int32} (S : S8 μx μm It Bk cl v b a h D N m bc ob) (fx : Cx8 v h0 μx q) (fm : Cm8 h0 m0 p o μm z) (hR : Re7 q z It2 Bk2 cl v b a) (hB : Bb7 q Bk2) (hS : Sk7 q z h2) (hm : (z.1 0 65).toInt = (m2 : Int)) : S8 q z It2 Bk2 cl v b a h2 D N m2 bc ob := by
  obtain ⟨_, _, _, hV, hNv, ⟨d1, d2, d3, d4⟩, ⟨o1, o2, o3⟩, _, ⟨u1, u2, u3⟩, hL, hA⟩ := S
  obtain ⟨f1, f2, f3, f4, f5, f6, f7, f8⟩ := fx
  obtain ⟨g1, g2, g3, g4⟩ := fm
  have z0 : ∀ k, 67 ≤ k → k ≠ 87 → k ≠ 88 → k ≠ 89 → k ≠ 93 → z.1 0 k = μm.1 0 k := fun k c1 c2 c3 c4 c5 => g2 k (by omega) (by omega) (by omega) (by omega) (by omega) c2 c3 c4 c5
  refine ⟨hR, hB, hS, hV.of f8 g4 (fun k _ => f7 37 _ (by decide) (by decide) (by decide) (by omega)) (fun c _ => g3 41 _ (by decide) (by omega) (by omega) (by omega) (by omega) (by omega) (by decide) (by decide)), hNv, ⟨by rw [f3 10 (by decide) (by decide)]; exact d1, by rw [z0 67 (by decide) (by decide) (by decide) (by decide) (by decide)]; exact d2, by rw [z0 92 (by decide) (by decide) (by decide) (by decide) (by decide)]; exact d3, d4⟩, ⟨by rw [f4 12 (by decide)]; exact o1, by rw [f4 13 (by decide)]; exact o2, by rw [z0 90 (by decide) (by decide) (by decide) (by decide) (by decide)]; exact o3⟩, hm, ⟨by rw [f5 3 (by decide), z0 91 (by decide) (by decide) (by decide) (by decide) (by decide)]; exact u1, by rw [f5 4 (by decide), z0 96 (by decide) (by decide) (by decide) (by decide) (by decide)]; exact u2, by rw [f5 5 (by decide), z0 97 (by decide) (by decide) (by decide) (by decide) (by decide)]; exact u3⟩, fun k hk => by rw [f4 k (by omega), g3 29 k (by decide) (by omega) (by omega) (by omega) (by omega) (by omega) (by decide) (by decide)]; exact hL k hk, by rw [z0 111 (by decide) (by decide) (by decide) (by decide) (by decide), f4 7 (by decide)]; exact hA⟩
end

section
def Gv8 (s v : Int32) (μ q : Mem) : Prop := q = sF (sF μ 0 0 s) 0 1 v
theorem gv_give (s v : Int32) (μ : Mem) : pk (p_X12_give s v μ) (Gv8 s v μ) := by
  rw [p_X12_give_eq]
  exact pk_bvy (fun μ1 e1 => pk_bvy (fun μ2 e2 => pk_some (by rw [e2, e1]; rfl)))
theorem gv_w {s v : Int32} {μ : Mem} : pk (bw (p_X12_give s v μ) (fun μ2 => some μ2)) (Gv8 s v μ) := pk_bw (gv_give s v μ) (fun q hq => pk_some hq)
theorem fb_norm {m : Nat} (hm : m ≤ 1) (b : Int32) : ∃ X, s_X0_floatBits (s_X0_make (nI m) b) = X ∧ s_X12_floatOf (nI m) b = X ∧ x_floatBits X = X ∧ m_floatOf X = X := by
  have idem : ∀ x : Int32, x_floatBits (x_floatBits x) = x_floatBits x := by
    intro x
    by_cases c : x_isNan x = 0
    · have : x_floatBits x = x := by rw [x_floatBits_eq, if_pos c]
      rw [this, this]
    · have : x_floatBits x = 2143289344 := by rw [x_floatBits_eq, if_neg c]
      rw [this, x_floatBits_eq]
      by_cases c2 : x_isNan 2143289344 = 0
      · rw [if_pos c2]
      · rw [if_neg c2]
  rcases (show m = 0 ∨ m = 1 by omega) with e | e
  · subst e
    refine ⟨s_X12_floatOf 0 b, i2f_ok b, rfl, ?_, ?_⟩
    · have := mNq (s_X12_floatOf 0 b)
      rw [xm_fb, m_floatOf_eq, if_pos (this.mpr (i2f_fin b))]
    · have := mNq (s_X12_floatOf 0 b)
      rw [m_floatOf_eq, if_pos (this.mpr (i2f_fin b))]
  · subst e
    refine ⟨x_floatBits b, lx_fb b, ?_, idem b, ?_⟩
    · rw [xm_fb]; exact lm_floatOf b
    · rw [← xm_fb]; exact idem b
theorem cut_norm {m : Nat} (hm : m ≤ 1) (b : Int32) : ∃ X, s_X0_cut (s_X0_make (nI m) b) = X ∧ pk (p_X12_intOf (nI m) b) (fun r => r = X) := by
  rcases (show m = 0 ∨ m = 1 by omega) with e | e
  · subst e
    refine ⟨b, ?_, ?_⟩
    · rw [s_X0_cut_eq, mk_kind 0 (by decide), mk_bits 0 (by decide)]
      simp only [bv]
      rw [if_neg (show ¬ (nI 0 = 1) by decide)]
    · rw [p_X12_intOf_eq, if_neg (show ¬ (nI 0 = 1) by decide)]; exact pk_some rfl
  · subst e
    refine ⟨x_cut b, lx_cut b, ?_⟩
    rw [cut_int]; exact q_intOf b
theorem ap_float {g : Int32} (X Y : Int32) (hg : isSg g = true) (h37 : g ≠ 37) (hX : x_floatBits X = X) (hY : x_floatBits Y = Y) (hX2 : m_floatOf X = X) (hY2 : m_floatOf Y = Y) : ∃ s : Nat, s ≤ 1 ∧ (∀ v w, s_X0_floatBits v = X → s_X0_floatBits w = Y → s_X0_apply_b53 g v w = s_X0_make (nI s) (fop X g Y)) ∧ ∀ k x k' y μ, s_X12_floatOf k x = X → s_X12_floatOf k' y = Y → pk (p_X12_join_b16 g k x k' y 1 μ) (Gv8 (nI s) (fop X g Y) μ) := by
  have base : ∀ v w, s_X0_floatBits v = X → s_X0_floatBits w = Y → s_X0_apply_b53 g v w = (if x_isNan X = 0 then (if x_isNan Y = 0 then s_X0_apply_b86 g X Y 0 else s_X0_apply_b86 g X Y 1) else s_X0_apply_b86 g X Y 1) := by
    intro v w e1 e2
    rw [s_X0_apply_b53_eq]
    simp only [bv, lx_isNan, s_X0_apply_b81_eq]
    rw [e1, e2]
  by_cases h43 : g = 43
  · subst h43
    refine ⟨1, by decide, fun v w e1 e2 => ?_, fun k x k' y μ e1 e2 => ?_⟩
    · rw [base v w e1 e2]
      show _ = s_X0_make 1 (x_ap43 X Y)
      rw [x_ap43_eq, hX, hY]
      simp only [s_X0_apply_b86_eq]
      repeat' split
      all_goals first | contradiction | (rw [lx_add]; done) | rfl
    · rw [p_X12_join_b16_eq, e1, e2, if_neg (by decide), if_neg (by decide), if_neg (by decide), if_neg (by decide)]
      exact pk_bsq (q_br43 _ _) (fun r hr => by
        have : r = fop X 43 Y := by rw [← eq43, m_ap43_eq, hX2, hY2, hr]
        rw [this]; exact gv_w)
  by_cases h45 : g = 45
  · subst h45
    refine ⟨1, by decide, fun v w e1 e2 => ?_, fun k x k' y μ e1 e2 => ?_⟩
    · rw [base v w e1 e2]
      show _ = s_X0_make 1 (x_ap45 X Y)
      rw [x_ap45_eq, hX, hY]
      simp only [s_X0_apply_b86_eq]
      repeat' split
      all_goals first | contradiction | (rw [lx_add]; done) | rfl
    · rw [p_X12_join_b16_eq, e1, e2, if_neg (by decide), if_neg (by decide), if_neg (by decide), if_neg (by decide)]
      exact pk_bsq (q_br45 _ _) (fun r hr => by
        have : r = fop X 45 Y := by rw [← eq45, m_ap45_eq, hX2, hY2, hr]
        rw [this]; exact gv_w)
  by_cases h42 : g = 42
  · subst h42
    refine ⟨1, by decide, fun v w e1 e2 => ?_, fun k x k' y μ e1 e2 => ?_⟩
    · rw [base v w e1 e2]
      show _ = s_X0_make 1 (x_ap42 X Y)
      rw [x_ap42_eq, hX, hY]
      simp only [s_X0_apply_b86_eq]
      repeat' split
      all_goals first | contradiction | (rw [lx_mul]; done) | rfl
    · rw [p_X12_join_b16_eq, e1, e2, if_neg (by decide), if_neg (by decide), if_neg (by decide), if_neg (by decide)]
      exact pk_bsq (q_br42 _ _) (fun r hr => by
        have : r = fop X 42 Y := by rw [← eq42, m_ap42_eq, hX2, hY2, hr]
        rw [this]; exact gv_w)
  by_cases h47 : g = 47
  · subst h47
    refine ⟨1, by decide, fun v w e1 e2 => ?_, fun k x k' y μ e1 e2 => ?_⟩
    · rw [base v w e1 e2]
      show _ = s_X0_make 1 (x_ap47 X Y)
      rw [x_ap47_eq, hX, hY]
      simp only [s_X0_apply_b86_eq]
      repeat' split
      all_goals first | contradiction | (rw [lx_div]; done) | rfl
    · rw [p_X12_join_b16_eq, e1, e2, if_neg (by decide), if_neg (by decide), if_neg (by decide), if_neg (by decide)]
      exact pk_bsq (q_br47 _ _) (fun r hr => by
        have : r = fop X 47 Y := by rw [← eq47, m_ap47_eq, hX2, hY2, hr]
        rw [this]; exact gv_w)
  by_cases h60 : g = 60
  · subst h60
    refine ⟨0, by decide, fun v w e1 e2 => ?_, fun k x k' y μ e1 e2 => ?_⟩
    · rw [base v w e1 e2]
      show _ = s_X0_make 0 (x_ap60 X Y)
      rw [x_ap60_eq, hX, hY]
      simp only [s_X0_apply_b86_eq, lx_isBelow]
      repeat' split
      all_goals first | contradiction | rfl
    · rw [p_X12_join_b16_eq, e1, e2, if_neg (by decide), if_pos rfl, if_neg (by decide)]
      refine pk_bsq (q_isLess _ _) (fun r hr => pk_ite (fun h0 => ?_) (fun h0 => ?_))
      · have : fop X 60 Y = 0 := by rw [← eq60, m_ap60_eq, hX2, hY2, ← hr, if_pos h0]
        rw [this]; exact gv_w
      · have : fop X 60 Y = 1 := by rw [← eq60, m_ap60_eq, hX2, hY2, ← hr, if_neg h0]
        rw [this]; exact gv_w
  by_cases h61 : g = 61
  · subst h61
    refine ⟨0, by decide, fun v w e1 e2 => ?_, fun k x k' y μ e1 e2 => ?_⟩
    · rw [base v w e1 e2]
      show _ = s_X0_make 0 (x_ap61 X Y)
      rw [x_ap61_eq, hX, hY]
      simp only [s_X0_apply_b86_eq, lx_isEqual]
      repeat' split
      all_goals first | contradiction | rfl
    · rw [p_X12_join_b16_eq, e1, e2, if_neg (by decide), if_neg (by decide), if_pos rfl, if_neg (by decide)]
      refine pk_bsq (q_isSame _ _) (fun r hr => pk_ite (fun h0 => ?_) (fun h0 => ?_))
      · have : fop X 61 Y = 0 := by rw [← eq61, m_ap61_eq, hX2, hY2, ← hr, if_pos h0]
        rw [this]; exact gv_w
      · have : fop X 61 Y = 1 := by rw [← eq61, m_ap61_eq, hX2, hY2, ← hr, if_neg h0]
        rw [this]; exact gv_w
  · exfalso
    unfold isSg at hg
    rw [decide_eq_false h43, decide_eq_false h45, decide_eq_false h42, decide_eq_false h47, decide_eq_false h37, decide_eq_false h60, decide_eq_false h61] at hg
    cases hg
theorem na_apply {g : Int32} {m1 m2 : Nat} (h1 : m1 ≤ 1) (h2 : m2 ≤ 1) (b1 b2 : Int32) (hg : isSg g = true) : ∃ (s : Nat) (v : Int32), s ≤ 1 ∧ s_X0_apply g (s_X0_make (nI m1) b1) (s_X0_make (nI m2) b2) = s_X0_make (nI s) v ∧ ∀ μ, pk (p_X12_join g (nI m1) b1 (nI m2) b2 μ) (Gv8 (nI s) v μ) := by
  obtain ⟨X, x1, x2, x3, x4⟩ := fb_norm h1 b1
  obtain ⟨Y, y1, y2, y3, y4⟩ := fb_norm h2 b2
  have j37 : g = 37 → ∀ k0, ∃ (s : Nat) (v : Int32), s ≤ 1 ∧ s_X0_apply g (s_X0_make (nI m1) b1) (s_X0_make (nI m2) b2) = s_X0_make (nI s) v ∧ ∀ μ, pk (p_X12_join_b16 g (nI m1) b1 (nI m2) b2 k0 μ) (Gv8 (nI s) v μ) := by
    intro e k0
    subst e
    obtain ⟨c1, p1, p2⟩ := cut_norm h1 b1
    obtain ⟨c2, q1, q2⟩ := cut_norm h2 b2
    refine ⟨0, if c2 = 0 then 0 else c1 - c1 / c2 * c2, by decide, ?_, fun μ => ?_⟩
    · rw [s_X0_apply_eq, if_pos rfl, p1, q1, lx_rest, x_rest_eq]
      by_cases h : c2 = 0
      · rw [if_pos h, if_pos h]; rfl
      · rw [if_neg h, if_neg h]
        by_cases h1 : c2 = -1
        · rw [if_pos h1, h1, div_m1, Int32.neg_mul_neg, Int32.mul_one, Int32.sub_self]; rfl
        · rw [if_neg h1]; rfl
    · rw [p_X12_join_b16_eq, if_pos rfl]
      refine pk_bsq q2 (fun r hr => ?_)
      subst hr
      refine pk_ite (fun c => ?_) (fun c => ?_)
      · rw [if_pos c]; exact gv_w
      · rw [if_neg c]
        refine pk_bsq p2 (fun r2 hr2 => ?_)
        subst hr2
        exact pk_gd (fun _ => gv_w)
  by_cases h37 : g = 37
  · rcases (show m1 = 0 ∨ m1 = 1 by omega) with e | e
    · rcases (show m2 = 0 ∨ m2 = 1 by omega) with e2 | e2
      · obtain ⟨s, v, a1, a2, a3⟩ := j37 h37 0
        refine ⟨s, v, a1, a2, fun μ => ?_⟩
        rw [p_X12_join_eq, if_neg (by rw [e]; decide), if_neg (by rw [e2]; decide)]; exact a3 μ
      · obtain ⟨s, v, a1, a2, a3⟩ := j37 h37 1
        refine ⟨s, v, a1, a2, fun μ => ?_⟩
        rw [p_X12_join_eq, if_neg (by rw [e]; decide), if_pos (by rw [e2]; decide), p_X12_join_b11_eq]; exact a3 μ
    · obtain ⟨s, v, a1, a2, a3⟩ := j37 h37 1
      refine ⟨s, v, a1, a2, fun μ => ?_⟩
      rw [p_X12_join_eq, if_pos (by rw [e]; decide), p_X12_join_b11_eq]; exact a3 μ
  obtain ⟨s, s1, s2, s3⟩ := ap_float X Y hg h37 x3 y3 x4 y4
  have k1 := mk_kind m1 (by omega) b1
  have k2 := mk_kind m2 (by omega) b2
  rcases (show m1 = 1 ∨ m1 = 0 by omega) with e | e
  · refine ⟨s, fop X g Y, s1, ?_, fun μ => ?_⟩
    · rw [s_X0_apply_eq, if_neg h37, k1, if_neg (by rw [e]; decide)]; exact s2 _ _ x1 y1
    · rw [p_X12_join_eq, if_pos (by rw [e]; decide), p_X12_join_b11_eq]; exact s3 _ _ _ _ μ x2 y2
  rcases (show m2 = 1 ∨ m2 = 0 by omega) with e2 | e2
  · refine ⟨s, fop X g Y, s1, ?_, fun μ => ?_⟩
    · rw [s_X0_apply_eq, if_neg h37, k1, k2, if_pos (by rw [e]; decide), if_neg (by rw [e2]; decide)]; exact s2 _ _ x1 y1
    · rw [p_X12_join_eq, if_neg (by rw [e]; decide), if_pos (by rw [e2]; decide), p_X12_join_b11_eq]; exact s3 _ _ _ _ μ x2 y2
  · refine ⟨0, s_X0_applyInts g b1 b2, by decide, ?_, fun μ => ?_⟩
    · rw [s_X0_apply_eq, if_neg h37, k1, k2, if_pos (by rw [e]; decide), if_pos (by rw [e2]; decide), mk_bits m1 (by omega), mk_bits m2 (by omega)]; rfl
    · rw [p_X12_join_eq, if_neg (by rw [e]; decide), if_neg (by rw [e2]; decide), p_X12_join_b16_eq, if_neg h37, s_X0_applyInts_eq]
      refine pk_ite (fun c => ?_) (fun c => pk_ite (fun c61 => ?_) (fun c61 => ?_))
      · subst c
        have e : (if (60 : Int32) = 42 then (b1 * b2) else (if (60 : Int32) = 43 then (b1 + b2) else (if (60 : Int32) = 45 then (b1 - b2) else (if (60 : Int32) = 47 then (if b2 = 0 then 0 else (b1 / b2)) else (if (60 : Int32) = 60 then (if b2 ≤ b1 then 0 else 1) else (if b1 = b2 then 1 else 0)))))) = if b2 ≤ b1 then 0 else 1 := rfl
        rw [e, if_pos rfl]
        refine pk_ite (fun cc => ?_) (fun cc => ?_)
        · rw [if_pos cc]; exact gv_w
        · rw [if_neg cc]; exact gv_w
      · subst c61
        have e : (if (61 : Int32) = 42 then (b1 * b2) else (if (61 : Int32) = 43 then (b1 + b2) else (if (61 : Int32) = 45 then (b1 - b2) else (if (61 : Int32) = 47 then (if b2 = 0 then 0 else (b1 / b2)) else (if (61 : Int32) = 60 then (if b2 ≤ b1 then 0 else 1) else (if b1 = b2 then 1 else 0)))))) = if b1 = b2 then 1 else 0 := rfl
        rw [e, if_pos rfl]
        refine pk_ite (fun cc => ?_) (fun cc => ?_)
        · rw [if_pos cc]; exact gv_w
        · rw [if_neg cc]; exact gv_w
      · rw [if_pos rfl]
        have hw : s_X12_wholes g b1 b2 = (if g = 42 then (b1 * b2) else (if g = 43 then (b1 + b2) else (if g = 45 then (b1 - b2) else (if g = 47 then (if b2 = 0 then 0 else (b1 / b2)) else (if g = 60 then (if b2 ≤ b1 then 0 else 1) else (if b1 = b2 then 1 else 0)))))) := by
          rw [s_X12_wholes_eq]
          unfold isSg at hg
          rw [decide_eq_false h37, decide_eq_false c, decide_eq_false c61] at hg
          by_cases a42 : g = 42
          · rw [if_pos a42, if_pos a42]
          rw [if_neg a42, if_neg a42]
          by_cases a43 : g = 43
          · rw [if_pos a43, if_pos a43]
          rw [if_neg a43, if_neg a43]
          by_cases a45 : g = 45
          · rw [if_neg (by rw [a45]; decide), if_pos a45, if_pos a45]
          by_cases a47 : g = 47
          · rw [if_neg (by rw [a47]; decide), if_neg a45, if_neg a45, if_pos a47]
          · rw [decide_eq_false a42, decide_eq_false a43, decide_eq_false a45, decide_eq_false a47] at hg
            cases hg
        rw [← hw]; exact gv_w
theorem na_turn {h : Int32} {m : Nat} (hm : m ≤ 1) (b : Int32) (k : Nat) (hk : (h = 36 ∧ k = 0) ∨ (h = 94 ∧ k = 1) ∨ (h = 35 ∧ k = 2)) : ∃ (s : Nat) (v : Int32), s ≤ 1 ∧ s_X0_turn h (s_X0_make (nI m) b) = s_X0_make (nI s) v ∧ ∀ μ, pk (p_X12_turn (nI k) (nI m) b μ) (Gv8 (nI s) v μ) := by
  obtain ⟨X, x1, x2, _, _⟩ := fb_norm hm b
  obtain ⟨c, p1, p2⟩ := cut_norm hm b
  rcases hk with ⟨e, e2⟩ | ⟨e, e2⟩ | ⟨e, e2⟩
  · subst e; subst e2
    refine ⟨0, c, by decide, by rw [s_X0_turn_eq, if_pos rfl, p1]; rfl, fun μ => ?_⟩
    rw [p_X12_turn_eq, if_pos (by decide)]
    refine pk_bsq p2 (fun r hr => ?_)
    subst hr; exact gv_w
  · subst e; subst e2
    refine ⟨1, X, by decide, by rw [s_X0_turn_eq, if_neg (by decide), if_pos rfl, x1]; rfl, fun μ => ?_⟩
    rw [p_X12_turn_eq, if_neg (by decide), if_pos (by decide), x2]; exact gv_w
  · subst e; subst e2
    refine ⟨0, X, by decide, by rw [s_X0_turn_eq, if_neg (by decide), if_neg (by decide), x1]; rfl, fun μ => ?_⟩
    rw [p_X12_turn_eq, if_neg (by decide), if_neg (by decide), x2]; exact gv_w
theorem na_hold {d : Nat} {m : Nat} (hm : m ≤ 1) (b : Int32) (a : Int32) (ha : a.toInt = (d : Int)) : ∃ (s : Nat) (v : Int32), s ≤ 1 ∧ s_X0_stored a (s_X0_make (nI m) b) = s_X0_make (nI s) v ∧ (s = 0 ↔ d < 4) ∧ ∀ (μ : Mem) (x : Nat) (a2 : Int32), a2.toInt = (x : Int) → μ.1 30 x = nI m → μ.1 31 x = b → pk (p_X12_holdAt a a2 μ) (Gv8 (nI s) v μ) := by
  obtain ⟨X, x1, x2, _, _⟩ := fb_norm hm b
  obtain ⟨c, p1, p2⟩ := cut_norm hm b
  have e4 : (4 : Int32).toInt = 4 := by decide
  by_cases h : d < 4
  · refine ⟨0, c, by decide, by rw [s_X0_stored_eq, if_neg (by rw [ti_le, e4]; omega), p1]; rfl, by omega, fun μ x a2 h1 h2 h3 => ?_⟩
    rw [p_X12_holdAt_eq, if_neg (by rw [ti_le, e4]; omega), tn_of h1, h2, h3]
    refine pk_gd (fun _ => pk_gd (fun _ => pk_bsq p2 (fun r hr => ?_)))
    subst hr; exact gv_w
  · refine ⟨1, X, by decide, by rw [s_X0_stored_eq, if_pos (by rw [ti_le, e4]; omega), x1]; rfl, by omega, fun μ x a2 h1 h2 h3 => ?_⟩
    rw [p_X12_holdAt_eq, if_pos (by rw [ti_le, e4]; omega), tn_of h1, h2, h3, x2]
    exact pk_gd (fun _ => pk_gd (fun _ => gv_w))
theorem na_true {m : Nat} (hm : m ≤ 1) (b : Int32) : s_X0_isTrue (s_X0_make (nI m) b) = s_X12_isTrue (nI m) b := by
  rw [s_X0_isTrue_eq, s_X12_isTrue_eq, mk_kind m (by omega), mk_bits m (by omega)]
end

section
def Qx8 (h : Nat) (μ q : Mem) : Prop := q.2.2 = μ.2.2 ∧ (∀ i k, i ≠ 30 → i ≠ 33 → i ≠ 34 → ¬ (i = 137 ∧ k = 9) → q.1 i k = μ.1 i k) ∧ (∀ k, k ≠ 5 → k ≠ 7 → q.1 30 k = μ.1 30 k) ∧ (∀ i k, i ≠ 31 → i ≠ 32 → ¬ (i = 36 ∧ h ≤ k) → q.2.1 i k = μ.2.1 i k) ∧ Gs7 μ q
theorem Qx8.rf {h : Nat} {μ : Mem} : Qx8 h μ μ := ⟨rfl, fun _ _ _ _ _ _ => rfl, fun _ _ _ => rfl, fun _ _ _ _ _ => rfl, Gs7.rf⟩
theorem Qx8.tr {h : Nat} {μ q z : Mem} (a : Qx8 h μ q) (b : Qx8 h q z) : Qx8 h μ z := ⟨b.1.trans a.1, fun i k c1 c2 c3 c4 => (b.2.1 i k c1 c2 c3 c4).trans (a.2.1 i k c1 c2 c3 c4), fun k c1 c2 => (b.2.2.1 k c1 c2).trans (a.2.2.1 k c1 c2), fun i k c1 c2 c3 => (b.2.2.2.1 i k c1 c2 c3).trans (a.2.2.2.1 i k c1 c2 c3), a.2.2.2.2.tr b.2.2.2.2⟩
theorem Qx8.le {h h2 : Nat} {μ q : Mem} (a : Qx8 h2 μ q) (hh : h ≤ h2) : Qx8 h μ q := ⟨a.1, a.2.1, a.2.2.1, fun i k c1 c2 c3 => a.2.2.2.1 i k c1 c2 (fun e => c3 ⟨e.1, by omega⟩), a.2.2.2.2⟩
theorem Qx8.cx {v h : Nat} {μ q : Mem} (a : Qx8 h μ q) : Cx8 v h μ q := ⟨a.1, fun i k c1 c2 c3 _ _ _ _ _ c9 => a.2.1 i k c1 c2 c3 (fun e => c9 e.1), a.2.2.1, fun k c => a.2.1 137 k (by decide) (by decide) (by decide) (fun e => c e.2), fun k _ => a.2.1 39 k (by decide) (by decide) (by decide) (by omega), fun k _ => a.2.1 45 k (by decide) (by decide) (by decide) (by omega), fun i k c1 c2 _ c4 => a.2.2.2.1 i k c1 c2 c4, a.2.2.2.2⟩
theorem Qx8.pc {h : Nat} {μ : Mem} (x : Int32) : Qx8 h μ (sF μ 137 9 x) := ⟨rfl, fun i k _ _ _ c => by rw [sF_at, if_neg c], fun k _ _ => by rw [sF_i (by decide)], fun _ _ _ _ _ => rfl, gs_same (by rw [sF_i (by decide)]) (fun _ => rfl) (fun _ => rfl) (fun k => by rw [sF_i (by decide)]) (fun k => by rw [sF_i (by decide)])⟩
theorem Qx8.top {h : Nat} {μ : Mem} (x : Int32) : Qx8 h μ (sF μ 30 7 x) := ⟨rfl, fun i k c _ _ _ => by rw [sF_i c], fun k _ c => by rw [sF_k c], fun _ _ _ _ _ => rfl, gs_same (by rw [sF_k (by decide)]) (fun _ => rfl) (fun _ => rfl) (fun k => by rw [sF_i (by decide)]) (fun k => by rw [sF_i (by decide)])⟩
theorem Qx8.st {h k : Nat} {μ : Mem} (hk : h ≤ k) (x : Int64) : Qx8 h μ (sL μ 36 k x) := ⟨rfl, fun _ _ _ _ _ _ => rfl, fun _ _ _ => rfl, fun i l _ _ c => by rw [sL_at, if_neg (fun e => c ⟨e.1, by omega⟩)], gs_same rfl (fun l => by rw [sL_at, if_neg (by omega)]) (fun l => by rw [sL_at, if_neg (by omega)]) (fun _ => rfl) (fun _ => rfl)⟩
theorem Qx8.push {h k : Nat} {μ : Mem} (hk : h ≤ k) (x : Int64) : Qx8 h μ (sF (sL μ 36 k x) 30 7 (μ.1 30 7 + 1)) := (Qx8.st hk x).tr (Qx8.top _)
theorem Fs7.qx {h : Nat} {μ q : Mem} (f : Fs7 μ q) : Qx8 h μ q := ⟨f.1, fun i k c1 c2 c3 _ => f.2.1 i k c1 c2 c3, fun k c _ => f.2.2.1 k c, fun i k c1 c2 _ => f.2.2.2.1 i k c1 c2, f.2.2.2.2⟩
def Qm8 (h m : Nat) (μ z : Mem) : Prop := z.2 = μ.2 ∧ (∀ k, k ≠ 0 → k ≠ 1 → k ≠ 56 → k ≠ 65 → k ≠ 66 → z.1 0 k = μ.1 0 k) ∧ (∀ i k, i ≠ 0 → ¬ (30 ≤ i ∧ i ≤ 34) → ¬ ((37 ≤ i ∧ i ≤ 39) ∧ m ≤ k) → ¬ (i = 40 ∧ h ≤ k) → z.1 i k = μ.1 i k) ∧ Gh7 μ z
theorem Qm8.rf {h m : Nat} {μ : Mem} : Qm8 h m μ μ := ⟨rfl, fun _ _ _ _ _ _ => rfl, fun _ _ _ _ _ _ => rfl, Gh7.rf⟩
theorem Qm8.tr {h m : Nat} {μ q z : Mem} (a : Qm8 h m μ q) (b : Qm8 h m q z) : Qm8 h m μ z := ⟨b.1.trans a.1, fun k c1 c2 c3 c4 c5 => (b.2.1 k c1 c2 c3 c4 c5).trans (a.2.1 k c1 c2 c3 c4 c5), fun i k c1 c2 c3 c4 => (b.2.2.1 i k c1 c2 c3 c4).trans (a.2.2.1 i k c1 c2 c3 c4), a.2.2.2.tr b.2.2.2⟩
theorem Qm8.le {h m h2 m2 : Nat} {μ z : Mem} (a : Qm8 h2 m2 μ z) (e1 : h ≤ h2) (e2 : m ≤ m2) : Qm8 h m μ z := ⟨a.1, a.2.1, fun i k c1 c2 c3 c4 => a.2.2.1 i k c1 c2 (fun e => c3 ⟨e.1, by omega⟩) (fun e => c4 ⟨e.1, by omega⟩), a.2.2.2⟩
theorem Qm8.cm {h m p o : Nat} {μ z : Mem} (a : Qm8 h m μ z) : Cm8 h m p o μ z := ⟨a.1, fun k c1 c2 c3 c4 c5 _ _ _ _ => a.2.1 k c1 c2 c3 c4 c5, fun i k c1 c2 c3 c4 _ _ _ _ => a.2.2.1 i k c1 c2 c3 c4, a.2.2.2⟩
theorem Qm8.F {h m i k : Nat} {μ : Mem} (x : Int32) (c : (i = 0 ∧ (k = 0 ∨ k = 1 ∨ k = 65 ∨ k = 66)) ∨ ((37 ≤ i ∧ i ≤ 39) ∧ m ≤ k) ∨ (i = 40 ∧ h ≤ k)) : Qm8 h m μ (sF μ i k x) := by
  refine ⟨rfl, fun l c1 c2 c3 c4 c5 => ?_, fun j l c1 c2 c3 c4 => ?_, gh_F (by omega) (by omega)⟩
  · rw [sF_at, if_neg (by omega)]
  · rw [sF_at, if_neg (by omega)]
theorem Fh7.qm {h m : Nat} {μ z : Mem} (f : Fh7 μ z) : Qm8 h m μ z := ⟨f.1, fun k _ _ c3 _ _ => f.2.2.1 k c3, fun i k c1 c2 _ _ => f.2.1 i k c1 c2, f.2.2.2⟩
theorem Qm8.come {h m k : Nat} {μ : Mem} (hk : h ≤ k) (x : Int32) : Qm8 h m μ (sF (sF μ 40 k x) 0 66 (μ.1 0 66 + 1)) := (Qm8.F x (by omega)).tr (Qm8.F _ (by omega))
theorem Qm8.act {h m k : Nat} {μ : Mem} (hk : m ≤ k) (x y w t : Int32) : Qm8 h m μ (sF (sF (sF (sF μ 37 k x) 38 k y) 39 k w) 0 65 t) := (((Qm8.F x (by omega)).tr (Qm8.F y (by omega))).tr (Qm8.F w (by omega))).tr (Qm8.F t (by omega))
theorem Gv8.qm {h m : Nat} {s v : Int32} {μ q : Mem} (g : Gv8 s v μ q) : Qm8 h m μ q := by
  unfold Gv8 at g; rw [g]
  exact (Qm8.F s (by omega)).tr (Qm8.F v (by omega))
theorem q_sc {h h2 m : Nat} {μx μm q z : Mem} (fx : Qx8 h μx q) (fm : Qm8 h2 m μm z) : Sc8 μx μm q z := ⟨fun k => fx.2.1 40 k (by decide) (by decide) (by decide) (by omega), fun k => fx.2.2.2.1 44 k (by decide) (by decide) (by omega), ⟨fm.2.1 87 (by decide) (by decide) (by decide) (by decide) (by decide), fm.2.1 88 (by decide) (by decide) (by decide) (by decide) (by decide)⟩, fun i k a b => fm.2.2.1 i k (by omega) (by omega) (by omega) (by omega)⟩
theorem q_re {h h2 m v b a : Nat} {μx μm q z : Mem} {It Bk : List Nat} {cl : Nat → Prop} (R : Re7 μx μm It Bk cl v b a) (fx : Qx8 h μx q) (fm : Qm8 h2 m μm z) : Re7 q z It Bk cl v b a := R.of (fun i k hi => fx.2.1 i k (by omega) (by omega) (by omega) (by omega)) (fun k hk => fx.2.1 137 k (by decide) (by decide) (by decide) (by omega)) (fun i k hi => fx.2.2.2.1 i k (by omega) (by omega) (by omega)) (fun k hk => fm.2.1 k (by omega) (by omega) (by omega) (by omega) (by omega)) (fun i k a1 a2 _ _ => fm.2.2.1 i k (by omega) (by omega) (by omega) (by omega))
theorem S8.known {μx μm q z : Mem} {It Bk : List Nat} {cl : Nat → Prop} {v b a h h0 D m m0 bc ob x w d : Nat} {N : List Int32} (S : S8 μx μm It Bk cl v b a h D N m bc ob) (fx : Qx8 h0 μx q) (fm : Qm8 h0 m0 μm z) (hh : h0 ≤ h) (q7 : (q.1 30 7).toInt = ((h0 + 1 : Nat) : Int)) (z66 : (z.1 0 66).toInt = ((h0 + 1 : Nat) : Int)) (hv : Va7 q z (q.2.1 36 h0) x w d) (hx : (z.1 40 h0).toInt = (x : Int)) (hw : w ≤ 40) (hm : (z.1 0 65).toInt = (m0 : Int)) : S8 q z It Bk cl v b a (h0 + 1) D N m0 bc ob := by
  have fx' : Cx8 v h0 μx q := fx.cx
  have fm' : Cm8 h0 m0 0 0 μm z := fm.cm
  exact S.move fx' fm' (q_re S.1 fx fm) (fun y hy => by rw [fx.2.1 39 6 (by decide) (by decide) (by decide) (by omega)]; exact S.2.1 y hy) (S.2.2.1.res fx' fm' hh q7 z66 hv hx hw) hm
theorem S8.low {μx μm q z : Mem} {It Bk : List Nat} {cl : Nat → Prop} {v b a h h0 D m m0 bc ob : Nat} {N : List Int32} (S : S8 μx μm It Bk cl v b a h D N m bc ob) (fx : Qx8 h0 μx q) (fm : Qm8 h0 m0 μm z) (hh : h0 ≤ h) (q7 : (q.1 30 7).toInt = (h0 : Int)) (z66 : (z.1 0 66).toInt = (h0 : Int)) (hm : (z.1 0 65).toInt = (m0 : Int)) : S8 q z It Bk cl v b a h0 D N m0 bc ob := by
  have fx' : Cx8 v h0 μx q := fx.cx
  have fm' : Cm8 h0 m0 0 0 μm z := fm.cm
  exact S.move fx' fm' (q_re S.1 fx fm) (fun y hy => by rw [fx.2.1 39 6 (by decide) (by decide) (by decide) (by omega)]; exact S.2.1 y hy) (S.2.2.1.low fx' fm' hh q7 z66) hm
theorem c_ins {μ : Mem} {kind mark : Int32} {x y : Int64} {v b n h : Nat} (hbr : μ.1 137 6 = 0) (hv7 : (μ.1 137 7).toInt = (v : Int)) (hb8 : (μ.1 137 8).toInt = (b : Int)) (hv : (v : Int) < (μ.1 39 2).toInt) (hv24 : v < 24) (hb : (b : Int) < (μ.1 39 6).toInt) (hn : (μ.1 39 1).toInt = (n : Int)) (hl : μ.1 43 b ≠ -1 → ∃ l : Nat, (μ.1 43 b).toInt = (l : Int) ∧ l < n) (hk7 : kind ≠ 7) (h7 : (μ.1 30 7).toInt = (h : Int)) (hh : h < 2480) : pk (bd (p_X10_leave kind mark x y μ) (fun r7 μ6 => bw (p_X8_push r7 μ6) (fun μ8 => some μ8))) (fun q => (300 ≤ n ∧ q.1 137 6 = -2 ∧ q.2.2 = μ.2.2) ∨ (n < 300 ∧ ∃ q0, Lv7 kind mark x y v b n μ q0 ∧ q = sF (sL q0 36 h (s_X0_make (nI 3) (μ.1 45 (4 * v + 2)))) 30 7 (q0.1 30 7 + 1))) := by
  refine pk_bd (c_leave (x := x) (y := y) hbr hv7 hb8 hv hv24 hb hn hl) ?_
  rintro r7 μ6 (⟨g1, g2, g3⟩ | ⟨g1, g2, g3⟩)
  · have g3 : μ6 = sF μ 137 6 (-2) := g3
    refine pk_bw (c_push r7 (μ := μ6) (h := h) (by rw [g3, sF_i (by decide)]; exact h7) hh) (fun q hq => pk_some (Or.inl ⟨g1, ?_, ?_⟩))
    · rw [hq, sF_i (by decide)]; show (sL μ6 36 h r7).1 137 6 = _; rw [g3]; show (sF μ 137 6 (-2)).1 137 6 = _; rw [sF_v]
    · rw [hq, g3]; rfl
  · have g2 : r7 = s_X0_make (nI 3) (if kind = 7 then -1 else μ.1 45 (4 * v + 2)) := g2
    have g3 : Lv7 kind mark x y v b n μ μ6 := g3
    rw [if_neg hk7] at g2
    refine pk_bw (c_push r7 (μ := μ6) (h := h) (by rw [g3.fx.2.1 30 7 (by decide) (by decide) (by decide) (by decide) (by decide)]; exact h7) hh) (fun q hq => pk_some (Or.inr ⟨g1, μ6, g3, by rw [hq, g2]⟩))
theorem m_regcome {μ z : Mem} {kind mark : Int32} {X : List Nat} {p o n h : Nat} {a : Int32} (hL : La7 kind mark true X p o n μ z) (ha : a.toInt = (p : Int)) (h66 : (μ.1 0 66).toInt = (h : Int)) : pk (bd (p_X12_registerOf a z) (fun r20 μ20 => bw (p_X12_come r20 μ20) (fun μ22 => some μ22))) (fun q => ∃ (y : Nat) (z2 : Mem) (r : Int32), Nn7 z z2 y 3 (μ.1 0 93) ∧ r.toInt = (y : Int) ∧ q = sF (sF z2 40 h r) 0 66 (z2.1 0 66 + 1)) := by
  have k47 : z.1 47 p = μ.1 0 93 := hL.2.2.2.2.1.2.1
  refine pk_bd (P := fun r => ∃ y : Nat, r.1.toInt = (y : Int) ∧ Nn7 z r.2 y 3 (μ.1 0 93)) ?_ ?_
  · rw [p_X12_registerOf_eq, tn_of ha, k47]
    refine pk_gd (fun _ => pk_bd (m_node 3 (μ.1 0 93) z) ?_)
    rintro r μ2 ⟨y, hy, hN⟩
    exact pk_some ⟨y, hy, hN⟩
  · rintro r μ8 ⟨y, hy, hN⟩
    have hN : Nn7 z μ8 y 3 (μ.1 0 93) := hN
    have h8 : (μ8.1 0 66).toInt = (h : Int) := by rw [hN.2.2.2.2.2.2.2.2.2.1 66 (by decide), hL.2.2.2.2.2.2.1 66 (by decide) (by decide) (by decide) (by decide)]; exact h66
    exact pk_bw (m_come r h8) (fun q hq => pk_some ⟨y, μ8, r, hN, hy, hq.1⟩)
theorem S8.ins {μx μm q1 z1 q0 z0 z2 q z : Mem} {It Bk : List Nat} {cl : Nat → Prop} {v b a h h0 D m m0 bc ob y p o : Nat} {N : List Int32} {kind mark r : Int32} {x1 x2 : Int64} {X : List Nat} (S : S8 μx μm It Bk cl v b a h D N m bc ob) (fx : Qx8 h0 μx q1) (fm : Qm8 h0 m0 μm z1) (hh : h0 ≤ h) (hh2 : h0 < 2480) (hk7 : kind ≠ 7) (h11 : kind ≠ 11) (h6 : kind ≠ 6) (hk : kind ≠ 13 ∧ kind ≠ 14) (hl : It.length < 300) (hc : Lv7 kind mark x1 x2 v b It.length q1 q0) (hq : q = sF (sL q0 36 h0 (s_X0_make (nI 3) (q1.1 45 (4 * v + 2)))) 30 7 (q0.1 30 7 + 1)) (q7 : (q1.1 30 7).toInt = (h0 : Int)) (hm : La7 kind mark true X p o It.length z1 z0) (hX : X.length ≤ 2) (hx : ∀ u, X[0]? = some u → Lo7 z1 x1 u) (hy : ∀ u, X[1]? = some u → Lo7 z1 x2 u) (hp : (z1.1 0 87).toInt = (p : Int)) (ho : (z1.1 0 88).toInt = (o : Int)) (hN : Nn7 z0 z2 y 3 (z1.1 0 93)) (hr : r.toInt = (y : Int)) (hz : z = sF (sF z2 40 h0 r) 0 66 (z2.1 0 66 + 1)) (z66 : (z1.1 0 66).toInt = (h0 : Int)) (z65 : (z1.1 0 65).toInt = (m0 : Int)) : S8 q z (It ++ [p]) (Bk ++ [b]) cl v b a (h0 + 1) D N m0 bc ob ∧ Gl8 b μx μm It Bk cl q z (It ++ [p]) (Bk ++ [b]) cl ∧ Cx8 v h0 μx q ∧ Cm8 h0 m0 p o μm z := by
  have e1 : (1 : Int32).toInt = 1 := by decide
  have R1 := q_re S.1 fx fm
  have R0 : Re7 q0 z0 (It ++ [p]) (Bk ++ [b]) cl v b a := re_lay R1 hl hc hm ⟨fun _ => hk7, fun _ => rfl⟩ h11 h6 hX hx hy hp ho
  have hF := hN.2.2.2.2.2.2.2
  have t4 : q1.1 45 (4 * v + 2) = z1.1 0 93 := R1.1.2.2.2.1
  have c7 : q0.1 30 7 = q1.1 30 7 := hc.fx.2.1 30 7 (by decide) (by decide) (by decide) (by decide) (by decide)
  have d66 : z2.1 0 66 = z1.1 0 66 := by rw [hF.2.2.1 66 (by decide), hm.2.2.2.2.2.2.1 66 (by decide) (by decide) (by decide) (by decide)]
  have d65 : z2.1 0 65 = z1.1 0 65 := by rw [hF.2.2.1 65 (by decide), hm.2.2.2.2.2.2.1 65 (by decide) (by decide) (by decide) (by decide)]
  have qx : Qx8 h0 q0 q := by rw [hq]; exact Qx8.push (Nat.le_refl _) _
  have qm : Qm8 h0 m0 z0 z := by rw [hz]; exact (Fh7.qm hF).tr (Qm8.come (Nat.le_refl _) _)
  have R := q_re R0 qx qm
  have FX : Cx8 v h0 μx q := (fx.cx.tr hc.fx.cx).tr qx.cx
  have FM : Cm8 h0 m0 p o μm z := (fm.cm.tr (hm.fm hp ho).cm).tr qm.cm
  have hb : Bb7 q (Bk ++ [b]) := by
    intro y2 hy2
    rw [FX.2.2.2.2.1 6 (by decide)]
    rcases List.mem_append.mp hy2 with e | e
    · exact S.2.1 y2 e
    · rw [List.mem_singleton.mp e]; exact S.1.2.2.2.1.2.2.2.2.2
  have hv : Va7 q z (s_X0_make (nI 3) (z1.1 0 93)) y 1 0 := (Nn7.leaf (μx := q) (m := 3) hN (Or.inr (Or.inr rfl))).gr Gs7.rf (by rw [hz]; exact (Qm8.come (m := m0) (Nat.le_refl h0) r).2.2.2)
  refine ⟨S.move FX FM R hb (S.2.2.1.res FX FM hh ?_ ?_ ?_ ?_ (w := 1) (d := 0) (x := y) (by decide)) ?_, ((Gl8.same (q_sc fx fm)).tr (gl_lay R1 hl hc hm hk h11 hp ho)).tr (Gl8.same (q_sc qx qm)), FX, FM⟩
  · rw [hq, sF_v, c7, ti_add (by omega) (by omega), q7, e1]; omega
  · have := ti_hi (z1.1 0 66)
    rw [hz, sF_v, d66, ti_add (by omega) (by omega), z66, e1]; omega
  · have : q.2.1 36 h0 = s_X0_make (nI 3) (z1.1 0 93) := by
      rw [hq]
      show (sL q0 36 h0 _).2.1 36 h0 = _
      rw [sL_at, if_pos ⟨rfl, rfl⟩, t4]
    rw [this]; exact hv
  · rw [hz, sF_i (by decide), sF_v]; exact hr
  · rw [hz, sF_k (by decide), sF_i (by decide), d65]; exact z65
end

section
def Su5 (μ : Mem) : Prop := (sel 1 (μ.2.2 137 14) = 142 ∧ sel 1 (μ.2.2 137 15) = 145) ∨ (sel 1 (μ.2.2 137 14) = 145 ∧ sel 1 (μ.2.2 137 15) = 142)
theorem Su5.of {μ q : Mem} (h : Su5 μ) (e : q.2.2 = μ.2.2) : Su5 q := by unfold Su5 at h ⊢; rw [e]; exact h
def Ct9 (μm : Mem) (It : List Nat) (u : Nat) : Nat := (It.filter (fun p => decide (μm.1 46 p = 11 ∧ μm.1 48 p = nI u))).length
def Cq9 (μx μm : Mem) (It : List Nat) : Prop := ∀ u : Nat, u ≤ 24 → (if (u : Int) < (μx.1 39 2).toInt then (μx.1 45 (4 * u + 1)).toInt else 0) = (Ct9 μm It u : Int)
def W9 (P : Nat) (C : List Th3) (G : List Fn5) (v b a h D : Nat) (N : List Int32) (m bc ob : Nat) (μx μm : Mem) (It Bk : List Nat) (cl : Nat → Prop) : Prop := S8 μx μm It Bk cl v b a h D N m bc ob ∧ Pr8 μx μm P C G ∧ Pa7 μx μm G ∧ (∀ x, cl x → (x : Int) < (μx.1 39 6).toInt) ∧ (μx.1 39 6).toInt + (μx.1 39 2).toInt ≤ (v : Int) + 2 + 2 * (It.length : Int) + 2 * (ob : Int) ∧ Su5 μx ∧ Cq9 μx μm It
def Yx9 (v : Nat) (μ q : Mem) : Prop := ((μ.1 39 2).toInt ≤ (q.1 39 2).toInt ∧ (μ.1 39 6).toNatClampNeg ≤ (q.1 39 6).toNatClampNeg) ∧ (∀ j : Nat, (j : Int) < 4 * (μ.1 39 2).toInt → j % 4 ≠ 1 → j ≠ 4 * v + 2 → q.1 45 j = μ.1 45 j) ∧ (q.1 39 6).toInt + (q.1 39 2).toInt + 2 * (μ.1 39 1).toInt ≤ (μ.1 39 6).toInt + (μ.1 39 2).toInt + 2 * (q.1 39 1).toInt
def Ym9 (μ z : Mem) : Prop := ∀ i k, 62 ≤ i → i ≤ 65 → z.1 i k = μ.1 i k
theorem Yx9.rf {v : Nat} {μ : Mem} : Yx9 v μ μ := ⟨⟨Int.le_refl _, Nat.le_refl _⟩, fun _ _ _ _ => rfl, Int.le_refl _⟩
theorem Yx9.tr {v : Nat} {μ q z : Mem} (a : Yx9 v μ q) (b : Yx9 v q z) : Yx9 v μ z := ⟨⟨Int.le_trans a.1.1 b.1.1, Nat.le_trans a.1.2 b.1.2⟩, fun j c1 c2 c3 => (b.2.1 j (by have := a.1.1; omega) c2 c3).trans (a.2.1 j c1 c2 c3), by have := a.2.2; have := b.2.2; omega⟩
def F9 (v b B h D n bc m : Nat) (μx μm : Mem) (It Bk : List Nat) (cl : Nat → Prop) (q z : Mem) (It2 Bk2 : List Nat) (cl2 : Nat → Prop) : Prop := Gw8 b B μx μm It Bk cl q z It2 Bk2 cl2 ∧ Xs8 h D n bc μx q ∧ Ms8 h D m μm z ∧ (Gs7 μx q ∧ Gh7 μm z) ∧ Yx9 v μx q ∧ Ym9 μm z
theorem F9.rf {v b B h D n bc m : Nat} {μx μm : Mem} {It Bk : List Nat} {cl : Nat → Prop} : F9 v b B h D n bc m μx μm It Bk cl μx μm It Bk cl := ⟨Gw8.rf, Xs8.rf, Ms8.rf, ⟨Gs7.rf, Gh7.rf⟩, Yx9.rf, fun _ _ _ _ => rfl⟩
theorem F9.tr {v b B B2 h D n bc m h2 n2 bc2 m2 : Nat} {μx μm q z q2 z2 : Mem} {It Bk It2 Bk2 It3 Bk3 : List Nat} {cl cl2 cl3 : Nat → Prop} (x : F9 v b B h D n bc m μx μm It Bk cl q z It2 Bk2 cl2) (y : F9 v b B2 h2 D n2 bc2 m2 q z It2 Bk2 cl2 q2 z2 It3 Bk3 cl3) (e1 : h ≤ h2) (e2 : n ≤ n2) (e3 : bc ≤ bc2) (e4 : m ≤ m2) (e5 : B ≤ B2) : F9 v b B h D n bc m μx μm It Bk cl q2 z2 It3 Bk3 cl3 := ⟨x.1.tr y.1 e5, x.2.1.tr y.2.1 e1 e2 e3, x.2.2.1.tr y.2.2.1 e1 e4, ⟨x.2.2.2.1.1.tr y.2.2.2.1.1, x.2.2.2.1.2.tr y.2.2.2.1.2⟩, x.2.2.2.2.1.tr y.2.2.2.2.1, fun i k a b => (y.2.2.2.2.2 i k a b).trans (x.2.2.2.2.2 i k a b)⟩
theorem F9.of {v b B h D n bc m h0 m0 p o : Nat} {μx μm q z : Mem} {It Bk It2 Bk2 : List Nat} {cl cl2 : Nat → Prop} (g : Gw8 b B μx μm It Bk cl q z It2 Bk2 cl2) (fx : Cx8 v h0 μx q) (fm : Cm8 h0 m0 p o μm z) (e1 : h ≤ h0) (e2 : m ≤ m0) (hn : (μx.1 39 1).toInt ≤ (q.1 39 1).toInt) : F9 v b B h D n bc m μx μm It Bk cl q z It2 Bk2 cl2 := by
  obtain ⟨f1, f2, f3, f4, f5, f6, f7, f8⟩ := fx
  obtain ⟨g1, g2, g3, g4⟩ := fm
  refine ⟨g, ⟨fun k hk => f7 36 k (by decide) (by decide) (by decide) (by omega), fun k hk => f7 37 k (by decide) (by decide) (by decide) (by omega), fun k _ => f2 38 k (by decide) (by decide) (by decide) (by decide) (by decide) (by decide) (by decide) (by decide) (by decide), fun k _ => f2 138 k (by decide) (by decide) (by decide) (by decide) (by decide) (by decide) (by decide) (by decide) (by decide), fun k _ => f7 139 k (by decide) (by decide) (by decide) (by omega), by rw [f1], fun k => f7 140 k (by decide) (by decide) (by decide) (by omega)⟩, ⟨fun k hk => g3 40 k (by decide) (by omega) (by omega) (by omega) (by omega) (by omega) (by decide) (by decide), fun k _ => g3 41 k (by decide) (by omega) (by omega) (by omega) (by omega) (by omega) (by decide) (by decide), fun i k hi hk => g3 i k (by omega) (by omega) (by omega) (by omega) (by omega) (by omega) (by omega) (by omega)⟩, ⟨f8, g4⟩, ⟨⟨by rw [f5 2 (by decide)]; exact Int.le_refl _, by rw [f5 6 (by decide)]; exact Nat.le_refl _⟩, fun j _ _ hj => f6 j hj, by rw [f5 6 (by decide), f5 2 (by decide)]; omega⟩, fun i k a1 a2 => g3 i k (by omega) (by omega) (by omega) (by omega) (by omega) (by omega) (by omega) (by omega)⟩
theorem re_le {b B b1 b2 a1 a2 v : Nat} {μx μm q z : Mem} {It Bk It2 Bk2 : List Nat} {cl cl2 : Nat → Prop} (h : Re7 μx μm It Bk cl v b1 a1) (h2 : Re7 q z It2 Bk2 cl2 v b2 a2) (g : Gw8 b B μx μm It Bk cl q z It2 Bk2 cl2) : (μx.1 39 1).toInt ≤ (q.1 39 1).toInt := by
  obtain ⟨⟨E, _, e1, _⟩, _⟩ := g
  have x1 := h.1.1
  have x2 := h2.1.1
  rw [e1, List.length_append] at x2
  omega
theorem ct_grow {b B : Nat} {μx μm q z : Mem} {It Bk It2 Bk2 : List Nat} {cl cl2 : Nat → Prop} (g : Gw8 b B μx μm It Bk cl q z It2 Bk2 cl2) (hI : ∀ p, p ∈ It → p < (μm.1 0 87).toNatClampNeg) (n11 : ∀ p, (μm.1 0 87).toNatClampNeg ≤ p → p < (z.1 0 87).toNatClampNeg → z.1 46 p ≠ 11) (u : Nat) : Ct9 z It2 u = Ct9 μm It u := by
  obtain ⟨⟨E, F, e1, _, _, _, e5, _⟩, _, _, _, i, _⟩ := g
  unfold Ct9
  rw [e1, List.filter_append, List.length_append]
  have h2 : E.filter (fun p => decide (z.1 46 p = 11 ∧ z.1 48 p = nI u)) = [] := by
    refine List.filter_eq_nil_iff.mpr (fun p hp => ?_)
    have := e5 p hp
    have h3 := n11 p this.1 this.2.1
    intro e
    exact h3 (of_decide_eq_true e).1
  have h1 : It.filter (fun p => decide (z.1 46 p = 11 ∧ z.1 48 p = nI u)) = It.filter (fun p => decide (μm.1 46 p = 11 ∧ μm.1 48 p = nI u)) := by
    refine List.filter_congr (fun p hp => ?_)
    have := hI p hp
    rw [i 46 p (by decide) (by decide) this, i 48 p (by decide) (by decide) this]
  rw [h1, h2]; rfl
theorem Re7.ilt {μx μm : Mem} {It Bk : List Nat} {cl : Nat → Prop} {v b a : Nat} (h : Re7 μx μm It Bk cl v b a) : ∀ p, p ∈ It → p < (μm.1 0 87).toNatClampNeg := by
  intro p hp
  obtain ⟨⟨_, _, _, _, P, O, tP, _, _, tI⟩, _⟩ := h
  obtain ⟨i, hi⟩ := List.mem_iff_getElem?.mp hp
  rw [tn_of tP]; exact (tI i p hi).1
theorem bh_cong {μ z : Mem} (h : Bh μ 0 (nv μ 18)) (h0 : z.1 0 18 = μ.1 0 18) (h9 : ∀ k, z.1 9 k = μ.1 9 k) (h10 : ∀ k, z.1 10 k = μ.1 10 k) : Bh z 0 (nv z 18) := by
  have e : nv z 18 = nv μ 18 := by unfold nv; rw [h0]
  rw [e]
  intro r a1 a2
  obtain ⟨q, b1, b2, b3⟩ := h r a1 a2
  exact ⟨q, b1.cong (fun j _ _ => by unfold iv; rw [h9]), by unfold iv at b2 ⊢; rw [h10]; exact b2, b3⟩
theorem Pa7.of {μx μm q z : Mem} {G : List Fn5} (h : Pa7 μx μm G) (c1 : q.1 39 2 = μx.1 39 2) (c2 : ∀ i k, 47 ≤ i → i ≤ 118 → q.1 i k = μx.1 i k ∧ q.2.1 i k = μx.2.1 i k) (c3 : ∀ u : Nat, q.1 45 (4 * u) = μx.1 45 (4 * u)) (m1 : z.1 0 110 = μm.1 0 110) (m2 : ∀ i k, i = 2 ∨ i = 3 ∨ i = 57 ∨ i = 58 ∨ i = 59 ∨ i = 60 ∨ i = 61 ∨ i = 66 → z.1 i k = μm.1 i k) (c4 : ∀ u : Nat, (μm.1 0 111).toInt < (u : Int) → q.1 45 (4 * u + 2) = μx.1 45 (4 * u + 2)) (m3 : z.1 0 111 = μm.1 0 111) : Pa7 q z G := by
  obtain ⟨V, h1, h2, h3, h4⟩ := h
  refine ⟨V, by rw [c1]; exact h1, by rw [m1]; exact h2, h3, fun u hu => ?_⟩
  obtain ⟨⟨f, L, a1, a2, a3, a4, a5, a6, a8, a9, a7⟩, b, bp, bw, br⟩ := h4 u hu
  refine ⟨⟨f, L, by rw [m2 57 u (by omega)]; exact a1, a2, by rw [(c2 (47 + 3 * u) 3 (by omega) (by omega)).1, m2 2 f (by omega), m2 3 f (by omega)]; exact a3, by rw [m2 58 u (by omega)]; exact a4, a5, by rw [(c2 (47 + 3 * u) 2 (by omega) (by omega)).1]; exact a6, by rw [m2 59 u (by omega)]; exact a8, ?_, fun k hk => ?_⟩, by rw [c3 u, m2 66 u (by omega)]; exact b, by rw [m2 66 u (by omega)]; exact bp, fun f L n e1 e2 e3 => ?_, fun e => ?_⟩
  · rw [m2 59 u (by omega), a9]
    refine congrArg (fun (L : List Nat) => (L.length : Int)) (List.filter_congr (fun k _ => ?_))
    rw [m2 60 _ (by omega)]
  · rw [(c2 (48 + 3 * u) k (by omega) (by omega)).2, m2 60 _ (by omega), m2 61 _ (by omega)]; exact a7 k hk
  · rw [m2 57 u (by omega)] at e1
    rw [m2 58 u (by omega)] at e2
    rw [m2 3 f (by omega)] at e3
    rw [show (fun k => q.2.1 (48 + 3 * u) k) = (fun k => μx.2.1 (48 + 3 * u) k) from funext (fun k => (c2 (48 + 3 * u) k (by omega) (by omega)).2)]
    exact bw f L n e1 e2 e3
  · rw [m3] at e
    rw [c4 u e, m2 59 u (by omega)]; exact br e
theorem W9.move {P : Nat} {C : List Th3} {G : List Fn5} {v b a h h2 h0 D m m0 m2 bc ob p o : Nat} {N : List Int32} {μx μm q z : Mem} {It Bk It2 Bk2 : List Nat} {cl : Nat → Prop} (W : W9 P C G v b a h D N m bc ob μx μm It Bk cl) (S' : S8 q z It2 Bk2 cl v b a h2 D N m2 bc ob) (fx : Cx8 v h0 μx q) (fm : Cm8 h0 m0 p o μm z) (g : Gl8 b μx μm It Bk cl q z It2 Bk2 cl) : W9 P C G v b a h2 D N m2 bc ob q z It2 Bk2 cl := by
  obtain ⟨S, hP, hA, hc, hb, hs, hq⟩ := W
  have fx' := fx
  have fm' := fm
  obtain ⟨f1, f2, f3, f4, f5, f6, f7, f8⟩ := fx'
  obtain ⟨g1, g2, g3, g4⟩ := fm'
  have x1 : ∀ i k, i ≠ 30 → i ≠ 33 → i ≠ 34 → i ≠ 39 → i ≠ 40 → i ≠ 42 → i ≠ 43 → i ≠ 45 → i ≠ 137 → q.1 i k = μx.1 i k := f2
  have mm : ∀ i k, i ≠ 0 → ¬ (30 ≤ i ∧ i ≤ 34) → ¬ (37 ≤ i ∧ i ≤ 40) → ¬ (46 ≤ i ∧ i ≤ 56) → z.1 i k = μm.1 i k := fun i k a1 a2 a3 a4 => g3 i k a1 a2 (by omega) (by omega) (by omega) (by omega) (by omega) (by omega)
  have m0' : ∀ k, k ≠ 0 → k ≠ 1 → k ≠ 56 → k ≠ 65 → k ≠ 66 → k ≠ 87 → k ≠ 88 → k ≠ 89 → k ≠ 93 → z.1 0 k = μm.1 0 k := g2
  have hlen : It.length ≤ It2.length := by
    obtain ⟨⟨E, _, e1, _⟩, _⟩ := g.1 0
    rw [e1, List.length_append]; omega
  refine ⟨S', ?_, ?_, fun x hx => by rw [f5 6 (by decide)]; exact hc x hx, ?_, hs.of f1, ?_⟩
  · refine hP.of (by rw [f1]) (fun i k a1 a2 => x1 i k (by omega) (by omega) (by omega) (by omega) (by omega) (by omega) (by omega) (by omega) (by omega)) (fun k hk => m0' k (by omega) (by omega) (by omega) (by omega) (by omega) (by omega) (by omega) (by omega) (by omega)) (fun i k a1 a2 => mm i k (by omega) (by omega) (by omega) (by omega)) (bh_cong hP.2.2.2.2.2.2.2.2.2 (m0' 18 (by decide) (by decide) (by decide) (by decide) (by decide) (by decide) (by decide) (by decide) (by decide)) (fun k => mm 9 k (by decide) (by omega) (by omega) (by omega)) (fun k => mm 10 k (by decide) (by omega) (by omega) (by omega)))
  · exact hA.of (f5 2 (by decide)) (fun i k a1 a2 => ⟨x1 i k (by omega) (by omega) (by omega) (by omega) (by omega) (by omega) (by omega) (by omega) (by omega), f7 i k (by omega) (by omega) (by omega) (by omega)⟩) (fun u => f6 _ (by omega)) (m0' 110 (by decide) (by decide) (by decide) (by decide) (by decide) (by decide) (by decide) (by decide) (by decide)) (fun i k hi => mm i k (by omega) (by omega) (by omega) (by omega)) (fun u hu => f6 _ (by rw [S.v111] at hu; omega)) (m0' 111 (by decide) (by decide) (by decide) (by decide) (by decide) (by decide) (by decide) (by decide) (by decide))
  · rw [f5 6 (by decide), f5 2 (by decide)]; omega
  · intro u hu
    rw [f5 2 (by decide), f6 _ (by omega), ct_grow (g.1 0) S.1.ilt g.2 u]
    exact hq u hu
end

section
def Bu9 (a1 : Int32) (μ : Mem) (X Y : Int) : Prop := 0 ≤ a1.toInt ∧ a1.toInt + 2500 * (200 - (μ.1 39 3).toInt) ≤ X ∧ (μ.1 30 5).toInt + 80 * (200 - (μ.1 39 3).toInt) ≤ Y ∧ 0 ≤ (μ.1 39 3).toInt ∧ (μ.1 39 3).toInt ≤ 200 ∧ 0 ≤ (μ.1 30 5).toInt
theorem Bu9.lt {a1 : Int32} {μ : Mem} {X Y : Int} (h : Bu9 a1 μ X Y) : a1.toInt ≤ X := by
  obtain ⟨h1, h2, h3, h4, h5, h6⟩ := h; omega
theorem Bu9.szl {a1 : Int32} {μ : Mem} {X Y : Int} (h : Bu9 a1 μ X Y) : (μ.1 30 5).toInt ≤ Y := by
  obtain ⟨h1, h2, h3, h4, h5, h6⟩ := h; omega
theorem Bu9.step {a1 : Int32} {μ q : Mem} {X Y : Int} {y : Int} (h : Bu9 a1 μ X Y) (hX : X < 1000000) (h3 : q.1 39 3 = μ.1 39 3) (h5 : (μ.1 30 5).toInt ≤ (q.1 30 5).toInt) (h5' : (q.1 30 5).toInt ≤ (μ.1 30 5).toInt + y) : Bu9 (a1 + 1) q (X + 1) (Y + y) := by
  have e1 : (1 : Int32).toInt = 1 := by decide
  have hl := h.lt
  obtain ⟨g1, g2, g3, g4, g5, g6⟩ := h
  unfold Bu9
  rw [h3, ti_add (by omega) (by omega), e1]
  exact ⟨by omega, by omega, by omega, g4, g5, by omega⟩
theorem Bu9.same {a1 : Int32} {μ q : Mem} {X Y : Int} (h : Bu9 a1 μ X Y) (h3 : q.1 39 3 = μ.1 39 3) (h5 : q.1 30 5 = μ.1 30 5) : Bu9 a1 q X Y := by
  unfold Bu9; rw [h3, h5]; exact h
theorem Bu9.mono {a1 : Int32} {μ : Mem} {X Y X2 Y2 : Int} (h : Bu9 a1 μ X Y) (hX : X ≤ X2) (hY : Y ≤ Y2) : Bu9 a1 μ X2 Y2 := by
  obtain ⟨g1, g2, g3, g4, g5, g6⟩ := h
  exact ⟨g1, by omega, by omega, g4, g5, g6⟩
def Rn9 {β : Type} (K : Mem → Option β) (Post : Int32 × Mem → β → Prop) (n : Nat) (a1 : Int32) (q : Mem) (fu : Nat) (z : Mem) : Prop := pk2 (p_X11_specialise_b17 n a1 q) (bw (p_X12_goAll_b0 fu z) K) Post
def Bd9 {β : Type} (K : Mem → Option β) (Post : Int32 × Mem → β → Prop) : Prop := ∀ (q z : Mem) (a1 : Int32) (n fu : Nat) (cd : Int32), q.1 137 6 = cd → z.1 0 68 = cd → cd ≠ 0 → Su5 q → Rn9 K Post n a1 q fu z
def Ok9 {β : Type} (K : Mem → Option β) (Post : Int32 × Mem → β → Prop) (P : Nat) (C : List Th3) (G : List Fn5) (v b a h D : Nat) (N : List Int32) (m bc ob h1 m1 : Nat) (μx μm : Mem) (It Bk : List Nat) (cl : Nat → Prop) (e : Nat) (X Y : Int) : Prop := ∀ (q z : Mem) (It2 Bk2 : List Nat) (cl2 : Nat → Prop) (a1 : Int32) (n fu : Nat), W9 P C G v b a h D N m bc ob q z It2 Bk2 cl2 → F9 v b (μx.1 39 6).toNatClampNeg h1 D N.length bc m1 μx μm It Bk cl q z It2 Bk2 cl2 → (q.1 137 9).toInt = (e : Int) → Bu9 a1 q X Y → Rn9 K Post n a1 q fu z
def Aw9 (μ : Mem) : Nat → Nat → Nat → Nat → Prop
  | _, 0, p, q => p = q
  | m, k + 1, p, q => ∃ r, Aw9 μ (m + 1) k p r ∧ Sh (iv μ 9) 1 r q ∧ μ.1 37 m = 0 ∧ (μ.1 38 m).toInt = (r : Int)
theorem Aw9.sh {μ : Mem} : ∀ {k m p q : Nat}, Aw9 μ m k p q → Sh (iv μ 9) k p q := by
  intro k
  induction k with
  | zero => intro m p q h; have h : p = q := h; subst h; exact Sh.nil
  | succ k ih =>
    intro m p q h
    obtain ⟨r, h1, h2, _⟩ := h
    exact (ih h1).app h2
theorem Aw9.cong {μ z : Mem} (h9 : ∀ i, z.1 9 i = μ.1 9 i) : ∀ {k m p q : Nat}, Aw9 μ m k p q → (∀ i l, i = 37 ∨ i = 38 → m ≤ l → l < m + k → z.1 i l = μ.1 i l) → Aw9 z m k p q := by
  intro k
  induction k with
  | zero => intro m p q h _; exact h
  | succ k ih =>
    intro m p q h c
    obtain ⟨r, h1, h2, h3, h4⟩ := h
    refine ⟨r, ih h1 (fun i l hi a b => c i l hi (by omega) (by omega)), h2.cong (fun j _ _ => by unfold iv; rw [h9]), ?_, ?_⟩
    · rw [c 37 m (Or.inl rfl) (Nat.le_refl _) (by omega)]; exact h3
    · rw [c 38 m (Or.inr rfl) (Nat.le_refl _) (by omega)]; exact h4
def Fn9 (G : List Fn5) (T : List Th3) (o : Nat) : Prop := ∃ f G1 G2, G = G1 ++ f :: G2 ∧ T = f.2.2.1 ∧ o = tot G2
theorem Kr6.tail {μ : Mem} : ∀ {G1 G2 : List Fn5}, Kr6 μ (G1 ++ G2) → Kr6 μ G2 := by
  intro G1
  induction G1 with
  | nil => intro G2 h; exact h
  | cons g G1 ih => intro G2 h; exact ih h.2.2
theorem fn_at {μm : Mem} {G : List Fn5} {T : List Th3} {o : Nat} (h : Pn5 μm G) (hF : Fn9 G T o) : ∀ i x, T[i]? = some x → μm.1 7 (o + i) = x.1 ∧ μm.1 8 (o + i) = x.2.1 ∧ μm.1 9 (o + i) = x.2.2 := by
  obtain ⟨f, G1, G2, rfl, rfl, rfl⟩ := hF
  intro i x hx
  have := (h.2.2.tail (G1 := G1)).1.2.2.2.2.2 i x hx
  exact this
theorem cd_sh {T : List Th3} {cf : Nat → Option Th3} {o : Nat} {μ : Mem} (hT : ∀ i x, T[i]? = some x → μ.1 9 (o + i) = x.2.2) {r k : Nat} {N : List Int32} {i j c e : Nat} (h : Cd6 (at5 T) cf r k N i j c e) : Sh (iv μ 9) k (o + i) (o + j) := by
  have b : ∀ i x (k : Nat), T[i]? = some x → x.2.2.toInt = (k : Int) → iv μ 9 (o + i) = (k : Int) := fun i x k h1 h2 => by unfold iv; rw [hT i x h1]; exact h2
  have d1 : (1 : Int32).toInt = ((1 : Nat) : Int) := by decide
  have d2 : (2 : Int32).toInt = ((2 : Nat) : Int) := by decide
  have d3 : (3 : Int32).toInt = ((3 : Nat) : Int) := by decide
  have d0 : (0 : Int32).toInt = ((0 : Nat) : Int) := by decide
  refine Cd6.ind (M := fun r k N i j c e => Sh (iv μ 9) k (o + i) (o + j)) ?_ ?_ ?_ ?_ ?_ ?_ ?_ ?_ ?_ ?_ ?_ ?_ h
  · intro r N i c; exact Sh.nil
  · intro r N i c k m j d e _ ia _ ib; exact ia.app ib
  · intro r N i c s b2 h1 _ _; exact Sh.cons (k := 0) (b i _ 0 h1 d0) Sh.nil Sh.nil
  · intro r N i c a h1 _ _; exact Sh.cons (k := 0) (b i _ 0 h1 d0) Sh.nil Sh.nil
  · intro r N i c d h1 _ _; exact Sh.cons (k := 0) (b i _ 0 h1 d0) Sh.nil Sh.nil
  · intro r N i c x j e h1 _ ia _ _
    refine Sh.cons (k := 1) (b i _ 1 h1 ?_) ia Sh.nil
    unfold oneT
    split
    · exact d1
    split
    · exact d1
    split
    · exact d1
    split
    · exact d1
    split
    · exact d1
    · exact d1
  · intro r N i c d j e h1 _ ia _ _; exact Sh.cons (k := 1) (b i _ 1 h1 d1) ia Sh.nil
  · intro r N i c s m d j e h1 _ ia _ ib _ _; exact Sh.cons (k := 2) (b i _ 2 h1 d2) (ia.app ib) Sh.nil
  · intro r N i c m d j e h1 _ ia _ ib _; exact Sh.cons (k := 2) (b i _ 2 h1 d2) (ia.app ib) Sh.nil
  · intro r N i c m d m2 d2' j e h1 _ ia _ _ ib _ _ ic _; exact Sh.cons (k := 3) (b i _ 3 h1 d3) ((ia.app ib).app ic) Sh.nil
  · intro r N i c a0 m d j e h1 _ _ ia _ _ ib; exact Sh.cons (k := 2) (b i _ 2 h1 d2) (ia.app ib) Sh.nil
  · intro r N i c l n j e h1 h2 _ ia _
    exact Sh.cons (k := n) (b i _ n h1 (by show (Int32.ofNat n).toInt = _; exact Int32.toInt_ofNat_of_lt (by omega))) ia Sh.nil
def E9 (P : Nat) (C : List Th3) (G : List Fn5) (df : Nat) (o r k : Nat) (N : List Int32) (i j c e : Nat) : Prop := ∀ {β : Type} (K : Mem → Option β) (Post : Int32 × Mem → β → Prop) (μx μm : Mem) (It Bk : List Nat) (cl : Nat → Prop) (v b a h D m bc ob : Nat) (a1 : Int32) (n fu : Nat) (X Y : Int), W9 P C G v b a h D N (m + k) bc ob μx μm It Bk cl → Aw9 μm m k (o + i) (o + j) → (μx.1 137 9).toInt = (c : Int) → Bu9 a1 μx X Y → h + (j - i) ≤ 80 * (D + 1) → bc + r ≤ 20 * (D + 1) → ob + r ≤ 20 ∧ 12 ≤ D + df → X + ((e - c : Nat) : Int) ≤ 1000000 → Y + ((j - i : Nat) : Int) ≤ 30200 → Ok9 K Post P C G v b a (h + k) D N m bc ob h m μx μm It Bk cl e (X + ((e - c : Nat) : Int)) (Y + ((j - i : Nat) : Int)) → Bd9 K Post → Rn9 K Post n a1 μx fu μm
theorem W9.pn {P : Nat} {C : List Th3} {G : List Fn5} {v b a h D m bc ob : Nat} {N : List Int32} {μx μm : Mem} {It Bk : List Nat} {cl : Nat → Prop} (W : W9 P C G v b a h D N m bc ob μx μm It Bk cl) : Pn5 μm G := W.2.1.2.2.2.2.2.2.2.1
theorem W9.t9 {P : Nat} {C : List Th3} {G : List Fn5} {T : List Th3} {o v b a h D m bc ob : Nat} {N : List Int32} {μx μm : Mem} {It Bk : List Nat} {cl : Nat → Prop} (W : W9 P C G v b a h D N m bc ob μx μm It Bk cl) (hF : Fn9 G T o) : ∀ i x, T[i]? = some x → μm.1 9 (o + i) = x.2.2 := fun i x hx => (fn_at W.pn hF i x hx).2.2
theorem e9_nil {P : Nat} {C : List Th3} {G : List Fn5} {df : Nat} {o r : Nat} {N : List Int32} {i c : Nat} : E9 P C G df o r 0 N i i c c := by
  intro β K Post μx μm It Bk cl v b a h D m bc ob a1 n fu X Y W _ hpc hbu _ _ _ _ _ ok _
  refine ok μx μm It Bk cl a1 n fu W F9.rf hpc ?_
  have e1 : X + ((c - c : Nat) : Int) = X := by rw [Nat.sub_self]; simp
  have e2 : Y + ((i - i : Nat) : Int) = Y := by rw [Nat.sub_self]; simp
  rw [e1, e2]; exact hbu
theorem e9_more {P : Nat} {C : List Th3} {G : List Fn5} {df : Nat} {T : List Th3} {o r k : Nat} {N : List Int32} {i m' j c d e : Nat} (hF : Fn9 G T o) (a' : Cd6 (at5 T) (at5 C) r k N i m' c d) (ia : E9 P C G df o r k N i m' c d) (b' : Cd6 (at5 T) (at5 C) r 1 N m' j d e) (ib : E9 P C G df o r 1 N m' j d e) : E9 P C G df o r (k + 1) N i j c e := by
  intro β K Post μx μm It Bk cl v b a h D m bc ob a1 n fu X Y W hA hpc hbu hh hbc hob hX hY ok bad
  have la := a'.le
  have lb := b'.le
  obtain ⟨r', A1, A2, A3, A4⟩ := hA
  have er : r' = o + m' := A1.sh.det _ (cd_sh (W.t9 hF) a')
  subst er
  have W' : W9 P C G v b a h D N (m + 1 + k) bc ob μx μm It Bk cl := by rw [show m + 1 + k = m + (k + 1) by omega]; exact W
  refine ia K Post μx μm It Bk cl v b a h D (m + 1) bc ob a1 n fu X Y W' A1 hpc hbu (by omega) hbc hob (by omega) (by omega) ?_ bad
  intro q z It2 Bk2 cl2 a2 n2 fu2 W2 F2 hpc2 hbu2
  have hsh : Sh (iv z 9) 1 (o + m') (o + j) := cd_sh (W2.t9 hF) b'
  have ka : z.1 37 m = μm.1 37 m := F2.2.2.1.2.2 37 m (Or.inl rfl) (by omega)
  have kb : z.1 38 m = μm.1 38 m := F2.2.2.1.2.2 38 m (Or.inr (Or.inl rfl)) (by omega)
  refine ib K Post q z It2 Bk2 cl2 v b a (h + k) D m bc ob a2 n2 fu2 (X + ((d - c : Nat) : Int)) (Y + ((m' - i : Nat) : Int)) W2 ⟨o + m', rfl, hsh, by rw [ka]; exact A3, by rw [kb]; exact A4⟩ hpc2 hbu2 ?_ hbc hob (by omega) (by omega) ?_ bad
  · have := (cd_sh (W.t9 hF) a').le
    omega
  · intro q3 z3 It3 Bk3 cl3 a3 n3 fu3 W3 F3 hpc3 hbu3
    refine ok q3 z3 It3 Bk3 cl3 a3 n3 fu3 (by rw [show h + (k + 1) = h + k + 1 by omega]; exact W3) ?_ hpc3 (hbu3.mono (by omega) (by omega))
    have F2' : F9 v b (μx.1 39 6).toNatClampNeg h D N.length bc m μx μm It Bk cl q z It2 Bk2 cl2 := ⟨F2.1, F2.2.1, ⟨F2.2.2.1.1, F2.2.2.1.2.1, fun i k hi hk => F2.2.2.1.2.2 i k hi (by omega)⟩, F2.2.2.2⟩
    exact F2'.tr F3 (by omega) (Nat.le_refl _) (Nat.le_refl _) (Nat.le_refl _) F2.2.2.2.2.1.1.2
end
