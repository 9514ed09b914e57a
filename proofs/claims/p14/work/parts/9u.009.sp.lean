section
theorem c_vofL {μ : Mem} {V : Nat} {key : Int32} (hV : (μ.1 39 2).toInt = (V : Int)) (hV24 : V ≤ 24) : ∀ (m f i : Nat) (a2 a3 : Int32), V - i = m → i ≤ V → a3.toInt = (i : Int) → pk (p_X5_variantsOf_b4 f key a2 a3 μ) (fun r => r.2 = μ ∧ r.1 = cn9 (fun u => decide (μ.1 (47 + 3 * u) 3 = key)) i m a2) := by
  have e24 : (24 : Int32).toInt = 24 := by decide
  intro m
  induction m with
  | zero =>
    intro f i a2 a3 hm hi h3
    cases f with
    | zero => intro r e; rw [p_X5_variantsOf_b4_z] at e; exact absurd e (by simp)
    | succ f =>
      rw [p_X5_variantsOf_b4_s, if_pos (by rw [ti_le, hV, h3]; omega)]
      exact pk_some ⟨rfl, rfl⟩
  | succ m ih =>
    intro f i a2 a3 hm hi h3
    cases f with
    | zero => intro r e; rw [p_X5_variantsOf_b4_z] at e; exact absurd e (by simp)
    | succ f =>
      rw [p_X5_variantsOf_b4_s, if_neg (by rw [ti_le, hV, h3]; omega), if_neg (by rw [ti_le, e24, h3]; omega), tn_of h3, ptc_lt (by omega)]
      refine pk_gd (fun _ => pk_ite (fun c => pk_bvs ?_) (fun c => ?_))
      · rw [p_X5_variantsOf_b34_eq]
        refine pk_bvs (pk_mono (ih f (i + 1) (a2 + 1) (a3 + 1) (by omega) (by omega) (tp1 h3 (by omega))) (fun r hr => ⟨hr.1, hr.2.trans ?_⟩))
        show _ = cn9 _ (i + 1) m (if decide (μ.1 (47 + 3 * i) 3 = key) = true then a2 + 1 else a2)
        rw [if_pos (decide_eq_true c)]
      · rw [p_X5_variantsOf_b34_eq]
        refine pk_bvs (pk_mono (ih f (i + 1) a2 (a3 + 1) (by omega) (by omega) (tp1 h3 (by omega))) (fun r hr => ⟨hr.1, hr.2.trans ?_⟩))
        show _ = cn9 _ (i + 1) m (if decide (μ.1 (47 + 3 * i) 3 = key) = true then a2 + 1 else a2)
        rw [if_neg (by simpa using c)]
theorem c_vof {μ : Mem} {V : Nat} {key : Int32} (hV : (μ.1 39 2).toInt = (V : Int)) (hV24 : V ≤ 24) : pk (p_X5_variantsOf key μ) (fun r => r.2 = μ ∧ r.1 = cn9 (fun u => decide (μ.1 (47 + 3 * u) 3 = key)) 0 V 0) := by
  have e0 : (0 : Int32).toInt = ((0 : Nat) : Int) := by decide
  rw [p_X5_variantsOf_eq]
  exact c_vofL hV hV24 V FUEL 0 0 0 rfl (by omega) e0
theorem m_vofL {z : Mem} {V : Nat} {f : Int32} (hV : (z.1 0 110).toInt = (V : Int)) (hV24 : V ≤ 24) : ∀ (m g i : Nat) (a2 a3 : Int32), V - i = m → i ≤ V → a3.toInt = (i : Int) → pk (p_X12_variantsOf_b4 g f a2 a3 z) (fun r => r.2 = z ∧ r.1 = cn9 (fun u => decide (z.1 57 u = f)) i m a2) := by
  intro m
  induction m with
  | zero =>
    intro g i a2 a3 hm hi h3
    cases g with
    | zero => intro r e; rw [p_X12_variantsOf_b4_z] at e; exact absurd e (by simp)
    | succ g =>
      rw [p_X12_variantsOf_b4_s, if_pos (by rw [ti_le, hV, h3]; omega)]
      exact pk_some ⟨rfl, rfl⟩
  | succ m ih =>
    intro g i a2 a3 hm hi h3
    cases g with
    | zero => intro r e; rw [p_X12_variantsOf_b4_z] at e; exact absurd e (by simp)
    | succ g =>
      rw [p_X12_variantsOf_b4_s, if_neg (by rw [ti_le, hV, h3]; omega), tn_of h3]
      refine pk_gd (fun _ => pk_ite (fun c => ?_) (fun c => ?_))
      · rw [p_X12_variantsOf_b28_eq]
        refine pk_bvs (pk_bvs (pk_mono (ih g (i + 1) (a2 + 1) (a3 + 1) (by omega) (by omega) (tp1 h3 (by omega))) (fun r hr => ⟨hr.1, hr.2.trans ?_⟩)))
        show _ = cn9 _ (i + 1) m (if decide (z.1 57 i = f) = true then a2 + 1 else a2)
        rw [if_pos (decide_eq_true c)]
      · rw [p_X12_variantsOf_b28_eq]
        refine pk_bvs (pk_bvs (pk_mono (ih g (i + 1) (a2 + 0) (a3 + 1) (by omega) (by omega) (tp1 h3 (by omega))) (fun r hr => ⟨hr.1, hr.2.trans ?_⟩)))
        show _ = cn9 _ (i + 1) m (if decide (z.1 57 i = f) = true then a2 + 1 else a2)
        rw [if_neg (by simpa using c), Int32.add_zero]
theorem m_vof {z : Mem} {V : Nat} {f : Int32} (hV : (z.1 0 110).toInt = (V : Int)) (hV24 : V ≤ 24) : pk (p_X12_variantsOf f z) (fun r => r.2 = z ∧ r.1 = cn9 (fun u => decide (z.1 57 u = f)) 0 V 0) := by
  have e0 : (0 : Int32).toInt = ((0 : Nat) : Int) := by decide
  rw [p_X12_variantsOf_eq]
  exact m_vofL hV hV24 V FUEL 0 0 0 rfl (by omega) e0
theorem c_starsL {μ : Mem} {pt L : Nat} (hL : (μ.1 pt 2).toInt = (L : Int)) (h200 : L ≤ 200) : ∀ (m f i : Nat) (a1 a2 : Int32), L - i = m → i ≤ L → a2.toInt = (i : Int) → pk (p_X2_stars_b4 f pt a1 a2 μ) (fun r => r.2 = μ ∧ r.1 = cn9 (fun k => decide (s_X0_kind (μ.2.1 (pt + 1) k) = 4)) i m a1) := by
  intro m
  induction m with
  | zero =>
    intro g i a2 a3 hm hi h3
    cases g with
    | zero => intro r e; rw [p_X2_stars_b4_z] at e; exact absurd e (by simp)
    | succ g =>
      rw [p_X2_stars_b4_s, if_pos (by rw [ti_le, hL, h3]; omega)]
      exact pk_some ⟨rfl, rfl⟩
  | succ m ih =>
    intro g i a2 a3 hm hi h3
    cases g with
    | zero => intro r e; rw [p_X2_stars_b4_z] at e; exact absurd e (by simp)
    | succ g =>
      rw [p_X2_stars_b4_s, if_neg (by rw [ti_le, hL, h3]; omega), tn_of h3]
      refine pk_gd (fun _ => pk_ite (fun c => pk_bvs ?_) (fun c => ?_))
      · rw [p_X2_stars_b28_eq]
        refine pk_bvs (pk_mono (ih g (i + 1) (a2 + 1) (a3 + 1) (by omega) (by omega) (tp1 h3 (by omega))) (fun r hr => ⟨hr.1, hr.2.trans ?_⟩))
        show _ = cn9 _ (i + 1) m (if decide (s_X0_kind (μ.2.1 (pt + 1) i) = 4) = true then a2 + 1 else a2)
        rw [if_pos (decide_eq_true c)]
      · rw [p_X2_stars_b28_eq]
        refine pk_bvs (pk_mono (ih g (i + 1) a2 (a3 + 1) (by omega) (by omega) (tp1 h3 (by omega))) (fun r hr => ⟨hr.1, hr.2.trans ?_⟩))
        show _ = cn9 _ (i + 1) m (if decide (s_X0_kind (μ.2.1 (pt + 1) i) = 4) = true then a2 + 1 else a2)
        rw [if_neg (by simpa using c)]
theorem c_stars {μ : Mem} {pt L : Nat} (hL : (μ.1 pt 2).toInt = (L : Int)) (h200 : L ≤ 200) : pk (p_X2_stars pt μ) (fun r => r.2 = μ ∧ r.1 = cn9 (fun k => decide (s_X0_kind (μ.2.1 (pt + 1) k) = 4)) 0 L 0) := by
  have e0 : (0 : Int32).toInt = ((0 : Nat) : Int) := by decide
  rw [p_X2_stars_eq]
  exact c_starsL hL h200 L FUEL 0 0 0 rfl (by omega) e0
theorem m_starsL {z : Mem} {L : Nat} (hL : (z.1 0 118).toInt = (L : Int)) (h200 : L ≤ 200) : ∀ (m f i : Nat) (a1 a2 : Int32), L - i = m → i ≤ L → a2.toInt = (i : Int) → pk (p_X12_starsMade_b4 f a1 a2 z) (fun r => r.2 = z ∧ r.1 = cn9 (fun k => decide (z.1 67 k = 3)) i m a1) := by
  intro m
  induction m with
  | zero =>
    intro g i a2 a3 hm hi h3
    cases g with
    | zero => intro r e; rw [p_X12_starsMade_b4_z] at e; exact absurd e (by simp)
    | succ g =>
      rw [p_X12_starsMade_b4_s, if_pos (by rw [ti_le, hL, h3]; omega)]
      exact pk_some ⟨rfl, rfl⟩
  | succ m ih =>
    intro g i a2 a3 hm hi h3
    cases g with
    | zero => intro r e; rw [p_X12_starsMade_b4_z] at e; exact absurd e (by simp)
    | succ g =>
      rw [p_X12_starsMade_b4_s, if_neg (by rw [ti_le, hL, h3]; omega), tn_of h3]
      refine pk_gd (fun _ => pk_ite (fun c => ?_) (fun c => ?_))
      · rw [p_X12_starsMade_b28_eq]
        refine pk_bvs (pk_bvs (pk_mono (ih g (i + 1) (a2 + 1) (a3 + 1) (by omega) (by omega) (tp1 h3 (by omega))) (fun r hr => ⟨hr.1, hr.2.trans ?_⟩)))
        show _ = cn9 _ (i + 1) m (if decide (z.1 67 i = 3) = true then a2 + 1 else a2)
        rw [if_pos (decide_eq_true c)]
      · rw [p_X12_starsMade_b28_eq]
        refine pk_bvs (pk_bvs (pk_mono (ih g (i + 1) (a2 + 0) (a3 + 1) (by omega) (by omega) (tp1 h3 (by omega))) (fun r hr => ⟨hr.1, hr.2.trans ?_⟩)))
        show _ = cn9 _ (i + 1) m (if decide (z.1 67 i = 3) = true then a2 + 1 else a2)
        rw [if_neg (by simpa using c), Int32.add_zero]
theorem m_starsM {z : Mem} {L : Nat} (hL : (z.1 0 118).toInt = (L : Int)) (h200 : L ≤ 200) : pk (p_X12_starsMade z) (fun r => r.2 = z ∧ r.1 = cn9 (fun k => decide (z.1 67 k = 3)) 0 L 0) := by
  have e0 : (0 : Int32).toInt = ((0 : Nat) : Int) := by decide
  rw [p_X12_starsMade_eq]
  exact m_starsL hL h200 L FUEL 0 0 0 rfl (by omega) e0
def str9 (H : List (Int64 × Nat)) : Rw9 := H.map (fun h => (17179869184, h.1, h.2))
theorem c_letGoL {pt ut : Nat} (hpu : pt + 3 ≤ ut ∨ ut + 3 ≤ pt) (hsu : Ps9 ut) {R0 : Rw9} (hR : ∀ t, t ∈ tks R0 → Tk8 t) (h200 : R0.length ≤ 200) : ∀ (n f i L : Nat) (a2 : Int32) (μ : Mem), Wf9 (tks (R0.drop i)) n → i ≤ R0.length → L ≤ i → Px9 pt R0 μ → (μ.1 ut 2).toInt = (L : Int) → a2.toInt = (i : Int) → pk (p_X2_letAllGo_b10 f pt ut a2 μ) (fun q => Ar9 ut (str9 (hds n (R0.drop i))) L μ q) := by
  have e1 : (1 : Int32).toInt = 1 := by decide
  intro n
  induction n with
  | zero =>
    intro f i L a2 μ hw hi hL hp hu h2
    cases f with
    | zero => intro r e; rw [p_X2_letAllGo_b10_z] at e; exact absurd e (by simp)
    | succ f =>
      have hd : R0.drop i = [] := by
        cases hRi : R0.drop i with
        | nil => rfl
        | cons p R => rw [hRi] at hw; exact absurd (wf9_pos hw) (by omega)
      have hil : R0.length ≤ i := List.drop_eq_nil_iff.mp hd
      rw [p_X2_letAllGo_b10_s, if_pos (by rw [ti_le, hp.1, h2]; omega), hd]
      exact pk_some (Ar9.rf hu)
  | succ n ih =>
    intro f i L a2 μ hw hi hL hp hu h2
    cases f with
    | zero => intro r e; rw [p_X2_letAllGo_b10_z] at e; exact absurd e (by simp)
    | succ f =>
      cases hRi : R0.drop i with
      | nil => rw [hRi] at hw; have hw : n + 1 = 0 := hw; omega
      | cons p R =>
        obtain ⟨hil, hpi, hR1⟩ := drop_c hRi
        rw [hRi] at hw
        obtain ⟨c1, c2, c3, c4⟩ := wf9_fst hw
        obtain ⟨w1, w2⟩ := hp.2 i p hpi
        have dR : (tks R0).drop i = tks (p :: R) := by rw [← tks_drop, hRi]
        have cb : bh9 (tks (p :: R)) 1 ≤ R0.length - i := by
          have := bh9_le (T := (tks R0).drop i) (n := 1)
          rw [List.length_drop, tks_len, dR] at this; exact this
        rw [p_X2_letAllGo_b10_s, if_neg (by rw [ti_le, hp.1, h2]; omega), tn_of h2, w2]
        refine pk_gd (fun _ => pk_bw (c_add1 (L := L) 17179869184 p.2.1 p.2.2 hsu hu (by omega)) (fun q hq => ?_))
        have hq' := hq
        obtain ⟨b1, b2, b3, b4, b5⟩ := hq'
        have hp' : Px9 pt R0 q := hp.cong (b3 _ _ (by omega)) (fun j k hj => b4 j k (by omega) (by omega))
        refine pk_bd (c_behind hp'.py hR (by rw [tks_len]; exact h200) (i := i) (by rw [tks_len]; exact hi) h2) ?_
        rintro r7 μ6 ⟨g1, g2⟩
        have g1 : r7.toInt = ((i + bh9 ((tks R0).drop i) 1 : Nat) : Int) := g1
        have g2 : μ6 = q := g2
        rw [dR] at g1
        rw [g2]
        have s1 := tp1 h2 (by omega)
        have im : (imax r7 (a2 + 1)).toInt = ((i + bh9 (tks (p :: R)) 1 : Nat) : Int) := by
          unfold imax
          split
          · next c => rw [ti_lt, g1, s1] at c; omega
          · next c => exact g1
        refine pk_bvs (pk_mono (ih f (i + bh9 (tks (p :: R)) 1) (L + 1) _ q (by rw [← List.drop_drop, hRi]; exact c4) (by omega) (by omega) hp' b2 im) (fun q2 hq2 => ?_))
        rw [← List.drop_drop, hRi] at hq2
        exact hq.app hq2
theorem c_letGo {pt ut : Nat} (hpu : pt + 3 ≤ ut ∨ ut + 3 ≤ pt) (hsu : Ps9 ut) {R0 : Rw9} (hR : ∀ t, t ∈ tks R0 → Tk8 t) (h200 : R0.length ≤ 200) {n : Nat} (hw : Wf9 (tks R0) n) {μ : Mem} (hp : Px9 pt R0 μ) : pk (p_X2_letAllGo pt ut μ) (fun q => (q.1 ut 3 = μ.1 pt 3 ∧ ∀ i k, i ≠ ut → q.1 i k = μ.1 i k) ∧ Px9 ut (str9 (hds n R0)) q ∧ q.2.2 = μ.2.2 ∧ ∀ i k, i ≠ ut + 1 → i ≠ ut + 2 → q.2.1 i k = μ.2.1 i k) := by
  have e0 : (0 : Int32).toInt = ((0 : Nat) : Int) := by decide
  rw [p_X2_letAllGo_eq, p_X2_begin_eq]
  have hb : pk (bv (sF μ ut 2 0) (fun μ1 => bv (sF μ1 ut 3 (μ.1 pt 3)) (fun μ2 => some μ2))) (fun q => q = sF (sF μ ut 2 0) ut 3 (μ.1 pt 3)) := pk_bvs (pk_bvs (pk_some rfl))
  refine pk_bw hb (fun μ0 q0 => ?_)
  have k2 : μ0.2 = μ.2 := by rw [q0]; rfl
  have k1 : ∀ i k, i ≠ ut → μ0.1 i k = μ.1 i k := fun i k hi => by rw [q0, sF_at, if_neg (fun e => hi e.1), sF_at, if_neg (fun e => hi e.1)]
  have k3 : μ0.1 ut 3 = μ.1 pt 3 := by rw [q0, sF_v]
  have kz : (μ0.1 ut 2).toInt = ((0 : Nat) : Int) := by rw [q0, sF_k (by decide), sF_v]; decide
  have hp0 : Px9 pt R0 μ0 := hp.cong (k1 _ _ (by omega)) (fun i k _ => by rw [k2])
  refine pk_mono (c_letGoL hpu hsu hR h200 n FUEL 0 0 0 μ0 (by rw [List.drop_zero]; exact hw) (by omega) (by omega) hp0 kz e0) (fun r hr => ?_)
  rw [List.drop_zero] at hr
  have hr' := hr
  obtain ⟨b1, b2, b3, b4, b5⟩ := hr'
  exact ⟨⟨by rw [b3 ut 3 (by omega)]; exact k3, fun i k hi => (b3 i k (by omega)).trans (k1 i k hi)⟩, hr.px, by rw [b1, k2], fun i k x1 x2 => (b4 i k (by omega) (by omega)).trans (by rw [k2])⟩
theorem m_letGoL {H : List (Int64 × Nat)} {n : Nat} (hn : n ≤ 5) (hH : H.length = n) {a1 : Int32} (h1 : a1.toInt = (n : Int)) : ∀ (m f i : Nat) (a2 : Int32) (z : Mem), n - i = m → i ≤ n → a2.toInt = (i : Int) → (∀ k h, H[k]? = some h → (z.1 45 k).toInt = (h.2 : Int)) → (∀ k h, k < i → H[k]? = some h → Tk7 17179869184 (z.1 67 k) (z.1 68 k) ∧ (z.1 69 k).toInt = (h.2 : Int)) → pk (p_X12_layStars_b2 f a1 a2 z) (fun r => Pm9 (str9 H) r ∧ Go9 0 z r) := by
  intro m
  induction m with
  | zero =>
    intro f i a2 z hm hi h2 h45 hrow
    cases f with
    | zero => intro r e; rw [p_X12_layStars_b2_z] at e; exact absurd e (by simp)
    | succ f =>
      rw [p_X12_layStars_b2_s, if_pos (by rw [ti_le, h1, h2]; omega)]
      refine pk_bvy (fun q hq => pk_some ⟨⟨?_, fun k p hk => ?_⟩, by rw [hq]; rfl, ?_, fun i k x1 x2 => by rw [hq, sF_at, if_neg (by omega)]⟩)
      · rw [hq, sF_v, h1]; unfold str9; rw [List.length_map, hH]
      · unfold str9 at hk
        rw [List.getElem?_map] at hk
        cases hh : H[k]? with
        | none => rw [hh] at hk; cases hk
        | some h =>
          rw [hh] at hk
          have : (17179869184, h.1, h.2) = p := Option.some.inj hk
          subst this
          have kl := lt_some hh
          rw [hq, sF_i (by decide), sF_i (by decide), sF_i (by decide)]
          exact hrow k h (by omega) hh
      · rw [hq, sF_k (by decide)]; show _ = _ + (0 : Int32); rw [Int32.add_zero]
  | succ m ih =>
    intro f i a2 z hm hi h2 h45 hrow
    cases f with
    | zero => intro r e; rw [p_X12_layStars_b2_z] at e; exact absurd e (by simp)
    | succ f =>
      rw [p_X12_layStars_b2_s, if_neg (by rw [ti_le, h1, h2]; omega), tn_of h2]
      refine pk_gd (fun _ => pk_bvy (fun μ3 q3 => pk_gd (fun _ => pk_bvy (fun μ4 q4 => pk_gd (fun _ => pk_gd (fun _ => pk_bvy (fun μ5 q5 => pk_bvs ?_)))))))
      have e45 : ∀ k, μ4.1 45 k = z.1 45 k := fun k => by rw [q4, sF_i (by decide), q3, sF_i (by decide)]
      rw [e45] at q5
      have fr : ∀ a k, a ≠ 67 → a ≠ 68 → a ≠ 69 → μ5.1 a k = z.1 a k := fun a k c1 c2 c3 => by rw [q5, sF_i c3, q4, sF_i c2, q3, sF_i c1]
      refine pk_mono (ih f (i + 1) (a2 + 1) μ5 (by omega) (by omega) (tp1 h2 (by omega)) (fun k h hk => by rw [fr 45 k (by decide) (by decide) (by decide)]; exact h45 k h hk) (fun k h hk hh => ?_)) (fun r hr => ⟨hr.1, hr.2.1.trans (by rw [q5, q4, q3]; rfl), hr.2.2.1.trans (by rw [fr 0 96 (by decide) (by decide) (by decide)]), fun a k x1 x2 => (hr.2.2.2 a k x1 x2).trans (fr a k (by omega) (by omega) (by omega))⟩)
      rcases Nat.lt_or_ge k i with e | e
      · rw [q5, sF_at, if_neg (by omega), sF_at, if_neg (by omega), sF_at, if_neg (by omega), q4, sF_at, if_neg (by omega), sF_at, if_neg (by omega), sF_at, if_neg (by omega), q3, sF_at, if_neg (by omega), sF_at, if_neg (by omega), sF_at, if_neg (by omega)]
        exact hrow k h e hh
      · have : k = i := by omega
        subst this
        refine ⟨?_, ?_⟩
        · rw [q5, sF_i (by decide), sF_i (by decide), q4, sF_i (by decide), sF_v, q3, sF_v]
          exact Or.inl ⟨rfl, rfl, st_mk.symm⟩
        · rw [q5, sF_v]; exact h45 k h hh
theorem m_letGo {H : List (Int64 × Nat)} {n : Nat} (hn : n ≤ 5) (hH : H.length = n) {a1 : Int32} (h1 : a1.toInt = (n : Int)) {z : Mem} (h45 : ∀ k h, H[k]? = some h → (z.1 45 k).toInt = (h.2 : Int)) : pk (p_X12_layStars a1 z) (fun r => Pm9 (str9 H) r ∧ Go9 0 z r) := by
  have e0 : (0 : Int32).toInt = ((0 : Nat) : Int) := by decide
  rw [p_X12_layStars_eq]
  exact m_letGoL hn hH h1 n FUEL 0 0 z (by omega) (by omega) e0 h45 (fun k h hk => by omega)
end

section
theorem ps_142 : Ps9 142 := by unfold Ps9; exact ⟨rfl, rfl⟩
theorem ps_145 : Ps9 145 := by unfold Ps9; exact ⟨rfl, rfl⟩
theorem ps_v : ∀ u : Nat, u < 24 → Ps9 (47 + 3 * u) := by
  intro u hu
  unfold Ps9
  rcases (show u = 0 ∨ u = 1 ∨ u = 2 ∨ u = 3 ∨ u = 4 ∨ u = 5 ∨ u = 6 ∨ u = 7 ∨ u = 8 ∨ u = 9 ∨ u = 10 ∨ u = 11 ∨ u = 12 ∨ u = 13 ∨ u = 14 ∨ u = 15 ∨ u = 16 ∨ u = 17 ∨ u = 18 ∨ u = 19 ∨ u = 20 ∨ u = 21 ∨ u = 22 ∨ u = 23 by omega) with e | e | e | e | e | e | e | e | e | e | e | e | e | e | e | e | e | e | e | e | e | e | e | e <;> subst e <;> exact ⟨rfl, rfl⟩
theorem c_copyFrom {pt ut : Nat} (hpu : pt + 3 ≤ ut ∨ ut + 3 ≤ pt) (hsu : Ps9 ut) {R : Rw9} (h200 : R.length ≤ 200) {μ : Mem} (hp : Px9 pt R μ) : pk (p_X2_copyFrom ut pt μ) (fun q => (q.1 ut 3 = μ.1 pt 3 ∧ ∀ i k, i ≠ ut → q.1 i k = μ.1 i k) ∧ Px9 ut R q ∧ q.2.2 = μ.2.2 ∧ ∀ i k, i ≠ ut + 1 → i ≠ ut + 2 → q.2.1 i k = μ.2.1 i k) := by
  have e0 : (0 : Int32).toInt = ((0 : Nat) : Int) := by decide
  rw [p_X2_copyFrom_eq, p_X2_begin_eq]
  have hb : pk (bv (sF μ ut 2 0) (fun μ1 => bv (sF μ1 ut 3 (μ.1 pt 3)) (fun μ2 => some μ2))) (fun q => q = sF (sF μ ut 2 0) ut 3 (μ.1 pt 3)) := pk_bvs (pk_bvs (pk_some rfl))
  refine pk_bw hb (fun μ0 q0 => ?_)
  have k2 : μ0.2 = μ.2 := by rw [q0]; rfl
  have k1 : ∀ i k, i ≠ ut → μ0.1 i k = μ.1 i k := fun i k hi => by rw [q0, sF_at, if_neg (fun e => hi e.1), sF_at, if_neg (fun e => hi e.1)]
  have k3 : μ0.1 ut 3 = μ.1 pt 3 := by rw [q0, sF_v]
  have kz : (μ0.1 ut 2).toInt = ((0 : Nat) : Int) := by rw [q0, sF_k (by decide), sF_v]; decide
  have hp0 : Px9 pt R μ0 := hp.cong (k1 _ _ (by omega)) (fun i k _ => by rw [k2])
  rw [p_X2_addParts_eq]
  refine pk_bw (c_addParts (ut := ut) (pt := pt) (by omega) hsu h200 R.length FUEL 0 0 _ 0 μ0 hp0 e0 (by rw [hp0.1]; congr 1; omega) (by omega) kz (by omega)) (fun q hq => pk_some ?_)
  rw [List.drop_zero, List.take_length] at hq
  have hq' := hq
  obtain ⟨b1, b2, b3, b4, b5⟩ := hq'
  exact ⟨⟨by rw [b3 ut 3 (by omega)]; exact k3, fun i k hi => (b3 i k (by omega)).trans (k1 i k hi)⟩, hq.px, by rw [b1, k2], fun i k x1 x2 => (b4 i k (by omega) (by omega)).trans (by rw [k2])⟩
theorem c_setVt {μ : Mem} {u V c : Nat} {a1 a2 a3 : Int32} (h1 : a1.toInt = (u : Int)) (h2 : a2.toInt = (c : Int)) (hV : (μ.1 39 2).toInt = (V : Int)) (hu : u < V) (hV24 : V ≤ 24) (hc : c < 4) : pk (p_X5_setVariant a1 a2 a3 μ) (fun q => q = sF μ 45 (4 * u + c) a3) := by
  have e0 : (0 : Int32).toInt = 0 := by decide
  have e4 : (4 : Int32).toInt = 4 := by decide
  have s0 : (a1 * 4).toInt = 4 * (u : Int) := by rw [ti_mulc e4 (by omega) (by omega), h1]; omega
  have s1 : (a1 * 4 + a2).toInt = ((4 * u + c : Nat) : Int) := by rw [ti_add (by omega) (by omega), s0, h2]; omega
  rw [p_X5_setVariant_eq, if_neg (by rw [ti_lt, e0, h1]; omega), if_neg (by rw [ti_le, hV, h1]; omega), tn_of s1]
  exact pk_gd (fun _ => pk_bvy (fun μ3 q3 => pk_some q3))
def Nv9 (V : Nat) (T : List Int64) (key parent st : Int32) (μ q : Mem) : Prop := q.2.2 = μ.2.2 ∧ ((q.1 39 2).toInt = ((V + 1 : Nat) : Int) ∧ ∀ k, k ≠ 2 → q.1 39 k = μ.1 39 k) ∧ (∀ i k, i ≠ 39 → i ≠ 45 → i ≠ 47 + 3 * V → q.1 i k = μ.1 i k) ∧ (q.1 45 (4 * V) = parent ∧ q.1 45 (4 * V + 1) = 0 ∧ q.1 45 (4 * V + 2) = st ∧ q.1 45 (4 * V + 3) = -1) ∧ (∀ j, j < 4 * V → q.1 45 j = μ.1 45 j) ∧ (q.1 (47 + 3 * V) 3 = key ∧ (q.1 (47 + 3 * V) 2).toInt = (T.length : Int) ∧ ∀ k t, T[k]? = some t → q.2.1 (48 + 3 * V) k = t) ∧ ∀ i k, i ≠ 48 + 3 * V → i ≠ 49 + 3 * V → q.2.1 i k = μ.2.1 i k
theorem c_addVariant {μ : Mem} {pt V : Nat} {R : Rw9} {key parent : Int32} (hpt : 130 ≤ pt ∨ pt ≤ 30) (hp : Px9 pt R μ) (hk : μ.1 pt 3 = key) (h200 : R.length ≤ 200) (hV : (μ.1 39 2).toInt = (V : Int)) (hV24 : V ≤ 24) : pk (p_X5_addVariant pt parent μ) (fun r => (V = 24 ∧ r.1 = -1 ∧ r.2 = μ) ∨ (V < 24 ∧ r.1.toInt = (V : Int) ∧ Nv9 V (tks R) key parent (cn9 (fun k => decide (s_X0_kind (μ.2.1 (pt + 1) k) = 4)) 0 R.length 0) μ r.2)) := by
  have e24 : (24 : Int32).toInt = 24 := by decide
  have e0 : (0 : Int32).toInt = ((0 : Nat) : Int) := by decide
  have e1 : (1 : Int32).toInt = ((1 : Nat) : Int) := by decide
  have e2 : (2 : Int32).toInt = ((2 : Nat) : Int) := by decide
  have e3 : (3 : Int32).toInt = ((3 : Nat) : Int) := by decide
  rw [p_X5_addVariant_eq]
  refine pk_ite (fun c => ?_) (fun c => pk_some (Or.inl ⟨by rw [ti_lt, hV, e24] at c; omega, rfl, rfl⟩))
  have hlt : V < 24 := by rw [ti_lt, hV, e24] at c; omega
  refine pk_bvy (fun v2 q2 => pk_bvy (fun μ3 q3 => pk_gd (fun _ => ?_)))
  have v2t : v2.toInt = (V : Int) := by rw [q2]; exact hV
  rw [tn_of v2t, ptc_lt hlt]
  have k3 : ∀ i k, i ≠ 39 → μ3.1 i k = μ.1 i k := fun i k hi => by rw [q3, sF_i hi]
  have k32 : μ3.2 = μ.2 := by rw [q3]; rfl
  have V3 : (μ3.1 39 2).toInt = ((V + 1 : Nat) : Int) := by rw [q3, sF_v]; exact tp1 hV (by omega)
  have hp3 : Px9 pt R μ3 := hp.cong (k3 _ _ (by omega)) (fun i k _ => by rw [k32])
  refine pk_bw (c_copyFrom (ut := 47 + 3 * V) (by omega) (ps_v V hlt) h200 hp3) (fun μ4 h4 => ?_)
  obtain ⟨⟨a1, a2⟩, a3, a4, a5⟩ := h4
  have V4 : (μ4.1 39 2).toInt = ((V + 1 : Nat) : Int) := by rw [a2 39 2 (by omega)]; exact V3
  refine pk_bw (c_setVt (u := V) (c := 0) v2t e0 V4 (by omega) (by omega) (by omega)) (fun μ6 q6 => ?_)
  have V6 : (μ6.1 39 2).toInt = ((V + 1 : Nat) : Int) := by rw [q6, sF_i (by decide)]; exact V4
  refine pk_bw (c_setVt (u := V) (c := 1) v2t e1 V6 (by omega) (by omega) (by omega)) (fun μ8 q8 => ?_)
  have V8 : (μ8.1 39 2).toInt = ((V + 1 : Nat) : Int) := by rw [q8, sF_i (by decide)]; exact V6
  have i8 : ∀ i k, i ≠ 45 → μ8.1 i k = μ4.1 i k := fun i k hi => by rw [q8, sF_i hi, q6, sF_i hi]
  have l8 : μ8.2 = μ4.2 := by rw [q8, q6]; rfl
  have s8 : (μ8.1 pt 2).toInt = (R.length : Int) := by rw [i8 _ _ (by omega), a2 _ _ (by omega)]; exact hp3.1
  refine pk_bd (c_stars s8 h200) ?_
  rintro r11 μ10 ⟨g1, g2⟩
  have g1 : μ10 = μ8 := g1
  have g2 : r11 = cn9 (fun k => decide (s_X0_kind (μ8.2.1 (pt + 1) k) = 4)) 0 R.length 0 := g2
  have l81 : ∀ k, μ8.2.1 (pt + 1) k = μ.2.1 (pt + 1) k := fun k => by rw [l8, a5 _ _ (by omega) (by omega), k32]
  rw [g1]
  refine pk_bw (c_setVt (u := V) (c := 2) v2t e2 V8 (by omega) (by omega) (by omega)) (fun μ12 q12 => ?_)
  have V12 : (μ12.1 39 2).toInt = ((V + 1 : Nat) : Int) := by rw [q12, sF_i (by decide)]; exact V8
  refine pk_bw (c_setVt (u := V) (c := 3) v2t e3 V12 (by omega) (by omega) (by omega)) (fun μ14 q14 => pk_some (Or.inr ⟨hlt, v2t, ?_⟩))
  have i14 : ∀ i k, i ≠ 45 → μ14.1 i k = μ4.1 i k := fun i k hi => by rw [q14, sF_i hi, q12, sF_i hi]; exact i8 i k hi
  have l14 : μ14.2 = μ4.2 := by rw [q14, q12]; exact l8
  have w : ∀ j, μ14.1 45 j = if j = 4 * V + 3 then -1 else if j = 4 * V + 2 then r11 else if j = 4 * V + 1 then 0 else if j = 4 * V + 0 then parent else μ4.1 45 j := by
    intro j
    rw [q14, sF_at]
    by_cases c3 : j = 4 * V + 3
    · rw [if_pos ⟨rfl, c3⟩, if_pos c3]
    · rw [if_neg (fun e => c3 e.2), if_neg c3, q12, sF_at]
      by_cases c2 : j = 4 * V + 2
      · rw [if_pos ⟨rfl, c2⟩, if_pos c2]
      · rw [if_neg (fun e => c2 e.2), if_neg c2, q8, sF_at]
        by_cases c1 : j = 4 * V + 1
        · rw [if_pos ⟨rfl, c1⟩, if_pos c1]
        · rw [if_neg (fun e => c1 e.2), if_neg c1, q6, sF_at]
          by_cases c0 : j = 4 * V + 0
          · rw [if_pos ⟨rfl, c0⟩, if_pos c0]
          · rw [if_neg (fun e => c0 e.2), if_neg c0]
  refine ⟨by rw [l14, a4, k32], ⟨by rw [i14 39 2 (by decide)]; exact V4, fun k hk => ?_⟩, fun i k x1 x2 x3 => by rw [i14 i k x2, a2 i k x3, k3 i k x1], ⟨?_, ?_, ?_, ?_⟩, fun j hj => ?_, ⟨?_, ?_, fun k t ht => ?_⟩, fun i k x1 x2 => by rw [l14, a5 i k (by omega) (by omega), k32]⟩
  · rw [i14 39 k (by decide), a2 39 k (by omega), q3, sF_k hk]
  · rw [w, if_neg (by omega), if_neg (by omega), if_neg (by omega), if_pos (by omega)]
  · rw [w, if_neg (by omega), if_neg (by omega), if_pos (by omega)]
  · rw [w, if_neg (by omega), if_pos (by omega), g2]
    exact cn9_cong _ _ _ (fun k _ _ => by rw [l81])
  · rw [w, if_pos rfl]
  · rw [w, if_neg (by omega), if_neg (by omega), if_neg (by omega), if_neg (by omega), a2 45 j (by omega), k3 45 j (by decide)]
  · rw [i14 _ _ (by omega), a1, k3 _ _ (by omega)]; exact hk
  · rw [i14 _ _ (by omega), a3.1, tks_len]
  · rw [l14, show 48 + 3 * V = 47 + 3 * V + 1 by omega]; exact a3.py.2 k t ht
def Nm9 (V L : Nat) (f parent : Int32) (μ z : Mem) : Prop := z.2 = μ.2 ∧ (z.1 0 110).toInt = ((V + 1 : Nat) : Int) ∧ (∀ i k, ¬ (i = 0 ∧ k = 110) → ¬ ((i = 57 ∨ i = 58 ∨ i = 59 ∨ i = 66) ∧ k = V) → ¬ ((i = 60 ∨ i = 61) ∧ 210 * V ≤ k) → z.1 i k = μ.1 i k) ∧ (z.1 57 V = f ∧ z.1 66 V = parent ∧ z.1 58 V = μ.1 0 118 ∧ z.1 59 V = cn9 (fun k => decide (μ.1 67 k = 3)) 0 L 0) ∧ ∀ k, k < L → z.1 60 (210 * V + k) = μ.1 67 k ∧ z.1 61 (210 * V + k) = μ.1 68 k
theorem m_newV {μ : Mem} {V L : Nat} {f parent : Int32} (hV : (μ.1 0 110).toInt = (V : Int)) (hV24 : V ≤ 24) (hL : (μ.1 0 118).toInt = (L : Int)) (h200 : L ≤ 200) : pk (p_X12_newVariant f parent μ) (fun r => (V = 24 ∧ r.1 = -1 ∧ r.2 = sF μ 0 68 (-4)) ∨ (V < 24 ∧ r.1.toInt = (V : Int) ∧ Nm9 V L f parent μ r.2)) := by
  have e24 : (24 : Int32).toInt = 24 := by decide
  have e0 : (0 : Int32).toInt = ((0 : Nat) : Int) := by decide
  have e210 : (210 : Int32).toInt = 210 := by decide
  rw [p_X12_newVariant_eq]
  refine pk_ite (fun c => pk_bvy (fun q hq => pk_some (Or.inl ⟨by have := congrArg Int32.toInt c; rw [hV, e24] at this; omega, rfl, hq⟩))) (fun c => ?_)
  have hlt : V < 24 := by
    rcases Nat.lt_or_ge V 24 with e | e
    · exact e
    · exact absurd (ti_eq.mpr (by rw [hV, e24]; omega)) c
  refine pk_bvy (fun v2 q2 => pk_bvy (fun μ3 q3 => ?_))
  have v2t : v2.toInt = (V : Int) := by rw [q2]; exact hV
  rw [tn_of v2t]
  refine pk_gd (fun _ => pk_bvy (fun μ4 q4 => pk_gd (fun _ => pk_bvy (fun μ5 q5 => pk_gd (fun _ => pk_bvy (fun μ6 q6 => ?_))))))
  have i6 : ∀ i k, ¬ (i = 0 ∧ k = 110) → ¬ ((i = 57 ∨ i = 58 ∨ i = 66) ∧ k = V) → μ6.1 i k = μ.1 i k := fun i k x1 x2 => by
    rw [q6, sF_at, if_neg (fun e => x2 ⟨Or.inr (Or.inl e.1), e.2⟩), q5, sF_at, if_neg (fun e => x2 ⟨Or.inr (Or.inr e.1), e.2⟩), q4, sF_at, if_neg (fun e => x2 ⟨Or.inl e.1, e.2⟩), q3, sF_at, if_neg x1]
  have L6 : (μ6.1 0 118).toInt = (L : Int) := by rw [i6 0 118 (by omega) (by omega)]; exact hL
  refine pk_bd (m_starsM L6 h200) ?_
  rintro r8 μ7 ⟨g1, g2⟩
  have g1 : μ7 = μ6 := g1
  have g2 : r8 = cn9 (fun k => decide (μ6.1 67 k = 3)) 0 L 0 := g2
  rw [g1]
  refine pk_gd (fun _ => pk_bvy (fun μ9 q9 => ?_))
  have L9 : (μ9.1 0 118).toInt = (L : Int) := by rw [q9, sF_i (by decide)]; exact L6
  have s0 : (210 * v2).toInt = ((210 * V : Nat) : Int) := by rw [ti_mul (by rw [e210]; omega) (by rw [e210]; omega), e210, v2t]; omega
  refine pk_bw (m_copy0 (o := 0) (p := 210 * V) (by decide) L9 (by omega) (by omega) (by omega) e0 s0 μ9) (fun μ10 c10 => ?_)
  obtain ⟨x1, x2, x3⟩ := c10
  have L10 : (μ10.1 0 118).toInt = (L : Int) := by rw [x2 0 118 (by omega)]; exact L9
  refine pk_bw (m_copy0 (o := 0) (p := 210 * V) (by decide) L10 (by omega) (by omega) (by omega) e0 s0 μ10) (fun μ12 c12 => pk_some (Or.inr ⟨hlt, v2t, ?_⟩))
  obtain ⟨y1, y2, y3⟩ := c12
  have i9 : ∀ i k, ¬ (i = 59 ∧ k = V) → μ9.1 i k = μ6.1 i k := fun i k h => by rw [q9, sF_at, if_neg h]
  refine ⟨by rw [y1, x1, q9, q6, q5, q4, q3]; rfl, ?_, fun i k h1 h2 h3 => ?_, ⟨?_, ?_, ?_, ?_⟩, fun k hk => ⟨?_, ?_⟩⟩
  · rw [y2 0 110 (by omega), x2 0 110 (by omega), i9 0 110 (by omega), q6, sF_i (by decide), q5, sF_i (by decide), q4, sF_i (by decide), q3, sF_v]
    exact tp1 hV (by omega)
  · rw [y2 i k (by omega), x2 i k (by omega), i9 i k (by omega)]
    exact i6 i k h1 (by omega)
  · rw [y2 57 V (by omega), x2 57 V (by omega), i9 57 V (by omega), q6, sF_i (by decide), q5, sF_i (by decide), q4, sF_v]
  · rw [y2 66 V (by omega), x2 66 V (by omega), i9 66 V (by omega), q6, sF_i (by decide), q5, sF_v]
  · rw [y2 58 V (by omega), x2 58 V (by omega), i9 58 V (by omega), q6, sF_v, q5, sF_i (by decide), q4, sF_i (by decide), q3, sF_k (by decide)]
  · rw [y2 59 V (by omega), x2 59 V (by omega), q9, sF_v, g2]
    exact cn9_cong _ _ _ (fun k _ _ => by rw [i6 67 k (by omega) (by omega)])
  · have := x3 k hk
    rw [Nat.zero_add] at this
    rw [y2 60 _ (by omega), this, i9 67 k (by omega), i6 67 k (by omega) (by omega)]
  · have := y3 k hk
    rw [Nat.zero_add] at this
    rw [this, x2 68 k (by omega), i9 68 k (by omega), i6 68 k (by omega) (by omega)]
theorem rng0 (L : Nat) : List.range L = List.range' 0 L := by rw [List.range_eq_range']
theorem Pa7.new {μx μm q z : Mem} {G : List Fn5} {R : Rw9} {V n f : Nat} {key parent fi : Int32} (h : Pa7 μx μm G) (hV : (μx.1 39 2).toInt = (V : Int)) (hlt : V < 24) (h200 : R.length ≤ 200) (hP : Pm9 R μm) (hw : Wf9 (tks R) n ∧ Hv9 (tks R) n) (hf : fi.toInt = (f : Int)) (hfG : f < G.length) (hkey : key.toInt = ((μm.1 2 f).toInt - 1) * 6 + (μm.1 3 f).toInt) (hn : (μm.1 3 f).toInt = (n : Int)) (hpl : parent = -1 ∨ (0 ≤ parent.toInt ∧ parent.toInt < (V : Int))) {S : Nat → Bool} (hst : ∀ k, k < R.length → S k = decide (μm.1 67 k = 3)) (h8 : (cn9 S 0 R.length 0).toInt ≤ 8) (hx : Nv9 V (tks R) key parent (cn9 S 0 R.length 0) μx q) (hm : Nm9 V R.length fi parent μm z) : Pa7 q z G := by
  have e0 : (0 : Int32).toInt = ((0 : Nat) : Int) := by decide
  obtain ⟨V', h1, h2, h3, h4⟩ := h
  have : V' = V := by omega
  subst this
  obtain ⟨x1, ⟨x2, x2'⟩, x3, ⟨x4, x5, x6, x7⟩, x8, ⟨x9, x10, x11⟩, x12⟩ := hx
  obtain ⟨m1, m2, m3, ⟨m4, m5, m6, m7⟩, m8⟩ := hm
  have cnE : cn9 S 0 R.length 0 = cn9 (fun k => decide (μm.1 67 k = 3)) 0 R.length 0 := cn9_cong _ _ _ (fun k _ hk => hst k (by omega))
  refine ⟨V' + 1, x2, m2, by omega, fun u hu => ?_⟩
  rcases Nat.lt_or_ge u V' with e | e
  · obtain ⟨⟨f', L, a1, a2, a3, a4, a5, a6, a8, a9, a7⟩, b, bp, bw, br⟩ := h4 u e
    have mm : ∀ i, 57 ≤ i → i ≤ 66 → i ≠ 60 → i ≠ 61 → z.1 i u = μm.1 i u := fun i h1 h2 h3 h4 => m3 i u (by omega) (by omega) (by omega)
    have m60 : ∀ i k, i = 60 ∨ i = 61 → k < L → z.1 i (210 * u + k) = μm.1 i (210 * u + k) := fun i k h1 h2 => m3 i _ (by omega) (by omega) (by omega)
    refine ⟨⟨f', L, by rw [mm 57 (by omega) (by omega) (by omega) (by omega)]; exact a1, a2, by rw [x3 _ _ (by omega) (by omega) (by omega), m3 2 f' (by omega) (by omega) (by omega), m3 3 f' (by omega) (by omega) (by omega)]; exact a3, by rw [mm 58 (by omega) (by omega) (by omega) (by omega)]; exact a4, a5, by rw [x3 _ _ (by omega) (by omega) (by omega)]; exact a6, by rw [mm 59 (by omega) (by omega) (by omega) (by omega)]; exact a8, ?_, fun k hk => ?_⟩, by rw [x8 _ (by omega), mm 66 (by omega) (by omega) (by omega) (by omega)]; exact b, by rw [mm 66 (by omega) (by omega) (by omega) (by omega)]; exact bp, fun f L n e1 e2 e3 => ?_, fun e => ?_⟩
    · rw [mm 59 (by omega) (by omega) (by omega) (by omega), a9]
      refine congrArg (fun (L : List Nat) => (L.length : Int)) (List.filter_congr (fun k hk => ?_))
      rw [m60 60 k (Or.inl rfl) (List.mem_range.mp hk)]
    · rw [x12 _ _ (by omega) (by omega), m60 60 k (Or.inl rfl) hk, m60 61 k (Or.inr rfl) hk]; exact a7 k hk
    · rw [mm 57 (by omega) (by omega) (by omega) (by omega)] at e1
      rw [mm 58 (by omega) (by omega) (by omega) (by omega)] at e2
      rw [m3 3 f (by omega) (by omega) (by omega)] at e3
      rw [show (fun k => q.2.1 (48 + 3 * u) k) = (fun k => μx.2.1 (48 + 3 * u) k) from funext (fun k => x12 _ _ (by omega) (by omega))]
      exact bw f L n e1 e2 e3
    · rw [m3 0 111 (by omega) (by omega) (by omega)] at e
      rw [x8 _ (by omega), mm 59 (by omega) (by omega) (by omega) (by omega)]; exact br e
  · have : u = V' := by omega
    subst this
    have rowk : ∀ k, k < R.length → ∃ p, R[k]? = some p ∧ (tks R)[k]? = some p.1 := fun k hk => ⟨R[k], List.getElem?_eq_getElem hk, by unfold tks; rw [List.getElem?_map, List.getElem?_eq_getElem hk]; rfl⟩
    refine ⟨⟨f, R.length, by rw [m4]; exact hf, hfG, by rw [x9, m3 2 f (by omega) (by omega) (by omega), m3 3 f (by omega) (by omega) (by omega)]; exact hkey, by rw [m6]; exact hP.1, h200, by rw [x10, tks_len], by rw [m7, ← cnE]; exact h8, ?_, fun k hk => ?_⟩, by rw [x4, m5], by rw [m5]; exact hpl, fun f' L' n' e1 e2 e3 => ?_, fun _ => by rw [x6, m7, cnE]⟩
    · rw [m7, cn9_ti R.length 0 0 0 e0 (by omega), Nat.zero_add, rng0]
      refine congrArg (fun (L : List Nat) => (L.length : Int)) (List.filter_congr (fun k hk => ?_))
      have hk' := List.mem_range'_1.mp hk
      rw [(m8 k (by omega)).1]
    · obtain ⟨p, hp1, hp2⟩ := rowk k hk
      rw [x11 k _ hp2, (m8 k hk).1, (m8 k hk).2]
      exact (hP.2 k p hp1).1
    · rw [m4] at e1
      rw [m6, hP.1] at e2
      have ef : f' = f := by omega
      subst ef
      rw [m3 3 f' (by omega) (by omega) (by omega)] at e3
      have en : n' = n := by omega
      have el : L' = R.length := by omega
      subst en; subst el
      have : (List.range R.length).map (fun k => q.2.1 (48 + 3 * u) k) = tks R := by
        apply List.ext_getElem?
        intro k
        rw [List.getElem?_map]
        rcases Nat.lt_or_ge k R.length with c | c
        · obtain ⟨p, hp1, hp2⟩ := rowk k c
          rw [List.getElem?_range c, hp2]
          show some (q.2.1 (48 + 3 * u) k) = _
          rw [x11 k _ hp2]
        · rw [List.getElem?_eq_none (by rw [List.length_range]; exact c), List.getElem?_eq_none (by rw [tks_len]; exact c)]; rfl
      rw [this]; exact hw
end

section
theorem Re7.of3 {μx μm q z : Mem} {It Bk : List Nat} {cl : Nat → Prop} {v b a : Nat} (h : Re7 μx μm It Bk cl v b a) (c39 : ∀ k, k = 1 ∨ k = 6 → q.1 39 k = μx.1 39 k) (c2v : (μx.1 39 2).toInt ≤ (q.1 39 2).toInt) (c1 : ∀ i k, i = 40 ∨ i = 42 ∨ i = 43 → q.1 i k = μx.1 i k) (c45 : q.1 45 (4 * v + 2) = μx.1 45 (4 * v + 2)) (c2 : ∀ k, k = 6 ∨ k = 7 ∨ k = 8 → q.1 137 k = μx.1 137 k) (c3 : ∀ i k, i = 41 ∨ i = 44 → q.2.1 i k = μx.2.1 i k) (f0 : ∀ k, k = 68 ∨ k = 69 ∨ k = 87 ∨ k = 88 ∨ k = 89 ∨ k = 93 → z.1 0 k = μm.1 0 k) (f : ∀ i k, 46 ≤ i → i ≤ 54 → z.1 i k = μm.1 i k) (f' : ∀ i k, i = 62 ∨ i = 63 → z.1 i k = μm.1 i k) : Re7 q z It Bk cl v b a := by
  obtain ⟨⟨t1, t2, t3, t4, P, O, tP, tO, tb, tI⟩, hB, hC, ⟨s1, s2, s3, s4, s5, s6⟩, hb, ⟨m68, m69⟩, hS⟩ := h
  have d391 : q.1 39 1 = μx.1 39 1 := c39 1 (by omega)
  have d396 : q.1 39 6 = μx.1 39 6 := c39 6 (by omega)
  have d40 : ∀ k, q.1 40 k = μx.1 40 k := fun k => c1 40 k (by omega)
  refine ⟨⟨by rw [d391]; exact t1, by rw [f0 89 (by omega)]; exact t2, t3, by rw [c45, f0 93 (by omega)]; exact t4, P, O, by rw [f0 87 (by omega)]; exact tP, by rw [f0 88 (by omega)]; exact tO, by rw [f' 62 v (by omega)]; exact tb, fun i p hi => ?_⟩, hB, fun b2 h2 => ?_, ⟨by rw [c2 6 (by omega)]; exact s1, by rw [c2 7 (by omega)]; exact s2, by rw [c2 8 (by omega)]; exact s3, by omega, s5, by rw [d396]; exact s6⟩, hb, ⟨by rw [f0 68 (by omega)]; exact m68, by rw [f0 69 (by omega)]; exact m69⟩, ?_⟩
  · obtain ⟨a1, ⟨b1, b2, b3, fx, m, b4, b5, b6, b7⟩, u, u1, u2, u3, u4⟩ := tI i p hi
    have fo : ∀ j k, Op7 μx μm j k → Op7 q z j k := fun j k ho => ho.cong (c3 41 j (by omega)) (f 53 k (by decide) (by decide)) (f 54 k (by decide) (by decide))
    refine ⟨a1, ⟨by rw [d40, f 46 p (by decide) (by decide)]; exact b1, by rw [d40, f 47 p (by decide) (by decide)]; exact b2, by rw [d40, f 48 p (by decide) (by decide)]; exact b3, fx, m, by rw [f 51 p (by decide) (by decide)]; exact b4, by rw [f 52 p (by decide) (by decide)]; exact b5, b6, ?_⟩, u, by rw [d40]; exact u1, u2, by rw [f' 62 u (by omega)]; exact u3, fun hu => by rw [f' 63 u (by omega)]; exact u4 hu⟩
    rw [f 46 p (by decide) (by decide), d40]
    rcases b7 with ⟨b7, b8, b9⟩ | ⟨b7, b8, b9, b10⟩
    · exact Or.inl ⟨b7, b8, fun k hk2 => fo _ _ (b9 k hk2)⟩
    · exact Or.inr ⟨b7, b8, b9, fun k hk2 => fo _ _ (b10 k hk2)⟩
  · rw [d396] at h2
    exact (hC b2 h2).cong (c1 42 _ (by omega)) (c1 43 _ (by omega)) (fun i _ => d40 _)
  · rw [f0 87 (by omega), f0 88 (by omega)]
    exact hS.cong (fun _ _ e => e) (fun _ _ _ => ⟨d40 _, d40 _⟩) (fun x hx => ⟨rfl, c3 44 x (by omega), hx⟩) (fun k _ => ⟨f 53 k (by decide) (by decide), f 54 k (by decide) (by decide)⟩) (Nat.le_refl _) (fun p _ => ⟨f 46 p (by decide) (by decide), f 49 p (by decide) (by decide), f 50 p (by decide) (by decide), f 51 p (by decide) (by decide)⟩)
def Ax9 (μ q : Mem) : Prop := (∀ i k, ¬ (i = 137 ∧ (k = 14 ∨ k = 15)) → q.2.2 i k = μ.2.2 i k) ∧ (∀ i k, i < 142 → ¬ (i = 39 ∧ (k = 4 ∨ k = 5)) → q.1 i k = μ.1 i k) ∧ ∀ i k, i < 141 → i ≠ 35 → q.2.1 i k = μ.2.1 i k
def Az9 (μ z : Mem) : Prop := z.2 = μ.2 ∧ ∀ i k, ¬ (i = 0 ∧ (k = 96 ∨ k = 97 ∨ k = 118)) → i ≠ 45 → i ≠ 55 → ¬ (67 ≤ i ∧ i ≤ 72) → z.1 i k = μ.1 i k
theorem Ax9.rf {μ : Mem} : Ax9 μ μ := ⟨fun _ _ _ => rfl, fun _ _ _ _ => rfl, fun _ _ _ _ => rfl⟩
theorem Az9.rf {μ : Mem} : Az9 μ μ := ⟨rfl, fun _ _ _ _ _ _ => rfl⟩
theorem Ax9.tr {μ q z : Mem} (a : Ax9 μ q) (b : Ax9 q z) : Ax9 μ z := ⟨fun i k c => (b.1 i k c).trans (a.1 i k c), fun i k c d => (b.2.1 i k c d).trans (a.2.1 i k c d), fun i k c d => (b.2.2 i k c d).trans (a.2.2 i k c d)⟩
theorem Az9.tr {μ q z : Mem} (a : Az9 μ q) (b : Az9 q z) : Az9 μ z := ⟨b.1.trans a.1, fun i k c d e f => (b.2 i k c d e f).trans (a.2 i k c d e f)⟩
theorem W9.aside {P : Nat} {C : List Th3} {G : List Fn5} {v b a h D m bc ob : Nat} {N : List Int32} {μx μm q z : Mem} {It Bk : List Nat} {cl : Nat → Prop} (W : W9 P C G v b a h D N m bc ob μx μm It Bk cl) (fx : Ax9 μx q) (fm : Az9 μm z) (h4 : q.1 39 4 = z.1 0 96) (h5 : q.1 39 5 = z.1 0 97) (hsu : Su5 q) : W9 P C G v b a h D N m bc ob q z It Bk cl ∧ ∀ B, F9 v b B h D N.length bc m μx μm It Bk cl q z It Bk cl := by
  obtain ⟨q3, q1, q2⟩ := fx
  obtain ⟨z3, z1⟩ := fm
  obtain ⟨⟨hR, hB, hS, hV, hN, ⟨d1, d2, d3, d4⟩, ⟨o1, o2, o3⟩, hm, ⟨u1, u2, u3⟩, hL, hA⟩, hP, hPa, hc, hb, hs, hq⟩ := W
  have z0 : ∀ k, k ≠ 96 → k ≠ 97 → k ≠ 118 → z.1 0 k = μm.1 0 k := fun k a1 a2 a3 => z1 0 k (by omega) (by decide) (by decide) (by omega)
  have zi : ∀ i k, i ≠ 0 → i ≠ 45 → i ≠ 55 → i ≤ 66 → z.1 i k = μm.1 i k := fun i k a1 a2 a3 a4 => z1 i k (by omega) a2 a3 (by omega)
  have k39 : ∀ k, k ≠ 4 → k ≠ 5 → q.1 39 k = μx.1 39 k := fun k h1 h2 => q1 39 k (by decide) (by omega)
  have qi : ∀ i k, i ≠ 39 → i < 142 → q.1 i k = μx.1 i k := fun i k h1 h2 => q1 i k h2 (by omega)
  have gx : Gs7 μx q := gs_same (qi 30 5 (by decide) (by decide)) (fun k => q2 31 k (by decide) (by decide)) (fun k => q2 32 k (by decide) (by decide)) (fun k => qi 33 k (by decide) (by decide)) (fun k => qi 34 k (by decide) (by decide))
  have gz : Gh7 μm z := gh_same (z0 56 (by decide) (by decide) (by decide)) (fun i k a1 a2 => zi i k (by omega) (by omega) (by omega) (by omega))
  refine ⟨⟨⟨hR.of3 (fun k hk => k39 k (by omega) (by omega)) (by rw [k39 2 (by decide) (by decide)]; exact Int.le_refl _) (fun i k hi => qi i k (by omega) (by omega)) (qi 45 _ (by decide) (by decide)) (fun k hk => qi 137 k (by decide) (by decide)) (fun i k hi => q2 i k (by omega) (by omega)) (fun k hk => z0 k (by omega) (by omega) (by omega)) (fun i k a1 a2 => zi i k (by omega) (by omega) (by omega) (by omega)) (fun i k hi => zi i k (by omega) (by omega) (by omega) (by omega)), fun x hx => by rw [k39 6 (by decide) (by decide)]; exact hB x hx, hS.of gx gz (qi 30 7 (by decide) (by decide)) (z0 66 (by decide) (by decide) (by decide)) (fun k _ => q2 36 k (by decide) (by decide)) (fun k _ => zi 40 k (by decide) (by decide) (by decide) (by decide)), ?_, hN, ⟨by rw [qi 30 10 (by decide) (by decide)]; exact d1, by rw [z0 67 (by decide) (by decide) (by decide)]; exact d2, by rw [z0 92 (by decide) (by decide) (by decide)]; exact d3, d4⟩, ⟨by rw [qi 137 12 (by decide) (by decide)]; exact o1, by rw [qi 137 13 (by decide) (by decide)]; exact o2, by rw [z0 90 (by decide) (by decide) (by decide)]; exact o3⟩, by rw [z0 65 (by decide) (by decide) (by decide)]; exact hm, ⟨by rw [k39 3 (by decide) (by decide), z0 91 (by decide) (by decide) (by decide)]; exact u1, h4, h5⟩, fun k hk => by rw [qi 137 k (by decide) (by decide), zi 29 k (by decide) (by decide) (by decide) (by decide)]; exact hL k hk, by rw [z0 111 (by decide) (by decide) (by decide), qi 137 7 (by decide) (by decide)]; exact hA⟩, hP.of (q3 137 5 (by omega)) (fun i k a1 a2 => qi i k (by omega) (by omega)) (fun k hk => z0 k (by omega) (by omega) (by omega)) (fun i k a1 a2 => zi i k (by omega) (by omega) (by omega) (by omega)) (bh_cong hP.2.2.2.2.2.2.2.2.2 (z0 18 (by decide) (by decide) (by decide)) (fun k => zi 9 k (by decide) (by decide) (by decide) (by decide)) (fun k => zi 10 k (by decide) (by decide) (by decide) (by decide))), hPa.of (k39 2 (by decide) (by decide)) (fun i k a1 a2 => ⟨qi i k (by omega) (by omega), q2 i k (by omega) (by omega)⟩) (fun u => qi 45 _ (by omega) (by omega)) (z0 110 (by decide) (by decide) (by decide)) (fun i k hi => zi i k (by omega) (by omega) (by omega) (by omega)) (fun u _ => qi 45 _ (by omega) (by omega)) (z0 111 (by decide) (by decide) (by decide)), fun x hx => by rw [k39 6 (by decide) (by decide)]; exact hc x hx, by rw [k39 6 (by decide) (by decide), k39 2 (by decide) (by decide)]; exact hb, hsu, fun u hu => ?_⟩, fun B => ⟨Gw8.same ⟨fun k => qi 40 k (by decide) (by decide), fun k => q2 44 k (by decide) (by decide), ⟨z0 87 (by decide) (by decide) (by decide), z0 88 (by decide) (by decide) (by decide)⟩, fun i k a b => zi i k (by omega) (by omega) (by omega) (by omega)⟩, ⟨fun k _ => q2 36 k (by decide) (by decide), fun k _ => q2 37 k (by decide) (by decide), fun k _ => qi 38 k (by decide) (by decide), fun k _ => qi 138 k (by decide) (by decide), fun k _ => q2 139 k (by decide) (by decide), q3 137 5 (by omega), fun k => q2 140 k (by decide) (by decide)⟩, ⟨fun k _ => zi 40 k (by decide) (by decide) (by decide) (by decide), fun k _ => zi 41 k (by decide) (by decide) (by decide) (by decide), fun i k hi hk => zi i k (by omega) (by omega) (by omega) (by omega)⟩, ⟨gx, gz⟩, ⟨⟨by rw [k39 2 (by decide) (by decide)]; exact Int.le_refl _, by rw [k39 6 (by decide) (by decide)]; exact Nat.le_refl _⟩, fun j _ _ _ => qi 45 _ (by decide) (by decide), by rw [k39 2 (by decide) (by decide), k39 6 (by decide) (by decide), k39 1 (by decide) (by decide)]; exact Int.le_refl _⟩, fun i k a b => zi i k (by omega) (by omega) (by omega) (by omega)⟩⟩
  · exact hV.of gx gz (fun k _ => q2 37 _ (by decide) (by decide)) (fun c _ => zi 41 _ (by decide) (by decide) (by decide) (by decide))
  rw [k39 2 (by decide) (by decide), qi 45 _ (by decide) (by decide), hq u hu]
  unfold Ct9
  have e46 : z.1 46 = μm.1 46 := funext (fun k => zi 46 k (by decide) (by decide) (by decide) (by decide))
  have e48 : z.1 48 = μm.1 48 := funext (fun k => zi 48 k (by decide) (by decide) (by decide) (by decide))
  rw [e46, e48]
end

section
theorem c_liftB {q : Mem} (h6 : ¬ q.1 137 6 = 0) (v : Int64) (a : Int32) : pk (pr_X10_lift 50 v a q) (fun r => r.2 = q) := by
  have hs : pr_X10_lift 50 v a q = p_X10_lift (pr_X10_lift 49) v a q := pr_X10_lift_s 49 v a q
  rw [hs, p_X10_lift_eq]
  have hp : pk (p_X8_isPair v q) (fun r => r.2 = q) := by
    rw [p_X8_isPair_eq]
    exact pk_ite (fun _ => pk_ite (fun _ => pk_some rfl) (fun _ => pk_ite (fun _ => pk_some rfl) (fun _ => pk_some rfl))) (fun _ => pk_some rfl)
  refine pk_bd hp ?_
  intro r μ hr
  have hr : μ = q := hr
  rw [hr]
  exact pk_ite (fun _ => pk_some rfl) (fun _ => pk_ite (fun _ => pk_some rfl) (fun _ => by rw [if_neg h6]; exact pk_some rfl))
def Bk9 (q0 q : Mem) : Prop := q.1 137 6 = -2 ∧ q.2.2 = q0.2.2
theorem c_b69B {q0 q : Mem} (h : Bk9 q0 q) (a1 a2 : Int32) : pk (p_X10_leaveCallTo_b69 a1 a2 q) (Bk9 q0) := by
  have n6 : ¬ q.1 137 6 = 0 := by rw [h.1]; decide
  rw [p_X10_leaveCallTo_b69_eq]
  have hl : pk (p_X10_leave 11 a1 0 0 q) (fun r => r.2 = q) := by
    rw [p_X10_leave_eq, if_neg n6]; exact pk_some rfl
  refine pk_bd hl ?_
  intro r μ hr
  have hr : μ = q := hr
  rw [hr, if_neg n6]
  exact pk_some h
theorem c_b4B {q0 : Mem} : ∀ (f : Nat) (a1 a2 a3 : Int32) (q : Mem), Bk9 q0 q → pk (p_X10_leaveCallTo_b4 f a1 a2 a3 q) (Bk9 q0) := by
  intro f
  induction f with
  | zero => intro a1 a2 a3 q h r e; rw [p_X10_leaveCallTo_b4_z] at e; exact absurd e (by simp)
  | succ f ih =>
    intro a1 a2 a3 q h
    have n6 : ¬ q.1 137 6 = 0 := by rw [h.1]; decide
    rw [p_X10_leaveCallTo_b4_s]
    refine pk_ite (fun _ => c_b69B h a1 a2) (fun _ => pk_ite (fun _ => c_b69B h a1 a2) (fun _ => pk_gd (fun _ => pk_ite (fun _ => pk_gd (fun _ => pk_bd (c_liftB n6 _ _) ?_)) (fun _ => ?_))))
    · intro r μ hr
      have hr : μ = q := hr
      rw [hr]
      refine pk_gd (fun _ => pk_bvy (fun μ23 q23 => pk_bvs ?_))
      rw [p_X10_leaveCallTo_b63_eq]
      exact pk_bvs (ih _ _ _ μ23 ⟨by rw [q23]; exact h.1, by rw [q23]; exact h.2⟩)
    · rw [p_X10_leaveCallTo_b63_eq]
      exact pk_bvs (ih _ _ _ q h)
theorem m_186B {z : Mem} (h : z.1 0 68 = -2) (a b : Int32) : pk (p_X12_leaveCall_b186 a b z) (fun z => z.1 0 68 = -2) := by
  have n : ¬ z.1 0 68 = 0 := by rw [h]; decide
  rw [p_X12_leaveCall_b186_eq, if_neg n]
  exact pk_some h
theorem m_129B {z : Mem} (h : z.1 0 68 = -2) (g : Nat) (a b c : Int32) : pk (p_X12_leaveCall_b129 g a b c z) (fun z => z.1 0 68 = -2) := by
  have n : ¬ z.1 0 68 = 0 := by rw [h]; decide
  cases g with
  | zero => intro r e; rw [p_X12_leaveCall_b129_z] at e; exact absurd e (by simp)
  | succ g =>
    rw [p_X12_leaveCall_b129_s, if_neg n]
    exact pk_ite (fun _ => m_186B h a b) (fun _ => m_186B h a b)
def Lx9 (v : Nat) (μ q : Mem) : Prop := q.2.2 = μ.2.2 ∧ (∀ i k, i ≠ 39 → i ≠ 40 → i ≠ 42 → i ≠ 43 → i ≠ 45 → q.1 i k = μ.1 i k) ∧ (∀ k, k ≠ 1 → q.1 39 k = μ.1 39 k) ∧ (∀ k, k ≠ 4 * v + 2 → q.1 45 k = μ.1 45 k) ∧ ∀ i k, i ≠ 41 → i ≠ 141 → q.2.1 i k = μ.2.1 i k
def Lm9 (p o : Nat) (μ z : Mem) : Prop := z.2 = μ.2 ∧ (∀ k, k ≠ 56 → k ≠ 87 → k ≠ 88 → k ≠ 89 → k ≠ 93 → z.1 0 k = μ.1 0 k) ∧ (∀ i k, i ≠ 0 → ¬ (30 ≤ i ∧ i ≤ 34) → ¬ ((46 ≤ i ∧ i ≤ 52) ∧ p ≤ k) → ¬ ((i = 53 ∨ i = 54) ∧ o ≤ k) → i ≠ 55 → i ≠ 56 → i ≠ 69 → z.1 i k = μ.1 i k) ∧ Gh7 μ z ∧ ((μ.1 0 87).toNatClampNeg ≤ (z.1 0 87).toNatClampNeg ∧ (μ.1 0 88).toNatClampNeg ≤ (z.1 0 88).toNatClampNeg)
theorem Lx9.rf {v : Nat} {μ : Mem} : Lx9 v μ μ := ⟨rfl, fun _ _ _ _ _ _ _ => rfl, fun _ _ => rfl, fun _ _ => rfl, fun _ _ _ _ => rfl⟩
theorem Lx9.tr {v : Nat} {μ q z : Mem} (h : Lx9 v μ q) (h2 : Lx9 v q z) : Lx9 v μ z := ⟨h2.1.trans h.1, fun i k a b c d e => (h2.2.1 i k a b c d e).trans (h.2.1 i k a b c d e), fun k a => (h2.2.2.1 k a).trans (h.2.2.1 k a), fun k a => (h2.2.2.2.1 k a).trans (h.2.2.2.1 k a), fun i k a b => (h2.2.2.2.2 i k a b).trans (h.2.2.2.2 i k a b)⟩
theorem Fx7.lx {v : Nat} {μ q : Mem} (h : Fx7 v μ q) : Lx9 v μ q := ⟨h.1, h.2.1, h.2.2.1, h.2.2.2.1, fun i k a _ => h.2.2.2.2 i k a⟩
theorem Lm9.rf {p o : Nat} {μ : Mem} : Lm9 p o μ μ := ⟨rfl, fun _ _ _ _ _ _ => rfl, fun _ _ _ _ _ _ _ _ _ => rfl, Gh7.rf, Nat.le_refl _, Nat.le_refl _⟩
theorem Lm9.tr {p o p2 o2 : Nat} {μ q z : Mem} (h : Lm9 p o μ q) (h2 : Lm9 p2 o2 q z) (hp : p ≤ p2) (ho : o ≤ o2) : Lm9 p o μ z := ⟨h2.1.trans h.1, fun k a b c d e => (h2.2.1 k a b c d e).trans (h.2.1 k a b c d e), fun i k a b c d e f g => (h2.2.2.1 i k a b (fun x => c ⟨x.1, by omega⟩) (fun x => d ⟨x.1, by omega⟩) e f g).trans (h.2.2.1 i k a b c d e f g), h.2.2.2.1.tr h2.2.2.2.1, Nat.le_trans h.2.2.2.2.1 h2.2.2.2.2.1, Nat.le_trans h.2.2.2.2.2 h2.2.2.2.2.2⟩
theorem cl_le {a b : Int32} (h : a.toInt ≤ b.toInt) : a.toNatClampNeg ≤ b.toNatClampNeg := by
  show a.toInt.toNat ≤ b.toInt.toNat; omega
theorem Fm7.lm {p o : Nat} {μ z : Mem} (h : Fm7 p o μ z) : Lm9 p o μ z := ⟨h.1, h.2.1, fun i k a b c d e f _ => h.2.2.1 i k a b c d e f, h.2.2.2.1, cl_le h.2.2.2.2.1, cl_le h.2.2.2.2.2⟩
def Dn9 (Xs : List (Int64 × Nat)) (q z : Mem) : Prop := ∀ k x, Xs[k]? = some x → q.2.1 141 k = x.1 ∧ (z.1 69 k).toInt = (x.2 : Int) ∧ Va7 q z x.1 x.2 1 0
def Ps8 (R : Rw9) (i : Nat) (z : Mem) : Prop := (z.1 0 118).toInt = (R.length : Int) ∧ ∀ k p, i ≤ k → R[k]? = some p → Tk7 p.1 (z.1 67 k) (z.1 68 k) ∧ (z.1 69 k).toInt = (p.2.2 : Int)
noncomputable def ns9 (R : Rw9) : Nat := (R.filter (fun p => decide (p.1 = 17179869184))).length
theorem ns9_cons (p : Int64 × Int64 × Nat) (R : Rw9) : ns9 (p :: R) = (if p.1 = 17179869184 then 1 else 0) + ns9 R := by
  unfold ns9
  by_cases h : p.1 = 17179869184
  · rw [if_pos h, List.filter_cons_of_pos (p := fun (p : Int64 × Int64 × Nat) => decide (p.1 = 17179869184)) (decide_eq_true h), List.length_cons]; omega
  · rw [if_neg h, List.filter_cons_of_neg (p := fun (p : Int64 × Int64 × Nat) => decide (p.1 = 17179869184)) (by simpa using h)]; omega
theorem m_skip {α : Type} {F : Option α} {Post : α → Mem → Prop} {R0 : Rw9} {z : Mem} (h68 : z.1 0 68 = 0) {a b : Int32} : ∀ (S : Rw9) (g i : Nat) (c : Int32), R0.drop i = S → i ≤ R0.length → ns9 S = 0 → c.toInt = (i : Int) → Ps8 R0 i z → R0.length ≤ 200 → pk2 F (p_X12_leaveCall_b186 a b z) Post → pk2 F (p_X12_leaveCall_b129 g a b c z) Post := by
  intro S
  induction S with
  | nil =>
    intro g i c hS hi hn hc hP h200 hk
    cases g with
    | zero => intro q z' _ e; rw [p_X12_leaveCall_b129_z] at e; cases e
    | succ g =>
      have hl : R0.length ≤ i := List.drop_eq_nil_iff.mp hS
      rw [p_X12_leaveCall_b129_s, if_pos (by rw [ti_le, hP.1, hc]; omega)]
      exact hk
  | cons p S ih =>
    intro g i c hS hi hn hc hP h200 hk
    obtain ⟨hil, hpi, hS'⟩ := drop_c hS
    cases g with
    | zero => intro q z' _ e; rw [p_X12_leaveCall_b129_z] at e; cases e
    | succ g =>
      rw [ns9_cons] at hn
      have hnp : ¬ p.1 = 17179869184 := fun e => by rw [if_pos e] at hn; omega
      have h3 : ¬ z.1 67 i = 3 := fun e => hnp ((tk_st (hP.2 i p (Nat.le_refl _) hpi).1).mpr e)
      rw [p_X12_leaveCall_b129_s, if_neg (by rw [ti_le, hP.1, hc]; omega), if_pos h68, tn_of hc]
      refine pk2_gdr (fun _ => ?_)
      rw [if_neg h3, p_X12_leaveCall_b180_eq]
      exact pk2_bvr (ih g (i + 1) (c + 1) hS' (by omega) (by rw [if_neg hnp] at hn; omega) (tp1 hc (by omega)) ⟨hP.1, fun k p' hk2 => hP.2 k p' (by omega)⟩ h200 hk)
theorem lifts9 {Post : Mem → Mem → Prop} {R0 : Rw9} {pt v b a : Nat} {cl : Nat → Prop} {q0 : Mem} {a1 c3 : Int32} (hpt : 142 ≤ pt) (h200 : R0.length ≤ 200) : ∀ (m f g i : Nat) (a2 a3 c4 c5 : Int32) (q z : Mem) (It Bk : List Nat) (Xs : List (Int64 × Nat)), R0.length - i = m → i ≤ R0.length → Xs.length ≤ i → Xs.length + ns9 (R0.drop i) ≤ 8 → a2.toInt = (Xs.length : Int) → c4.toInt = (Xs.length : Int) → a3.toInt = (i : Int) → c5.toInt = (i : Int) → sel 1 (q.2.2 137 14) = pt → q.2.2 = q0.2.2 → Re7 q z It Bk cl v b a → Px9 pt R0 q → Ps8 R0 i z → (∀ p, p ∈ R0 → ∃ w d, Va7 q z p.2.1 p.2.2 w d ∧ w ≤ 40) → Dn9 Xs q z → (∀ (q' z' : Mem) (It' Bk' : List Nat) (Xs' : List (Int64 × Nat)) (n1 n2 : Int32), Re7 q' z' It' Bk' cl v b a → Gl8 b q z It Bk cl q' z' It' Bk' cl → Lx9 v q q' → Lm9 (z.1 0 87).toNatClampNeg (z.1 0 88).toNatClampNeg z z' → Xs'.length ≤ 8 → n1.toInt = (Xs'.length : Int) → n2.toInt = (Xs'.length : Int) → Dn9 Xs' q' z' → pk2 (p_X10_leaveCallTo_b69 a1 n1 q') (p_X12_leaveCall_b186 c3 n2 z') Post) → (∀ q' z', Bk9 q0 q' → z'.1 0 68 = -2 → Post q' z') → pk2 (p_X10_leaveCallTo_b4 f a1 a2 a3 q) (p_X12_leaveCall_b129 g c3 c4 c5 z) Post := by
  have e8 : (8 : Int32).toInt = 8 := by decide
  have e0 : (0 : Int32).toInt = ((0 : Nat) : Int) := by decide
  intro m
  induction m with
  | zero =>
    intro f g i a2 a3 c4 c5 q z It Bk Xs hm hi hX h8 h2 h4 h3 h5 hsel h22 hR hP hM hV hD ok bad
    cases f with
    | zero => intro q' z' e _; rw [p_X10_leaveCallTo_b4_z] at e; cases e
    | succ f =>
      rw [p_X10_leaveCallTo_b4_s, hsel, if_pos (by rw [ti_le, hP.1, h3]; omega)]
      refine m_skip hR.2.2.2.2.2.1.1 _ g i c5 rfl hi ?_ h5 hM h200 (ok q z It Bk Xs a2 c4 hR (Gl8.same ⟨fun _ => rfl, fun _ => rfl, ⟨rfl, rfl⟩, fun _ _ _ _ => rfl⟩) Lx9.rf Lm9.rf (by omega) h2 h4 hD)
      rw [List.drop_eq_nil_iff.mpr (by omega)]; rfl
  | succ m ih =>
    intro f g i a2 a3 c4 c5 q z It Bk Xs hm hi hX h8 h2 h4 h3 h5 hsel h22 hR hP hM hV hD ok bad
    cases f with
    | zero => intro q' z' e _; rw [p_X10_leaveCallTo_b4_z] at e; cases e
    | succ f =>
      rw [p_X10_leaveCallTo_b4_s, hsel, if_neg (by rw [ti_le, hP.1, h3]; omega)]
      by_cases c8 : 8 ≤ a2
      · rw [if_pos c8]
        rw [ti_le, e8, h2] at c8
        exact m_skip hR.2.2.2.2.2.1.1 _ g i c5 rfl hi (by omega) h5 hM h200 (ok q z It Bk Xs a2 c4 hR (Gl8.same ⟨fun _ => rfl, fun _ => rfl, ⟨rfl, rfl⟩, fun _ _ _ _ => rfl⟩) Lx9.rf Lm9.rf (by omega) h2 h4 hD)
      · rw [if_neg c8]
        rw [ti_le, e8, h2] at c8
        obtain ⟨p, hpi⟩ : ∃ p, R0[i]? = some p := ⟨R0[i], List.getElem?_eq_getElem (by omega)⟩
        obtain ⟨w1, w2⟩ := hP.2 i p hpi
        obtain ⟨t1, t2⟩ := hM.2 i p (Nat.le_refl _) hpi
        have hdi : R0.drop i = p :: R0.drop (i + 1) := by
          rw [List.drop_eq_getElem_cons (by omega)]
          have : R0[i] = p := by
            have := List.getElem?_eq_getElem (l := R0) (i := i) (by omega)
            rw [hpi] at this; exact (Option.some.inj this).symm
          rw [this]
        rw [hdi, ns9_cons] at h8
        cases g with
        | zero => intro q' z' _ e; rw [p_X12_leaveCall_b129_z] at e; cases e
        | succ g =>
          have cR : ¬ z.1 0 118 ≤ c5 := by rw [ti_le, hM.1, h5]; omega
          rw [p_X12_leaveCall_b129_s, tn_of h3, tn_of h5, w1, w2]
          by_cases ct : p.1 = 17179869184
          · rw [if_pos (lg_eq.mpr ct), if_neg cR, if_pos hR.2.2.2.2.2.1.1, if_pos ((tk_st t1).mp ct)]
            rw [if_pos ct] at h8
            have gdl : ∀ {α β : Type} {c : Bool} {f : Option α} {g : Option β} {P : α → β → Prop}, pk2 f g P → pk2 (gd c f) g P := fun {α β c f g P} h q z e e2 => by
              cases c with
              | false => cases e
              | true => exact h q z e e2
            refine gdl (gdl (pk2_gdr (fun _ => pk2_gdr (fun _ => ?_))))
            obtain ⟨w, d, hv, hw⟩ := hV p (List.mem_iff_getElem?.mpr ⟨i, hpi⟩)
            refine pk2_bd2 (lift_both hR hv hw t2 e0) ?_
            intro r μ21 s μ25 hL
            rcases hL with ⟨It2, Bk2, y, R2, G2, V2, hs, fx, fm⟩ | ⟨k6, k68, k22⟩
            · have R2 : Re7 μ21 μ25 It2 Bk2 cl v b a := R2
              have G2 : Gl8 b q z It Bk cl μ21 μ25 It2 Bk2 cl := G2
              have V2 : Va7 μ21 μ25 r y 1 0 := V2
              have hs : s.toInt = (y : Int) := hs
              have fx : Fx7 v q μ21 := fx
              have fm : Fm7 (z.1 0 87).toNatClampNeg (z.1 0 88).toNatClampNeg z μ25 := fm
              refine gdl (pk2_gdr (fun _ => ?_))
              show pk2 (bv (sL μ21 141 a2.toNatClampNeg r) (fun μ23 => bv (a2 + 1) (fun v24 => p_X10_leaveCallTo_b63 (p_X10_leaveCallTo_b4 f) a1 v24 a3 μ23))) (bv (sF μ25 69 c4.toNatClampNeg s) (fun μ27 => bv (c4 + 1) (fun v28 => p_X12_leaveCall_b180 (p_X12_leaveCall_b129 g) c3 v28 c5 μ27))) Post
              rw [tn_of h2, tn_of h4]
              show pk2 (p_X10_leaveCallTo_b63 (p_X10_leaveCallTo_b4 f) a1 (a2 + 1) a3 (sL μ21 141 Xs.length r)) (p_X12_leaveCall_b180 (p_X12_leaveCall_b129 g) c3 (c4 + 1) c5 (sF μ25 69 Xs.length s)) Post
              rw [p_X10_leaveCallTo_b63_eq, p_X12_leaveCall_b180_eq]
              show pk2 (p_X10_leaveCallTo_b4 f a1 (a2 + 1) (a3 + 1) (sL μ21 141 Xs.length r)) (p_X12_leaveCall_b129 g c3 (c4 + 1) (c5 + 1) (sF μ25 69 Xs.length s)) Post
              generalize hq2 : sL μ21 141 Xs.length r = q2
              generalize hz2 : sF μ25 69 Xs.length s = z2
              have q2i : q2.1 = μ21.1 := by rw [← hq2]; rfl
              have q2r : q2.2.2 = μ21.2.2 := by rw [← hq2]; rfl
              have q2l : ∀ j k, j ≠ 141 → q2.2.1 j k = μ21.2.1 j k := fun j k hj => by rw [← hq2, sL_at, if_neg (fun e => hj e.1)]
              have z2i : ∀ j k, j ≠ 69 → z2.1 j k = μ25.1 j k := fun j k hj => by rw [← hz2, sF_i hj]
              have z2r : z2.2 = μ25.2 := by rw [← hz2]; rfl
              have gx : Gs7 μ21 q2 := gs_same (by rw [q2i]) (fun k => q2l 31 k (by decide)) (fun k => q2l 32 k (by decide)) (fun k => by rw [q2i]) (fun k => by rw [q2i])
              have gz : Gh7 μ25 z2 := gh_same (z2i 0 56 (by decide)) (fun i k x1 x2 => z2i i k (by omega))
              have gx1 : Gs7 q μ21 := gs_same (fx.2.1 30 5 (by decide) (by decide) (by decide) (by decide) (by decide)) (fun k => fx.2.2.2.2 31 k (by decide)) (fun k => fx.2.2.2.2 32 k (by decide)) (fun k => fx.2.1 33 k (by decide) (by decide) (by decide) (by decide) (by decide)) (fun k => fx.2.1 34 k (by decide) (by decide) (by decide) (by decide) (by decide))
              have gz1 : Gh7 z μ25 := fm.2.2.2.1
              have Rq : Re7 q2 z2 It2 Bk2 cl v b a := R2.of3 (fun k _ => by rw [q2i]) (by rw [q2i]; exact Int.le_refl _) (fun i k _ => by rw [q2i]) (by rw [q2i]) (fun k _ => by rw [q2i]) (fun i k hi => q2l i k (by omega)) (fun k _ => z2i 0 k (by decide)) (fun i k x1 x2 => z2i i k (by omega)) (fun i k hi => z2i i k (by omega))
              have sc : Sc8 μ21 μ25 q2 z2 := ⟨fun k => by rw [q2i], fun k => q2l 44 k (by decide), ⟨z2i 0 87 (by decide), z2i 0 88 (by decide)⟩, fun i k x1 x2 => z2i i k (by omega)⟩
              have G3 : Gl8 b q z It Bk cl q2 z2 It2 Bk2 cl := G2.tr (Gl8.same sc)
              have lx : Lx9 v q q2 := fx.lx.tr ⟨q2r, fun i k _ _ _ _ _ => by rw [q2i], fun k _ => by rw [q2i], fun k _ => by rw [q2i], fun i k _ hi => q2l i k hi⟩
              have lm : Lm9 (z.1 0 87).toNatClampNeg (z.1 0 88).toNatClampNeg z z2 := fm.lm.tr ⟨z2r, fun k _ _ _ _ _ => z2i 0 k (by decide), fun i k _ _ _ _ _ _ hi => z2i i k hi, gz, by rw [z2i 0 87 (by decide)]; exact Nat.le_refl _, by rw [z2i 0 88 (by decide)]; exact Nat.le_refl _⟩ (Nat.le_refl _) (Nat.le_refl _)
              have r69 : ∀ k, i + 1 ≤ k → z2.1 69 k = z.1 69 k := fun k hk => by rw [← hz2, sF_k (by omega)]; exact fm.2.2.1 69 k (by decide) (by omega) (by omega) (by omega) (by decide) (by decide)
              have xl : (Xs ++ [(r, y)]).length = Xs.length + 1 := by rw [List.length_append]; rfl
              refine ih f g (i + 1) (a2 + 1) (a3 + 1) (c4 + 1) (c5 + 1) q2 z2 It2 Bk2 (Xs ++ [(r, y)]) (by omega) (by omega) (by rw [xl]; omega) (by rw [xl]; omega) (by rw [xl]; exact tp1 h2 (by omega)) (by rw [xl]; exact tp1 h4 (by omega)) (tp1 h3 (by omega)) (tp1 h5 (by omega)) (by rw [lx.1]; exact hsel) (by rw [lx.1]; exact h22) Rq (hP.cong (lx.2.1 pt 2 (by omega) (by omega) (by omega) (by omega) (by omega)) (fun j k hj => lx.2.2.2.2 j k (by omega) (by omega))) ⟨by rw [lm.2.1 118 (by decide) (by decide) (by decide) (by decide) (by decide)]; exact hM.1, fun k p' hk hp' => ?_⟩ (fun p' hp' => ?_) (fun k x hx => ?_) (fun q' z' It' Bk' Xs' n1 n2 b1 b2 b3 b4 b5 b6 b7 b8 => ok q' z' It' Bk' Xs' n1 n2 b1 (G3.tr b2) (lx.tr b3) (lm.tr b4 lm.2.2.2.2.1 lm.2.2.2.2.2) b5 b6 b7 b8) bad
              · have := hM.2 k p' (by omega) hp'
                rw [lm.2.2.1 67 k (by decide) (by omega) (by omega) (by omega) (by decide) (by decide) (by decide), lm.2.2.1 68 k (by decide) (by omega) (by omega) (by omega) (by decide) (by decide) (by decide), r69 k hk]
                exact this
              · obtain ⟨w', d', hv', hw'⟩ := hV p' hp'
                exact ⟨w', d', (hv'.gr gx1 gz1).gr gx gz, hw'⟩
              · rcases Nat.lt_or_ge k Xs.length with e | e
                · rw [List.getElem?_append_left e] at hx
                  obtain ⟨y1, y2, y3⟩ := hD k x hx
                  refine ⟨?_, ?_, (y3.gr gx1 gz1).gr gx gz⟩
                  · rw [← hq2, sL_at, if_neg (by omega), fx.2.2.2.2 141 k (by decide)]; exact y1
                  · rw [← hz2, sF_k (by omega), fm.2.2.1 69 k (by decide) (by omega) (by omega) (by omega) (by decide) (by decide)]; exact y2
                · rw [List.getElem?_append_right e] at hx
                  have hk0 : k - Xs.length < 1 := by have := lt_some hx; simpa using this
                  have : k = Xs.length := by omega
                  subst this
                  rw [Nat.sub_self] at hx
                  have : (r, y) = x := by simpa using hx
                  subst this
                  exact ⟨by rw [← hq2, sL_at, if_pos ⟨rfl, rfl⟩], by rw [← hz2, sF_v]; exact hs, V2.gr gx gz⟩
            · have k6 : μ21.1 137 6 = -2 := k6
              have k68 : μ25.1 0 68 = -2 := k68
              have k22 : μ21.2.2 = q.2.2 := k22
              refine gdl (pk2_gdr (fun _ => ?_))
              refine pk2_of2 (A := Bk9 q0) (B := fun z => z.1 0 68 = -2) ?_ ?_ (fun q' z' h1 h2 => bad q' z' h1 h2)
              · refine pk_bvy (fun μ23 q23 => pk_bvs ?_)
                rw [p_X10_leaveCallTo_b63_eq]
                exact pk_bvs (c_b4B f _ _ _ μ23 ⟨by rw [q23]; exact k6, by rw [q23]; exact k22.trans h22⟩)
              · refine pk_bvy (fun μ27 q27 => pk_bvs ?_)
                rw [p_X12_leaveCall_b180_eq]
                exact pk_bvs (m_129B (by rw [q27, sF_i (by decide)]; exact k68) g _ _ _)
          · rw [if_neg (fun e => ct (lg_eq.mp e)), if_neg cR, if_pos hR.2.2.2.2.2.1.1, if_neg (fun e => ct ((tk_st t1).mpr e))]
            rw [if_neg ct] at h8
            have gdl : ∀ {α β : Type} {c : Bool} {f : Option α} {g : Option β} {P : α → β → Prop}, pk2 f g P → pk2 (gd c f) g P := fun {α β c f g P} h q z e e2 => by
              cases c with
              | false => cases e
              | true => exact h q z e e2
            refine gdl (pk2_gdr (fun _ => ?_))
            rw [p_X10_leaveCallTo_b63_eq, p_X12_leaveCall_b180_eq]
            show pk2 (p_X10_leaveCallTo_b4 f a1 a2 (a3 + 1) q) (p_X12_leaveCall_b129 g c3 c4 (c5 + 1) z) Post
            exact ih f g (i + 1) a2 (a3 + 1) c4 (c5 + 1) q z It Bk Xs (by omega) (by omega) (by omega) (by omega) h2 h4 (tp1 h3 (by omega)) (tp1 h5 (by omega)) hsel h22 hR hP ⟨hM.1, fun k p' hk => hM.2 k p' (by omega)⟩ hV hD ok bad
end

section
def Cl9 (u : Nat) (mark : Int32) (Xs : List (Int64 × Nat)) (v b n : Nat) (μ q : Mem) : Prop := ∃ w, Ad7 11 mark v b n μ w ∧ (∀ i k, ¬ (i = 40 ∧ k = 8 * n + 7) → ¬ (i = 45 ∧ k = 4 * u + 1) → q.1 i k = w.1 i k) ∧ (q.1 40 (8 * n + 7)).toInt = (Xs.length : Int) ∧ q.1 45 (4 * u + 1) = μ.1 45 (4 * u + 1) + 1 ∧ q.2.2 = μ.2.2 ∧ (∀ i k, ¬ (i = 41 ∧ 10 * n ≤ k ∧ k < 10 * n + 10) → q.2.1 i k = μ.2.1 i k) ∧ ∀ k x, Xs[k]? = some x → q.2.1 41 (10 * n + 2 + k) = x.1
theorem c_ofVt {μ : Mem} {u V c : Nat} {a1 a2 : Int32} (h1 : a1.toInt = (u : Int)) (h2 : a2.toInt = (c : Int)) (hV : (μ.1 39 2).toInt = (V : Int)) (hu : u < V) (hV24 : V ≤ 24) (hc : c < 4) : pk (p_X5_ofVariant a1 a2 μ) (fun r => r.1 = μ.1 45 (4 * u + c) ∧ r.2 = μ) := by
  have e0 : (0 : Int32).toInt = 0 := by decide
  have e4 : (4 : Int32).toInt = 4 := by decide
  have s0 : (a1 * 4).toInt = 4 * (u : Int) := by rw [ti_mulc e4 (by omega) (by omega), h1]; omega
  have s1 : (a1 * 4 + a2).toInt = ((4 * u + c : Nat) : Int) := by rw [ti_add (by omega) (by omega), s0, h2]; omega
  rw [p_X5_ofVariant_eq, if_neg (by rw [ti_lt, e0, h1]; omega), if_neg (by rw [ti_le, hV, h1]; omega), tn_of s1]
  exact pk_gd (fun _ => pk_some ⟨rfl, rfl⟩)
theorem c_b113 {u V n h : Nat} {Xs : List (Int64 × Nat)} {a1 a2 a5 : Int32} {r : Int64} (hX : Xs.length ≤ 8) (h1 : a1.toInt = (u : Int)) (h2 : a2.toInt = (Xs.length : Int)) (h5 : a5.toInt = (n : Int)) (hn : n < 300) (hu : u < V) (hV24 : V ≤ 24) (hh : h < 2480) : ∀ (m f k : Nat) (a6 : Int32) (μ : Mem), Xs.length - k = m → k ≤ Xs.length → a6.toInt = (k : Int) → (n : Int) < (μ.1 39 1).toInt → (μ.1 39 2).toInt = (V : Int) → (μ.1 30 7).toInt = (h : Int) → (∀ k x, Xs[k]? = some x → μ.2.1 141 k = x.1) → pk (p_X10_leaveCallTo_b113 f a1 a2 r a5 a6 μ) (fun q => ∃ q0, q = sF (sL q0 36 h r) 30 7 (q0.1 30 7 + 1) ∧ (∀ i k, ¬ (i = 45 ∧ k = 4 * u + 1) → q0.1 i k = μ.1 i k) ∧ q0.1 45 (4 * u + 1) = μ.1 45 (4 * u + 1) + 1 ∧ q0.2.2 = μ.2.2 ∧ (∀ i j, ¬ (i = 41 ∧ 10 * n + 2 + k ≤ j ∧ j < 10 * n + 10) → q0.2.1 i j = μ.2.1 i j) ∧ ∀ l x, k ≤ l → Xs[l]? = some x → q0.2.1 41 (10 * n + 2 + l) = x.1) := by
  have e1 : (1 : Int32).toInt = ((1 : Nat) : Int) := by decide
  have e2 : (2 : Int32).toInt = 2 := by decide
  intro m
  induction m with
  | zero =>
    intro f k a6 μ hm hk h6 hc hV h7 hs
    cases f with
    | zero => intro r e; rw [p_X10_leaveCallTo_b113_z] at e; exact absurd e (by simp)
    | succ f =>
      rw [p_X10_leaveCallTo_b113_s, if_pos (by rw [ti_le, h2, h6]; omega)]
      refine pk_bd (c_ofVt (u := u) (c := 1) h1 e1 hV hu hV24 (by omega)) ?_
      rintro r10 μ9 ⟨g1, g2⟩
      have g1 : r10 = μ.1 45 (4 * u + 1) := g1
      have g2 : μ9 = μ := g2
      rw [g2, g1]
      refine pk_bw (c_setVt (u := u) (c := 1) h1 e1 hV hu hV24 (by omega)) (fun q0 hq0 => ?_)
      refine pk_bw (c_push r (h := h) (by rw [hq0, sF_i (by decide)]; exact h7) hh) (fun q hq => pk_some ⟨q0, hq, fun i k hk => by rw [hq0, sF_at, if_neg hk], by rw [hq0, sF_v], by rw [hq0]; rfl, fun i j _ => by rw [hq0]; rfl, fun l x hl hx => ?_⟩)
      have := lt_some hx
      omega
  | succ m ih =>
    intro f k a6 μ hm hk h6 hc hV h7 hs
    cases f with
    | zero => intro r e; rw [p_X10_leaveCallTo_b113_z] at e; exact absurd e (by simp)
    | succ f =>
      obtain ⟨x, hx⟩ : ∃ x, Xs[k]? = some x := ⟨Xs[k], List.getElem?_eq_getElem (by omega)⟩
      rw [p_X10_leaveCallTo_b113_s, if_neg (by rw [ti_le, h2, h6]; omega), tn_of h6, hs k x hx]
      refine pk_gd (fun _ => pk_bw (c_op (i := n) (k := 2 + k) x.1 h5 (by rw [ti_add (by omega) (by omega), e2, h6]; omega) hc hn (by omega)) (fun q hq => pk_bvs ?_))
      have qi : ∀ i j, q.1 i j = μ.1 i j := fun i j => by rw [hq]; rfl
      refine pk_mono (ih f (k + 1) (a6 + 1) q (by omega) (by omega) (tp1 h6 (by omega)) (by rw [qi]; exact hc) (by rw [qi]; exact hV) (by rw [qi]; exact h7) (fun l y hl => by rw [hq, sL_at, if_neg (by omega)]; exact hs l y hl)) ?_
      rintro q2 ⟨q0, b1, b2, b3, b4, b5, b6⟩
      refine ⟨q0, b1, fun i l hl => (b2 i l hl).trans (qi i l), b3.trans (by rw [qi]), b4.trans (by rw [hq]; rfl), fun i j hj => (b5 i j (by omega)).trans ?_, fun l y hl hy => ?_⟩
      · rw [hq, sL_at, if_neg (by omega)]
      · rcases Nat.lt_or_ge k l with e | e
        · exact b6 l y (by omega) hy
        · have : l = k := by omega
          subst this
          rw [hx] at hy
          have : x = y := Option.some.inj hy
          subst this
          rw [b5 41 _ (by omega), hq, show 10 * n + 2 + l = 10 * n + (2 + l) by omega, sL_at, if_pos ⟨rfl, rfl⟩]
def Ac9 (u : Nat) (mark : Int32) (Xs : List (Int64 × Nat)) (v b n h : Nat) (q1 q : Mem) : Prop := (300 ≤ n ∧ q.1 137 6 = -2 ∧ q.2.2 = q1.2.2) ∨ (n < 300 ∧ ∃ q0, Cl9 u mark Xs v b n q1 q0 ∧ q = sF (sL q0 36 h (s_X0_make (nI 3) (q1.1 45 (4 * v + 2)))) 30 7 (q0.1 30 7 + 1))
theorem c_callI {μ : Mem} {u V v b n h : Nat} {Xs : List (Int64 × Nat)} {a1 a2 : Int32} (hX : Xs.length ≤ 8) (h1 : a1.toInt = (u : Int)) (h2 : a2.toInt = (Xs.length : Int)) (hu : u < V) (hV : (μ.1 39 2).toInt = (V : Int)) (hV24 : V ≤ 24) (hs : ∀ k x, Xs[k]? = some x → μ.2.1 141 k = x.1) (hbr : μ.1 137 6 = 0) (hv7 : (μ.1 137 7).toInt = (v : Int)) (hb8 : (μ.1 137 8).toInt = (b : Int)) (hv : (v : Int) < (μ.1 39 2).toInt) (hv24 : v < 24) (hb : (b : Int) < (μ.1 39 6).toInt) (hn : (μ.1 39 1).toInt = (n : Int)) (hl : μ.1 43 b ≠ -1 → ∃ l : Nat, (μ.1 43 b).toInt = (l : Int) ∧ l < n) (h7 : (μ.1 30 7).toInt = (h : Int)) (hh : h < 2480) : pk (p_X10_leaveCallTo_b69 a1 a2 μ) (Ac9 u a1 Xs v b n h μ) := by
  have e1 : (1 : Int32).toInt = 1 := by decide
  have e7 : (7 : Int32).toInt = ((7 : Nat) : Int) := by decide
  have e0 : (0 : Int32).toInt = ((0 : Nat) : Int) := by decide
  rw [p_X10_leaveCallTo_b69_eq]
  refine pk_bd (c_leave (x := 0) (y := 0) hbr hv7 hb8 hv hv24 hb hn hl) ?_
  rintro r3 μ2 (⟨g1, g2, g3⟩ | ⟨g1, g2, g3⟩)
  · have g3 : μ2 = sF μ 137 6 (-2) := g3
    have k6 : μ2.1 137 6 = -2 := by rw [g3, sF_v]
    rw [if_neg (by rw [k6]; decide)]
    exact pk_some (Or.inl ⟨g1, k6, by rw [g3]; rfl⟩)
  · have g2 : r3 = s_X0_make (nI 3) (if (11 : Int32) = 7 then -1 else μ.1 45 (4 * v + 2)) := g2
    rw [if_neg (by decide)] at g2
    have g3 : Lv7 11 a1 0 0 v b n μ μ2 := g3
    have f := g3.fx
    obtain ⟨w, hA, qi, qr, ql⟩ := g3
    have hA' := hA
    obtain ⟨w2, w1, wk, ⟨r0, r1, r2, r3', r4, r5, r6, r7⟩, w40, w45, w42, w43, wo⟩ := hA'
    have k6 : μ2.1 137 6 = 0 := by rw [qi, wo 137 6 (by decide) (by decide) (by decide) (by decide) (by decide)]; exact hbr
    have k391 : (μ2.1 39 1).toInt = (n : Int) + 1 := by rw [qi, w1, ti_add (by omega) (by omega), hn, e1]
    have v5t : (μ2.1 39 1 - 1).toInt = (n : Int) := by rw [ti_sub (by omega) (by omega), k391, e1]; omega
    rw [if_pos k6]
    refine pk_bvs (pk_bw (c_setCell (i := n) (k := 7) a2 v5t e7 (by omega) g1 (by omega)) (fun μ6 q6 => ?_))
    have i6 : ∀ i k, ¬ (i = 40 ∧ k = 8 * n + 7) → μ6.1 i k = μ2.1 i k := fun i k hk => by rw [q6, sF_at, if_neg hk]
    refine pk_mono (c_b113 (u := u) (V := V) (n := n) (h := h) (r := r3) hX h1 h2 v5t g1 hu hV24 hh _ FUEL 0 0 μ6 rfl (by omega) e0 (by rw [i6 39 1 (by omega)]; omega) (by rw [i6 39 2 (by omega), f.2.2.1 2 (by decide)]; exact hV) (by rw [i6 30 7 (by omega), f.2.1 30 7 (by decide) (by decide) (by decide) (by decide) (by decide)]; exact h7) (fun k x hx => by rw [q6]; show μ2.2.1 141 k = _; rw [f.2.2.2.2 141 k (by decide)]; exact hs k x hx)) ?_
    rintro q ⟨q0, b1, b2, b3, b4, b5, b6⟩
    rw [g2] at b1
    refine Or.inr ⟨g1, q0, ⟨w, hA, fun i k x1 x2 => by rw [b2 i k x2, i6 i k x1, qi], ?_, ?_, ?_, fun i k hk => ?_, fun k x hx => b6 k x (by omega) hx⟩, b1⟩
    · rw [b2 40 _ (by omega), q6, sF_v]; exact h2
    · rw [b3, i6 45 _ (by omega), f.2.2.2.1 _ (by omega)]
    · rw [b4, q6]; show μ2.2.2 = _; exact f.1
    · rw [b5 i k (by omega), q6]
      show μ2.2.1 i k = _
      rw [ql, if_neg (by omega), if_neg (by omega)]
theorem m_b222 {kind mark : Int32} {p o n h : Nat} {z1 : Mem} {X : List Nat} {a4 a5 : Int32} (hX : X.length ≤ 8) (h4 : a4.toInt = (X.length : Int)) (h5 : a5.toInt = (p : Int)) (z66 : (z1.1 0 66).toInt = (h : Int)) (hp : (z1.1 0 87).toInt = (p : Int)) (ho : (z1.1 0 88).toInt = (o : Int)) (hs : ∀ (k x : Nat), X[k]? = some x → (z1.1 69 k).toInt = (x : Int)) : ∀ (m g k : Nat) (a6 : Int32) (z : Mem), X.length - k = m → k ≤ X.length → a6.toInt = (k : Int) → La7 kind mark true (X.take k) p o n z1 z → pk (p_X12_leaveCall_b222 g a4 a5 a6 z) (fun q => ∃ (y : Nat) (z0 z2 : Mem) (r : Int32), La7 kind mark true X p o n z1 z0 ∧ Nn7 z0 z2 y 3 (z1.1 0 93) ∧ r.toInt = (y : Int) ∧ q = sF (sF z2 40 h r) 0 66 (z2.1 0 66 + 1)) := by
  intro m
  induction m with
  | zero =>
    intro g k a6 z hm hk h6 hL
    cases g with
    | zero => intro r e; rw [p_X12_leaveCall_b222_z] at e; exact absurd e (by simp)
    | succ g =>
      rw [p_X12_leaveCall_b222_s, if_pos (by rw [ti_le, h4, h6]; omega)]
      rw [List.take_of_length_le (by omega)] at hL
      refine pk_mono (m_regcome hL h5 z66) ?_
      rintro q ⟨y, z2, r, g1, g2, g3⟩
      exact ⟨y, z, z2, r, hL, g1, g2, g3⟩
  | succ m ih =>
    intro g k a6 z hm hk h6 hL
    cases g with
    | zero => intro r e; rw [p_X12_leaveCall_b222_z] at e; exact absurd e (by simp)
    | succ g =>
      obtain ⟨x, hx⟩ : ∃ x, X[k]? = some x := ⟨X[k], List.getElem?_eq_getElem (by omega)⟩
      have e69 : z.1 69 k = z1.1 69 k := (hL.fm hp ho).2.2.1 69 k (by decide) (by omega) (by omega) (by omega) (by decide) (by decide)
      rw [p_X12_leaveCall_b222_s, if_neg (by rw [ti_le, h4, h6]; omega), tn_of h6, e69]
      refine pk_gd (fun _ => pk_bw (hL.op h5 (hs k x hx) (by rw [List.length_take]; omega)) (fun μ4 h4' => pk_bvs (ih g (k + 1) (a6 + 1) μ4 (by omega) (by omega) (tp1 h6 (by omega)) ?_)))
      have et : X.take (k + 1) = X.take k ++ [x] := by
        rw [List.take_add_one, hx]; rfl
      rw [et]; exact h4'
theorem m_callI {z1 : Mem} {n h : Nat} {X : List Nat} {a3 a4 : Int32} (hX : X.length ≤ 8) (h4 : a4.toInt = (X.length : Int)) (h68 : z1.1 0 68 = 0) (hn : (z1.1 0 89).toInt = (n : Int)) (hn3 : n ≤ 300) (z66 : (z1.1 0 66).toInt = (h : Int)) (ho' : ∃ o : Nat, (z1.1 0 88).toInt = (o : Int)) (hs : ∀ (k x : Nat), X[k]? = some x → (z1.1 69 k).toInt = (x : Int)) : pk (p_X12_leaveCall_b186 a3 a4 z1) (Bi8 11 a3 X n h z1) := by
  have e0 : (0 : Int32).toInt = ((0 : Nat) : Int) := by decide
  obtain ⟨o, ho⟩ := ho'
  rw [p_X12_leaveCall_b186_eq, if_pos h68]
  refine pk_bd (m_instr 11 1 ho hn hn3) ?_
  rintro r2 μ1 ⟨p, hp, hr, hp9, h⟩
  have hr : r2.toInt = (p : Int) := hr
  rcases h with ⟨hn, z, hI, e⟩ | ⟨hn, hL⟩
  · have e : μ1 = sF z 0 68 (-2) := e
    have e68 : μ1.1 0 68 = -2 := by rw [e, sF_v]
    rw [if_neg (by rw [e68]; decide)]
    exact pk_some (Or.inl ⟨hn, e68⟩)
  · have hL : La7 11 0 true [] p o n z1 μ1 := hL
    have e68 : μ1.1 0 68 = 0 := by rw [hL.2.2.2.2.2.2.1 68 (by decide) (by decide) (by decide) (by decide)]; exact h68
    rw [if_pos e68, tn_of hr]
    refine pk_gd (fun _ => pk_bvs ?_)
    refine pk_mono (m_b222 (kind := 11) (mark := a3) (n := n) hX h4 hr z66 hp ho hs _ FUEL 0 0 (sF μ1 48 p a3) rfl (by omega) e0 hL.mark) ?_
    rintro q ⟨y, z0, z2, r, g1, g2, g3, g4⟩
    exact Or.inr ⟨hn, p, o, y, z0, z2, r, hp, ho, g1, g2, g3, g4⟩
end

section
theorem tr_call {μx μm q z : Mem} {It : List Nat} {v b p o : Nat} {u0 : Nat} {mark : Int32} {Xs : List (Int64 × Nat)} {X : List Nat} (h : Tr7 μx μm It v) (hl : It.length < 300) (hc : Cl9 u0 mark Xs v b It.length μx q) (hb : ∀ l : Nat, (μx.1 43 b).toInt = (l : Int) → l < It.length) (hm : La7 11 mark true X p o It.length μm z) (hX : X = Xs.map Prod.snd) (h8 : Xs.length ≤ 8) (hx : ∀ (k : Nat) (x : Int64 × Nat), Xs[k]? = some x → Lo7 μm x.1 x.2) (hp : (μm.1 0 87).toInt = (p : Int)) (ho : (μm.1 0 88).toInt = (o : Int)) : Tr7 q z (It ++ [p]) v := by
  obtain ⟨w, ⟨_, c1, ck, ⟨j0, j1, j2, _, _, _, j6, _⟩, c40, c45, _, _, co⟩, qi, j7, _, _, ql, qx⟩ := hc
  have hXl : X.length = Xs.length := by rw [hX, List.length_map]
  obtain ⟨t1, t2, t3, t4, P, O, tP, tO, tb, tI⟩ := h
  obtain ⟨g1, g2, g3, g4, ⟨k1, k2, k3, k4, k5⟩, g6, g7, g8, _, _, _⟩ := hm
  have e1 : (1 : Int32).toInt = 1 := by decide
  have el : (It ++ [p]).length = It.length + 1 := by rw [List.length_append]; rfl
  have hPp : P = p := by omega
  have hOo : O = o := by omega
  subst hPp; subst hOo
  have q40 : ∀ j, j ≠ 8 * It.length + 7 → q.1 40 j = w.1 40 j := fun j hj => qi 40 j (by omega) (by omega)
  have qo : ∀ i k, i ≠ 40 → i ≠ 45 → q.1 i k = w.1 i k := fun i k h1 h2 => qi i k (by omega) (by omega)
  refine ⟨by rw [qo 39 1 (by decide) (by decide), c1, ti_add (by omega) (by omega), t1, e1, el]; omega, by rw [g3, el], by rw [el]; omega, ?_, P + 1, O + X.length, g1, g2, by rw [g8 _ _ (by decide) (by omega) (by omega)]; omega, fun i p2 hi => ?_⟩
  · rw [qi 45 _ (by omega) (by omega), c45, g4, t4, if_pos ⟨by decide, rfl⟩]; rfl
  · by_cases ei : i = It.length
    · subst ei
      rw [List.getElem?_append_right (Nat.le_refl _), Nat.sub_self] at hi
      have hi : P = p2 := Option.some.inj hi
      subst hi
      refine ⟨by omega, ⟨by rw [q40 _ (by omega), j0, k1], by rw [q40 _ (by omega), j1, k2, if_neg (by decide)]; exact t4, by rw [q40 _ (by omega), j2, k3], O, X.length, k4, k5, Nat.le_refl _, Or.inr ⟨k1, by omega, by rw [j7, hXl], fun k hk2 => ?_⟩⟩, v, by rw [q40 _ (by omega)]; exact j6, Nat.le_refl _, by rw [g8 _ _ (by decide) (by omega) (by omega)]; exact tb, fun e => absurd e (by omega)⟩
      obtain ⟨x, hxk⟩ : ∃ x, Xs[k]? = some x := ⟨Xs[k]'(by omega), List.getElem?_eq_getElem (by omega)⟩
      obtain ⟨m, a1, a2, a3⟩ := hx k x hxk
      obtain ⟨b1, b2⟩ := g6 k x.2 (by rw [hX, List.getElem?_map, hxk]; rfl)
      exact ⟨m, μm.1 31 x.2, a1, by rw [qx k x hxk]; exact a2, by rw [b1]; exact a3, b2⟩
    · have hil : i < It.length := by
        rcases Nat.lt_or_ge i It.length with e2 | e2
        · exact e2
        · rw [List.getElem?_eq_none (by rw [el]; omega)] at hi; cases hi
      rw [List.getElem?_append_left hil] at hi
      obtain ⟨a1, ⟨b1, b2, b3, f, m, b4, b5, b6, b7⟩, u, u1, u2, u3, u4⟩ := tI i p2 hi
      have s40 : ∀ k, k ≠ 5 → k < 8 → q.1 40 (8 * i + k) = μx.1 40 (8 * i + k) := by
        intro k hk5 hk8
        rw [q40 _ (by omega), c40 _ (by omega)]
        by_cases e : μx.1 43 b ≠ -1 ∧ 8 * i + k = 8 * (μx.1 43 b).toNatClampNeg + 5
        · omega
        · rw [if_neg e]
      have zi : ∀ j, j ≠ 0 → 46 ≤ j → j ≤ 52 → z.1 j p2 = μm.1 j p2 := fun j x0 x1 x2 => g8 j p2 x0 (by omega) (by omega)
      have opc : ∀ j k, (10 * i ≤ j ∧ j < 10 * i + 10) → k < O → Op7 μx μm j k → Op7 q z j k := fun j k hj hk2 hop => hop.cong (ql 41 j (by omega)) (g8 _ _ (by decide) (by omega) (by omega)) (g8 _ _ (by decide) (by omega) (by omega))
      refine ⟨by omega, ⟨by have := s40 0 (by decide) (by decide); rw [Nat.add_zero] at this; rw [this, zi 46 (by decide) (by decide) (by decide)]; exact b1, by rw [s40 1 (by decide) (by decide), zi 47 (by decide) (by decide) (by decide)]; exact b2, by rw [s40 2 (by decide) (by decide), zi 48 (by decide) (by decide) (by decide)]; exact b3, f, m, by rw [zi 51 (by decide) (by decide) (by decide)]; exact b4, by rw [zi 52 (by decide) (by decide) (by decide)]; exact b5, by omega, ?_⟩, u, by rw [s40 6 (by decide) (by decide)]; exact u1, u2, by rw [g8 _ _ (by decide) (by omega) (by omega)]; exact u3, fun hu => by rw [g8 _ _ (by decide) (by omega) (by omega)]; exact u4 hu⟩
      rw [zi 46 (by decide) (by decide) (by decide), s40 7 (by decide) (by decide)]
      rcases b7 with ⟨b7, b8, b9⟩ | ⟨b7, b8, b9, b10⟩
      · exact Or.inl ⟨b7, b8, fun k hk2 => opc _ _ (by omega) (by omega) (b9 k hk2)⟩
      · exact Or.inr ⟨b7, b8, b9, fun k hk2 => opc _ _ (by omega) (by omega) (b10 k hk2)⟩
theorem re_call {μx μm q z : Mem} {It Bk : List Nat} {cl : Nat → Prop} {v b a p o : Nat} {u0 : Nat} {mark : Int32} {Xs : List (Int64 × Nat)} {X : List Nat} (h : Re7 μx μm It Bk cl v b a) (hl : It.length < 300) (hc : Cl9 u0 mark Xs v b It.length μx q) (hm : La7 11 mark true X p o It.length μm z) (hX : X = Xs.map Prod.snd) (h8 : Xs.length ≤ 8) (hx : ∀ (k : Nat) (x : Int64 × Nat), Xs[k]? = some x → Lo7 μm x.1 x.2) (hp : (μm.1 0 87).toInt = (p : Int)) (ho : (μm.1 0 88).toInt = (o : Int)) : Re7 q z (It ++ [p]) (Bk ++ [b]) cl v b a := by
  obtain ⟨hT, hB, hC, ⟨s1, s2, s3, s4, s5, s6⟩, hb, ⟨m68, m69⟩, hS⟩ := h
  have hlast : ∀ l : Nat, (μx.1 43 b).toInt = (l : Int) → l < It.length := by
    intro l hl2
    have hne : μx.1 43 b ≠ -1 := by
      intro e; rw [e] at hl2
      have : (-1 : Int32).toInt = -1 := by decide
      omega
    obtain ⟨l2, e, hl3⟩ := cn_last hC s6 hne
    omega
  have hT2 := tr_call hT hl hc hlast hm hX h8 hx hp ho
  obtain ⟨w, hA, qi, j7, _, _, ql, qx⟩ := hc
  have q40 : ∀ j, j ≠ 8 * It.length + 7 → q.1 40 j = w.1 40 j := fun j hj => qi 40 j (by omega) (by omega)
  have qo : ∀ i k, i ≠ 40 → i ≠ 45 → q.1 i k = w.1 i k := fun i k h1 h2 => qi i k (by omega) (by omega)
  have hA' := hA
  obtain ⟨_, c1, ck, _, c40, c45, c42, c43, co⟩ := hA'
  obtain ⟨g1, g2, g3, g4, ⟨k1, k2, k3, k4, k5⟩, g6, g7, g8, _, g10, g11⟩ := hm
  have oth : ∀ i k, i ≠ 39 → i ≠ 40 → i ≠ 42 → i ≠ 43 → i ≠ 45 → q.1 i k = μx.1 i k := fun i k a1 a2 a3 a4 a5 => by rw [qo i k a2 a5]; exact co i k a1 a2 a3 a4 a5
  have r39 : ∀ k, k ≠ 1 → q.1 39 k = μx.1 39 k := fun k hk2 => by rw [qo 39 k (by decide) (by decide)]; exact ck k hk2
  have hC2 : Cn7 q (Bk ++ [b]) := by
    have := cn_add (Bk := Bk) (by rw [hB]; exact hA) hC s6 (by omega)
    intro b2 h2
    rw [qo 39 6 (by decide) (by decide)] at h2
    refine (this b2 h2).cong (qo 42 _ (by decide) (by decide)) (qo 43 _ (by decide) (by decide)) (fun i _ => q40 _ (by omega))
  have tp := tn_of hp
  have t1 := tn_of g1
  have to := tn_of ho
  have t2 := tn_of g2
  refine ⟨hT2, by rw [List.length_append, List.length_append, hB]; rfl, hC2, ⟨by rw [oth _ _ (by decide) (by decide) (by decide) (by decide) (by decide)]; exact s1, by rw [oth _ _ (by decide) (by decide) (by decide) (by decide) (by decide)]; exact s2, by rw [oth _ _ (by decide) (by decide) (by decide) (by decide) (by decide)]; exact s3, by rw [r39 _ (by decide)]; exact s4, s5, by rw [r39 _ (by decide)]; exact s6⟩, hb, ⟨by rw [g7 _ (by decide) (by decide) (by decide) (by decide)]; exact m68, by rw [g7 _ (by decide) (by decide) (by decide) (by decide)]; exact m69⟩, ?_⟩
  rw [t1, t2, bl_add, if_pos rfl]
  rw [tp, to] at hS
  obtain ⟨_, _, _, _, P, O, tP, tO, _, tI⟩ := hT
  have hS2 := hS.cong (it2 := fun i => (It ++ [p])[i]?) (kd2 := z.1 46) (d40 := q.1 40) (bl2 := Bl7 (Bk ++ [b])) (cl2 := cl) (f44 := q.2.1 44) (el2 := z.1 49) (en2 := z.1 50) (fr2 := z.1 51) (q53 := z.1 53) (q54 := z.1 54) (O2 := o + X.length) ?_ ?_ ?_ ?_ (by omega) ?_
  · rw [hB]
    exact Sg7.one (i := It.length) hS2 (by show (It ++ [p])[It.length]? = some p; rw [List.getElem?_append_right (Nat.le_refl _), Nat.sub_self]; rfl) (by show z.1 46 p ≠ 6; rw [k1]; decide)
  · intro i p2 hi
    have hi : It[i]? = some p2 := hi
    have hil : i < It.length := by
      rcases Nat.lt_or_ge i It.length with e2 | e2
      · exact e2
      · rw [List.getElem?_eq_none e2] at hi; cases hi
    show (It ++ [p])[i]? = some p2
    rw [List.getElem?_append_left hil]; exact hi
  · intro i p2 hi
    have hi : It[i]? = some p2 := hi
    have hil : i < It.length := by
      rcases Nat.lt_or_ge i It.length with e2 | e2
      · exact e2
      · rw [List.getElem?_eq_none e2] at hi; cases hi
    have cell : ∀ k, k = 3 ∨ k = 4 → q.1 40 (8 * i + k) = μx.1 40 (8 * i + k) := by
      intro k hk2
      rw [q40 _ (by omega), c40 _ (by omega), if_neg (fun e => by omega)]
    exact ⟨cell 3 (Or.inl rfl), cell 4 (Or.inr rfl)⟩
  · intro x2 hx2
    have hne : x2 ≠ b := fun e => hb (e ▸ hx2)
    refine ⟨by rw [bl_add, if_neg hne], ?_, hx2⟩
    exact ql 44 x2 (by omega)
  · intro f hf
    exact ⟨g8 53 f (by decide) (by omega) (by omega), g8 54 f (by decide) (by omega) (by omega)⟩
  · intro p2 hp2
    exact ⟨g8 46 p2 (by decide) (by omega) (by omega), g8 49 p2 (by decide) (by omega) (by omega), g8 50 p2 (by decide) (by omega) (by omega), g8 51 p2 (by decide) (by omega) (by omega)⟩
theorem Gw8.q2 {b B : Nat} {μx μm q q' z : Mem} {It Bk It2 Bk2 : List Nat} {cl cl2 : Nat → Prop} (g : Gw8 b B μx μm It Bk cl q' z It2 Bk2 cl2) (c40 : ∀ i k, k = 3 ∨ k = 4 → q.1 40 (8 * i + k) = q'.1 40 (8 * i + k)) (c44 : ∀ k, q.2.1 44 k = q'.2.1 44 k) : Gw8 b B μx μm It Bk cl q z It2 Bk2 cl2 := by
  obtain ⟨g1, g2, g3, g4, g5, g6⟩ := g
  refine ⟨g1, g2, fun b2 a p h1 h2 h3 h4 => ?_, fun x hx => ⟨(g4 x hx).1, fun hb => by rw [c44]; exact (g4 x hx).2 hb⟩, g5, g6⟩
  have := g3 b2 a p h1 h2 h3 h4
  unfold Sf8 at this ⊢
  exact this.cong (fun _ _ e => e) (fun i p _ => ⟨c40 i 3 (Or.inl rfl), c40 i 4 (Or.inr rfl)⟩) (fun x hx => ⟨rfl, c44 x, hx⟩) (fun _ _ => ⟨rfl, rfl⟩) (Nat.le_refl _) (fun _ _ => ⟨rfl, rfl, rfl, rfl⟩)
theorem gw_call {μx μm q z : Mem} {It Bk : List Nat} {cl : Nat → Prop} {v b a p o B u0 : Nat} {mark : Int32} {Xs : List (Int64 × Nat)} {X : List Nat} (h : Re7 μx μm It Bk cl v b a) (hl : It.length < 300) (hc : Cl9 u0 mark Xs v b It.length μx q) (hm : La7 11 mark true X p o It.length μm z) (hp : (μm.1 0 87).toInt = (p : Int)) (ho : (μm.1 0 88).toInt = (o : Int)) : Gw8 b B μx μm It Bk cl q z (It ++ [p]) (Bk ++ [b]) cl := by
  obtain ⟨w, hA, qi, j7, _, _, ql, qx⟩ := hc
  have hv : Lv7 11 mark 0 0 v b It.length μx (w.1, (fun i k => if i = 41 ∧ k = 10 * It.length + 1 then 0 else if i = 41 ∧ k = 10 * It.length then 0 else μx.2.1 i k), w.2.2) := ⟨w, hA, rfl, rfl, fun i k => rfl⟩
  refine (gw_lay h hl hv hm ⟨by decide, by decide⟩ hp ho).q2 (fun i k hk => qi 40 _ (by omega) (by omega)) (fun k => ?_)
  show q.2.1 44 k = (if 44 = 41 ∧ k = 10 * It.length + 1 then 0 else if 44 = 41 ∧ k = 10 * It.length then 0 else μx.2.1 44 k)
  rw [if_neg (by omega), if_neg (by omega)]
  exact ql 44 k (by omega)
end

section
def Fc9 (v h V : Nat) (μ q : Mem) : Prop := (∀ i k, ¬ (i = 137 ∧ (k = 14 ∨ k = 15)) → q.2.2 i k = μ.2.2 i k) ∧ (∀ i k, i < 141 → i ≠ 39 → i ≠ 40 → i ≠ 42 → i ≠ 43 → i ≠ 45 → i ≠ 47 + 3 * V → ¬ (i = 30 ∧ k = 7) → q.1 i k = μ.1 i k) ∧ (∀ k, k = 0 ∨ k = 3 ∨ k = 6 → q.1 39 k = μ.1 39 k) ∧ (∀ j, j < 4 * V → j % 4 ≠ 1 → j ≠ 4 * v + 2 → q.1 45 j = μ.1 45 j) ∧ ∀ i k, i < 141 → i ≠ 35 → i ≠ 41 → i ≠ 48 + 3 * V → i ≠ 49 + 3 * V → ¬ (i = 36 ∧ h ≤ k) → q.2.1 i k = μ.2.1 i k
def Fr9 (h p o V : Nat) (μ z : Mem) : Prop := z.2 = μ.2 ∧ (∀ k, k ≠ 56 → k ≠ 66 → k ≠ 87 → k ≠ 88 → k ≠ 89 → k ≠ 93 → k ≠ 96 → k ≠ 97 → k ≠ 110 → k ≠ 118 → z.1 0 k = μ.1 0 k) ∧ (∀ i k, i ≠ 0 → i ≠ 45 → i ≤ 66 → ¬ (30 ≤ i ∧ i ≤ 34) → ¬ (i = 40 ∧ h ≤ k) → ¬ ((46 ≤ i ∧ i ≤ 52) ∧ p ≤ k) → ¬ ((i = 53 ∨ i = 54) ∧ o ≤ k) → i ≠ 55 → i ≠ 56 → ¬ ((i = 57 ∨ i = 58 ∨ i = 59 ∨ i = 66) ∧ k = V) → ¬ ((i = 60 ∨ i = 61) ∧ 210 * V ≤ k) → z.1 i k = μ.1 i k) ∧ Gh7 μ z
theorem Fc9.rf {v h V : Nat} {μ : Mem} : Fc9 v h V μ μ := ⟨fun _ _ _ => rfl, fun _ _ _ _ _ _ _ _ _ _ => rfl, fun _ _ => rfl, fun _ _ _ _ => rfl, fun _ _ _ _ _ _ _ _ => rfl⟩
theorem Fr9.rf {h p o V : Nat} {μ : Mem} : Fr9 h p o V μ μ := ⟨rfl, fun _ _ _ _ _ _ _ _ _ _ _ => rfl, fun _ _ _ _ _ _ _ _ _ _ _ _ _ => rfl, Gh7.rf⟩
theorem Fc9.tr {v h V : Nat} {μ q z : Mem} (a : Fc9 v h V μ q) (b : Fc9 v h V q z) : Fc9 v h V μ z := ⟨fun i k c => (b.1 i k c).trans (a.1 i k c), fun i k c1 c2 c3 c4 c5 c6 c7 c8 => (b.2.1 i k c1 c2 c3 c4 c5 c6 c7 c8).trans (a.2.1 i k c1 c2 c3 c4 c5 c6 c7 c8), fun k c => (b.2.2.1 k c).trans (a.2.2.1 k c), fun j c1 c2 c3 => (b.2.2.2.1 j c1 c2 c3).trans (a.2.2.2.1 j c1 c2 c3), fun i k c1 c2 c3 c4 c5 c6 => (b.2.2.2.2 i k c1 c2 c3 c4 c5 c6).trans (a.2.2.2.2 i k c1 c2 c3 c4 c5 c6)⟩
theorem Fr9.tr {h p o p2 o2 V : Nat} {μ q z : Mem} (a : Fr9 h p o V μ q) (b : Fr9 h p2 o2 V q z) (hp : p ≤ p2) (ho : o ≤ o2) : Fr9 h p o V μ z := ⟨b.1.trans a.1, fun k c1 c2 c3 c4 c5 c6 c7 c8 c9 c0 => (b.2.1 k c1 c2 c3 c4 c5 c6 c7 c8 c9 c0).trans (a.2.1 k c1 c2 c3 c4 c5 c6 c7 c8 c9 c0), fun i k c1 c2 c3 c4 c5 c6 c7 c8 c9 c0 d1 => (b.2.2.1 i k c1 c2 c3 c4 c5 (fun e => c6 ⟨e.1, by omega⟩) (fun e => c7 ⟨e.1, by omega⟩) c8 c9 c0 d1).trans (a.2.2.1 i k c1 c2 c3 c4 c5 c6 c7 c8 c9 c0 d1), a.2.2.2.tr b.2.2.2⟩
theorem Ax9.fc {v h V : Nat} {μ q : Mem} (f : Ax9 μ q) : Fc9 v h V μ q := ⟨f.1, fun i k c1 c2 _ _ _ _ _ _ => f.2.1 i k (by omega) (by omega), fun k c => f.2.1 39 k (by decide) (by omega), fun j _ _ _ => f.2.1 45 j (by decide) (by omega), fun i k c1 c2 _ _ _ _ => f.2.2 i k c1 c2⟩
theorem Az9.gh {μ z : Mem} (f : Az9 μ z) : Gh7 μ z := gh_same (f.2 0 56 (by omega) (by decide) (by decide) (by omega)) (fun i k a b => f.2 i k (by omega) (by omega) (by omega) (by omega))
theorem Az9.fr {h p o V : Nat} {μ z : Mem} (f : Az9 μ z) : Fr9 h p o V μ z := ⟨f.1, fun k _ _ _ _ _ _ c7 c8 _ c0 => f.2 0 k (by omega) (by decide) (by decide) (by omega), fun i k c1 c2 c3 _ _ _ _ c8 _ _ _ => f.2 i k (by omega) c2 c8 (by omega), f.gh⟩
theorem Nv9.fc {v h V : Nat} {T : List Int64} {key parent st : Int32} {μ q : Mem} (f : Nv9 V T key parent st μ q) : Fc9 v h V μ q := ⟨fun i k _ => by rw [f.1], fun i k _ c2 _ _ _ c6 c7 _ => f.2.2.1 i k c2 c6 c7, fun k c => f.2.1.2 k (by omega), fun j c1 _ _ => f.2.2.2.2.1 j c1, fun i k _ _ _ c4 c5 _ => f.2.2.2.2.2.2 i k c4 c5⟩
theorem Nm9.gh {V L : Nat} {fi parent : Int32} {μ z : Mem} (f : Nm9 V L fi parent μ z) : Gh7 μ z := gh_same (f.2.2.1 0 56 (by omega) (by omega) (by omega)) (fun i k a b => f.2.2.1 i k (by omega) (by omega) (by omega))
theorem Nm9.fr {h p o V L : Nat} {fi parent : Int32} {μ z : Mem} (f : Nm9 V L fi parent μ z) : Fr9 h p o V μ z := ⟨f.1, fun k _ _ _ _ _ _ _ _ c9 _ => f.2.2.1 0 k (by omega) (by omega) (by omega), fun i k c1 _ _ _ _ _ _ _ _ c0 d1 => f.2.2.1 i k (by omega) c0 d1, f.gh⟩
theorem Lx9.fc {v h V : Nat} {μ q : Mem} (f : Lx9 v μ q) : Fc9 v h V μ q := ⟨fun i k _ => by rw [f.1], fun i k _ c2 c3 c4 c5 c6 _ _ => f.2.1 i k c2 c3 c4 c5 c6, fun k c => f.2.2.1 k (by omega), fun j _ _ c => f.2.2.2.1 j c, fun i k c1 _ c3 _ _ _ => f.2.2.2.2 i k c3 (by omega)⟩
theorem Lm9.fr {h p o V : Nat} {μ z : Mem} (f : Lm9 p o μ z) : Fr9 h p o V μ z := ⟨f.1, fun k c1 _ c3 c4 c5 c6 _ _ _ _ => f.2.1 k c1 c3 c4 c5 c6, fun i k c1 _ c3 c4 _ c6 c7 c8 c9 _ _ => f.2.2.1 i k c1 c4 c6 c7 c8 c9 (by omega), f.2.2.2.1⟩
theorem Cl9.fc {u v b n h V : Nat} {mark : Int32} {Xs : List (Int64 × Nat)} {μ q : Mem} (f : Cl9 u mark Xs v b n μ q) : Fc9 v h V μ q := by
  obtain ⟨w, ⟨w2, w1, wk, _, w40, w45, w42, w43, wo⟩, qi, j7, j8, qr, ql, qx⟩ := f
  refine ⟨fun i k _ => by rw [qr], fun i k c1 c2 c3 c4 c5 c6 _ _ => by rw [qi i k (by omega) (by omega)]; exact wo i k c2 c3 c4 c5 c6, fun k c => by rw [qi 39 k (by omega) (by omega)]; exact wk k (by omega), fun j c1 c2 c3 => by rw [qi 45 j (by omega) (by omega), w45, if_neg (fun e => c3 e.2)], fun i k _ _ c _ _ _ => ql i k (by omega)⟩
theorem push_fc {v h V : Nat} {μ : Mem} (x : Int64) (y : Int32) : Fc9 v h V μ (sF (sL μ 36 h x) 30 7 y) := ⟨fun _ _ _ => rfl, fun i k _ _ _ _ _ _ _ c => by rw [sF_at, if_neg c]; rfl, fun k _ => by rw [sF_i (by decide)]; rfl, fun j _ _ _ => by rw [sF_i (by decide)]; rfl, fun i k _ _ _ _ _ c => by show (sL μ 36 h x).2.1 i k = _; rw [sL_at, if_neg (fun e => c ⟨e.1, by omega⟩)]⟩
theorem La7.fr9 {h p o n V : Nat} {kind mark : Int32} {rg : Bool} {X : List Nat} {μ z : Mem} (f : La7 kind mark rg X p o n μ z) (hp : (μ.1 0 87).toInt = (p : Int)) (ho : (μ.1 0 88).toInt = (o : Int)) : Fr9 h p o V μ z := (f.fm hp ho).lm.fr
theorem Nn7.fr9 {h p o y V : Nat} {s b : Int32} {μ z : Mem} (f : Nn7 μ z y s b) : Fr9 h p o V μ z := by
  have g := f.2.2.2.2.2.2.2
  exact ⟨g.1, fun k c1 _ _ _ _ _ _ _ _ _ => g.2.2.1 k c1, fun i k c1 _ _ c4 _ _ _ _ _ _ _ => g.2.1 i k c1 c4, g.2.2.2⟩
theorem come_fr {h p o V : Nat} {μ : Mem} (x y : Int32) : Fr9 h p o V μ (sF (sF μ 40 h x) 0 66 y) := ⟨rfl, fun k _ c2 _ _ _ _ _ _ _ _ => by rw [sF_k c2, sF_i (by decide)], fun i k c1 _ _ _ c5 _ _ _ _ _ _ => by rw [sF_i c1, sF_at, if_neg (fun e => c5 ⟨e.1, by omega⟩)], gh_same (by rw [sF_k (by decide), sF_i (by decide)]) (fun i k a b => by rw [sF_i (by omega), sF_i (by omega)])⟩
theorem Fc9.gs {v h V : Nat} {μ q : Mem} (f : Fc9 v h V μ q) (hV : V ≤ 24) : Gs7 μ q := gs_same (f.2.1 30 5 (by decide) (by decide) (by decide) (by decide) (by decide) (by decide) (by omega) (by omega)) (fun k => f.2.2.2.2 31 k (by decide) (by decide) (by decide) (by omega) (by omega) (by omega)) (fun k => f.2.2.2.2 32 k (by decide) (by decide) (by decide) (by omega) (by omega) (by omega)) (fun k => f.2.1 33 k (by decide) (by decide) (by decide) (by decide) (by decide) (by decide) (by omega) (by omega)) (fun k => f.2.1 34 k (by decide) (by decide) (by decide) (by decide) (by decide) (by decide) (by omega) (by omega))
theorem W9.fin {P : Nat} {C : List Th3} {G : List Fn5} {v b a h h2 D m bc ob p o V : Nat} {N : List Int32} {μx μm q z : Mem} {It Bk It2 Bk2 : List Nat} {cl : Nat → Prop} (W : W9 P C G v b a h D N m bc ob μx μm It Bk cl) (hV24 : V ≤ 24) (hvV : v < V) (fx : Fc9 v h V μx q) (fm : Fr9 h p o V μm z) (hR : Re7 q z It2 Bk2 cl v b a) (hB : Bb7 q Bk2) (hS : Sk7 q z h2) (hPa : Pa7 q z G) (hbd : (q.1 39 6).toInt + (q.1 39 2).toInt ≤ (v : Int) + 2 + 2 * (It2.length : Int) + 2 * (ob : Int)) (hq : Cq9 q z It2) (hsu : Su5 q) (h4 : q.1 39 4 = z.1 0 96) (h5 : q.1 39 5 = z.1 0 97) : W9 P C G v b a h2 D N m bc ob q z It2 Bk2 cl := by
  have gx := fx.gs hV24
  obtain ⟨f1, f2, f3, f4, f5⟩ := fx
  obtain ⟨g1, g2, g3, g4⟩ := fm
  obtain ⟨⟨_, _, _, hVr, hN, ⟨d1, d2, d3, d4⟩, ⟨o1, o2, o3⟩, hm, ⟨u1, u2, u3⟩, hL, hA⟩, hP, _, hc, _, _, _⟩ := W
  have qi : ∀ i k, i < 141 → i ≠ 39 → i ≠ 40 → i ≠ 42 → i ≠ 43 → i ≠ 45 → (i < 47 ∨ 119 < i) → ¬ (i = 30 ∧ k = 7) → q.1 i k = μx.1 i k := fun i k c1 c2 c3 c4 c5 c6 c7 c8 => f2 i k c1 c2 c3 c4 c5 c6 (by omega) c8
  have z0 : ∀ k, k ≠ 56 → k ≠ 66 → k ≠ 87 → k ≠ 88 → k ≠ 89 → k ≠ 93 → k ≠ 96 → k ≠ 97 → k ≠ 110 → k ≠ 118 → z.1 0 k = μm.1 0 k := g2
  have zi : ∀ i k, i ≠ 0 → i < 45 → ¬ (30 ≤ i ∧ i ≤ 34) → i ≠ 40 → z.1 i k = μm.1 i k := fun i k c1 c2 c3 c4 => g3 i k c1 (by omega) (by omega) c3 (by omega) (by omega) (by omega) (by omega) (by omega) (by omega) (by omega)
  refine ⟨⟨hR, hB, hS, hVr.of gx g4 (fun k _ => f5 37 _ (by decide) (by decide) (by decide) (by omega) (by omega) (by omega)) (fun c _ => zi 41 _ (by decide) (by decide) (by omega) (by decide)), hN, ⟨by rw [qi 30 10 (by decide) (by decide) (by decide) (by decide) (by decide) (by decide) (by omega) (by omega)]; exact d1, by rw [z0 67 (by decide) (by decide) (by decide) (by decide) (by decide) (by decide) (by decide) (by decide) (by decide) (by decide)]; exact d2, by rw [z0 92 (by decide) (by decide) (by decide) (by decide) (by decide) (by decide) (by decide) (by decide) (by decide) (by decide)]; exact d3, d4⟩, ⟨by rw [qi 137 12 (by decide) (by decide) (by decide) (by decide) (by decide) (by decide) (by omega) (by omega)]; exact o1, by rw [qi 137 13 (by decide) (by decide) (by decide) (by decide) (by decide) (by decide) (by omega) (by omega)]; exact o2, by rw [z0 90 (by decide) (by decide) (by decide) (by decide) (by decide) (by decide) (by decide) (by decide) (by decide) (by decide)]; exact o3⟩, by rw [z0 65 (by decide) (by decide) (by decide) (by decide) (by decide) (by decide) (by decide) (by decide) (by decide) (by decide)]; exact hm, ⟨by rw [f3 3 (by omega), z0 91 (by decide) (by decide) (by decide) (by decide) (by decide) (by decide) (by decide) (by decide) (by decide) (by decide)]; exact u1, h4, h5⟩, fun k hk => by rw [qi 137 k (by decide) (by decide) (by decide) (by decide) (by decide) (by decide) (by omega) (by omega), zi 29 k (by decide) (by decide) (by omega) (by decide)]; exact hL k hk, by rw [z0 111 (by decide) (by decide) (by decide) (by decide) (by decide) (by decide) (by decide) (by decide) (by decide) (by decide), qi 137 7 (by decide) (by decide) (by decide) (by decide) (by decide) (by decide) (by omega) (by omega)]; exact hA⟩, ?_, hPa, fun x hx => by rw [f3 6 (by omega)]; exact hc x hx, hbd, hsu, hq⟩
  exact hP.of (f1 137 5 (by omega)) (fun i k a1 a2 => qi i k (by omega) (by omega) (by omega) (by omega) (by omega) (by omega) (by omega) (by omega)) (fun k hk => z0 k (by omega) (by omega) (by omega) (by omega) (by omega) (by omega) (by omega) (by omega) (by omega) (by omega)) (fun i k a1 a2 => zi i k (by omega) (by omega) (by omega) (by omega)) (bh_cong hP.2.2.2.2.2.2.2.2.2 (z0 18 (by decide) (by decide) (by decide) (by decide) (by decide) (by decide) (by decide) (by decide) (by decide) (by decide)) (fun k => zi 9 k (by decide) (by decide) (by omega) (by decide)) (fun k => zi 10 k (by decide) (by decide) (by omega) (by decide)))
theorem F9.fin {v b B h D n bc m p o V : Nat} {μx μm q z : Mem} {It Bk It2 Bk2 : List Nat} {cl : Nat → Prop} (g : Gw8 b B μx μm It Bk cl q z It2 Bk2 cl) (hV24 : V ≤ 24) (hV : (μx.1 39 2).toInt = (V : Int)) (hv2 : (μx.1 39 2).toInt ≤ (q.1 39 2).toInt) (hb : (q.1 39 2).toInt + 2 * (μx.1 39 1).toInt ≤ (μx.1 39 2).toInt + 2 * (q.1 39 1).toInt) (fx : Fc9 v h V μx q) (fm : Fr9 h p o V μm z) : F9 v b B h D n bc m μx μm It Bk cl q z It2 Bk2 cl := by
  have gx := fx.gs hV24
  obtain ⟨f1, f2, f3, f4, f5⟩ := fx
  obtain ⟨g1, g2, g3, g4⟩ := fm
  refine ⟨g, ⟨fun k hk => f5 36 k (by decide) (by decide) (by decide) (by omega) (by omega) (by omega), fun k hk => f5 37 k (by decide) (by decide) (by decide) (by omega) (by omega) (by omega), fun k _ => f2 38 k (by decide) (by decide) (by decide) (by decide) (by decide) (by decide) (by omega) (by omega), fun k _ => f2 138 k (by decide) (by decide) (by decide) (by decide) (by decide) (by decide) (by omega) (by omega), fun k _ => f5 139 k (by decide) (by decide) (by decide) (by omega) (by omega) (by omega), f1 137 5 (by omega), fun k => f5 140 k (by decide) (by decide) (by decide) (by omega) (by omega) (by omega)⟩, ⟨fun k hk => g3 40 k (by decide) (by decide) (by decide) (by omega) (by omega) (by omega) (by omega) (by decide) (by decide) (by omega) (by omega), fun k _ => g3 41 k (by decide) (by decide) (by decide) (by omega) (by omega) (by omega) (by omega) (by decide) (by decide) (by omega) (by omega), fun i k hi hk => g3 i k (by omega) (by omega) (by omega) (by omega) (by omega) (by omega) (by omega) (by omega) (by omega) (by omega) (by omega)⟩, ⟨gx, g4⟩, ⟨⟨hv2, by rw [f3 6 (by omega)]; exact Nat.le_refl _⟩, fun j c1 c2 c3 => f4 j (by omega) c2 c3, by rw [f3 6 (by omega)]; omega⟩, fun i k a1 a2 => g3 i k (by omega) (by omega) (by omega) (by omega) (by omega) (by omega) (by omega) (by omega) (by omega) (by omega) (by omega)⟩
end

section
theorem sel_142 : sel 1 142 = 142 := by decide +kernel
theorem sel_145 : sel 1 145 = 145 := by decide +kernel
theorem grw_mem : ∀ (f : Nat) {R : Rw9} {Y : List Int64}, ∀ p, p ∈ (grw f R Y).1 → ∃ p', p' ∈ R ∧ p.2 = p'.2 ∧ (p.1 = p'.1 ∨ p.1 = 17179869184) := by
  intro f
  induction f with
  | zero => intro R Y p hp; cases hp
  | succ f ih =>
    intro R Y p hp
    cases R with
    | nil => rw [grw_nil] at hp; cases hp
    | cons r R =>
      cases Y with
      | nil => cases hp
      | cons t Y =>
        have dm : ∀ x, x ∈ (r :: R).drop (bh9 (tks (r :: R)) 1) → x ∈ r :: R := fun x hx => List.mem_of_mem_drop hx
        by_cases hpp : r.1 = 8589934592 ∧ t = 8589934592
        · rw [grw_pp hpp] at hp
          rcases List.mem_cons.mp hp with e | e
          · exact ⟨r, List.mem_cons_self, by rw [e], Or.inl (by rw [e])⟩
          · obtain ⟨p', h1, h2⟩ := ih p e
            exact ⟨p', List.mem_cons_of_mem _ h1, h2⟩
        · by_cases hg : gn9 r.1 t = true
          · rw [grw_gn hpp hg] at hp
            rcases List.mem_cons.mp hp with e | e
            · exact ⟨r, List.mem_cons_self, by rw [e], Or.inr (by rw [e])⟩
            · obtain ⟨p', h1, h2⟩ := ih p e
              exact ⟨p', dm _ h1, h2⟩
          · rw [grw_no hpp hg] at hp
            rcases List.mem_append.mp hp with e | e
            · exact ⟨p, List.mem_of_mem_take e, rfl, Or.inl rfl⟩
            · obtain ⟨p', h1, h2⟩ := ih p e
              exact ⟨p', dm _ h1, h2⟩
def Rg9 (n : Nat) (R : Rw9) : Prop := R.length ≤ 200 ∧ Wf9 (tks R) n ∧ ∀ t, t ∈ tks R → Tk8 t
theorem Rg9.grw {n : Nat} {R : Rw9} {Y : List Int64} (h : Rg9 n R) (hY : Wf9 Y n) : Rg9 n (grw 200 R Y).1 ∧ hds n (grw 200 R Y).1 = hds n R := by
  obtain ⟨h1, h2, h3⟩ := h
  obtain ⟨w1, w2⟩ := grw_wf 200 h1 h2 hY
  refine ⟨⟨by omega, w1, fun t ht => ?_⟩, grw_hds h1 h2 hY⟩
  unfold tks at ht
  obtain ⟨p, hp, hpt⟩ := List.mem_map.mp ht
  obtain ⟨p', q1, q2, q3⟩ := grw_mem 200 p hp
  rw [← hpt]
  rcases q3 with e | e
  · rw [e]; exact h3 _ (List.mem_map.mpr ⟨p', q1, rfl⟩)
  · rw [e]; exact tk8_st
noncomputable def gch (mt : Nat → Bool) (Yf : Nat → List Int64) (par : Nat → Int32) : Nat → Int32 → Rw9 → Rw9 × Nat
  | 0, _, R => (R, 0)
  | n + 1, k, R => if k = -1 then (R, 0) else if mt k.toNatClampNeg = true then ((gch mt Yf par n (par k.toNatClampNeg) (grw 200 R (Yf k.toNatClampNeg)).1).1, (grw 200 R (Yf k.toNatClampNeg)).2 + (gch mt Yf par n (par k.toNatClampNeg) (grw 200 R (Yf k.toNatClampNeg)).1).2) else gch mt Yf par n (par k.toNatClampNeg) R
theorem gch_m1 {mt : Nat → Bool} {Yf : Nat → List Int64} {par : Nat → Int32} {n : Nat} {R : Rw9} : gch mt Yf par n (-1) R = (R, 0) := by
  cases n with
  | zero => rfl
  | succ n => rw [gch, if_pos rfl]
def Vc9 (V : Nat) (key : Int32) (mt : Nat → Bool) (Yf : Nat → List Int64) (par : Nat → Int32) (q : Mem) : Prop := (q.1 39 2).toInt = (V : Int) ∧ V ≤ 24 ∧ ∀ u, u < V → (q.1 (47 + 3 * u) 3 = key ↔ mt u = true) ∧ Py9 (47 + 3 * u) (Yf u) q ∧ q.1 45 (4 * u) = par u
def Vz9 (V : Nat) (fi : Int32) (mt : Nat → Bool) (Yf : Nat → List Int64) (par : Nat → Int32) (z : Mem) : Prop := (z.1 0 110).toInt = (V : Int) ∧ ∀ u, u < V → (z.1 57 u = fi ↔ mt u = true) ∧ (Qm9 (210 * u) (Yf u) z ∧ (z.1 58 u).toInt = ((Yf u).length : Int)) ∧ z.1 66 u = par u
def Vy9 (V n : Nat) (mt : Nat → Bool) (Yf : Nat → List Int64) (par : Nat → Int32) : Prop := ∀ u, u < V → (Yf u).length ≤ 200 ∧ (mt u = true → Wf9 (Yf u) n) ∧ (∀ t, t ∈ Yf u → Tk8 t) ∧ (par u = -1 ∨ (0 ≤ (par u).toInt ∧ (par u).toInt < (u : Int)))
theorem gch_rg {V n : Nat} {mt : Nat → Bool} {Yf : Nat → List Int64} {par : Nat → Int32} (hy : Vy9 V n mt Yf par) : ∀ (m : Nat) (k : Int32) (R : Rw9), (k = -1 ∨ (0 ≤ k.toInt ∧ k.toInt < (V : Int))) → Rg9 n R → Rg9 n (gch mt Yf par m k R).1 ∧ hds n (gch mt Yf par m k R).1 = hds n R ∧ ∀ p, p ∈ (gch mt Yf par m k R).1 → ∃ p', p' ∈ R ∧ p.2 = p'.2 := by
  intro m
  induction m with
  | zero => intro k R hk h; exact ⟨h, rfl, fun p hp => ⟨p, hp, rfl⟩⟩
  | succ m ih =>
    intro k R hk h
    by_cases c : k = -1
    · subst c; rw [gch_m1]; exact ⟨h, rfl, fun p hp => ⟨p, hp, rfl⟩⟩
    · have hk' := hk.resolve_left c
      have hkt : k.toNatClampNeg < V := by show k.toInt.toNat < V; omega
      obtain ⟨y1, y2, y3, y4⟩ := hy _ hkt
      have y4' : par k.toNatClampNeg = -1 ∨ (0 ≤ (par k.toNatClampNeg).toInt ∧ (par k.toNatClampNeg).toInt < (V : Int)) := by
        rcases y4 with e | e
        · exact Or.inl e
        · exact Or.inr ⟨e.1, by omega⟩
      rw [gch, if_neg c]
      by_cases cm : mt k.toNatClampNeg = true
      · rw [if_pos cm]
        obtain ⟨g1, g2⟩ := h.grw (y2 cm)
        obtain ⟨i1, i2, i3⟩ := ih _ _ y4' g1
        refine ⟨i1, i2.trans g2, fun p hp => ?_⟩
        obtain ⟨p', a1, a2⟩ := i3 p hp
        obtain ⟨p'', b1, b2, _⟩ := grw_mem 200 p' a1
        exact ⟨p'', b1, a2.trans b2⟩
      · rw [if_neg cm]
        exact ih _ _ y4' h
def Ch9 (pt ut : Nat) (key : Int32) (R : Rw9) (q : Mem) : Prop := ((pt = 142 ∧ ut = 145) ∨ (pt = 145 ∧ ut = 142)) ∧ sel 1 (q.2.2 137 14) = pt ∧ sel 1 (q.2.2 137 15) = ut ∧ Px9 pt R q ∧ q.1 pt 3 = key
theorem Ch9.su {pt ut : Nat} {key : Int32} {R : Rw9} {q : Mem} (h : Ch9 pt ut key R q) : Su5 q := by
  obtain ⟨h1, h2, h3, _⟩ := h
  rcases h1 with ⟨e, e2⟩ | ⟨e, e2⟩
  · exact Or.inl ⟨by rw [h2, e], by rw [h3, e2]⟩
  · exact Or.inr ⟨by rw [h2, e], by rw [h3, e2]⟩
theorem Ch9.ps {pt ut : Nat} {key : Int32} {R : Rw9} {q : Mem} (h : Ch9 pt ut key R q) : Ps9 pt ∧ Ps9 ut ∧ 142 ≤ pt ∧ 142 ≤ ut ∧ (pt + 3 ≤ ut ∨ ut + 3 ≤ pt) ∧ sel 1 pt = pt ∧ sel 1 ut = ut := by
  rcases h.1 with ⟨e, e2⟩ | ⟨e, e2⟩
  · subst e; subst e2; exact ⟨ps_142, ps_145, by omega, by omega, by omega, sel_142, sel_145⟩
  · subst e; subst e2; exact ⟨ps_145, ps_142, by omega, by omega, by omega, sel_145, sel_142⟩
theorem c_swap {pt ut : Nat} {key : Int32} {R R' : Rw9} {μ q : Mem} (h : Ch9 pt ut key R μ) (h2 : q.2.2 = μ.2.2) (hp : Px9 ut R' q) (hk : q.1 ut 3 = key) : pk (p_X10_swapCalls q) (fun r => Ch9 ut pt key R' r ∧ (∀ i k, ¬ (i = 137 ∧ (k = 14 ∨ k = 15)) → r.2.2 i k = q.2.2 i k) ∧ r.1 = q.1 ∧ r.2.1 = q.2.1) := by
  obtain ⟨_, _, _, _, _, s1, s2⟩ := h.ps
  rw [p_X10_swapCalls_eq, h2, h.2.1, h.2.2.1]
  refine pk_bvy (fun μ1 q1 => pk_bvy (fun μ2 q2 => pk_some ?_))
  have r : ∀ i k, μ2.2.2 i k = if i = 137 ∧ k = 15 then pt else if i = 137 ∧ k = 14 then ut else q.2.2 i k := by
    intro i k
    rw [q2, q1]
    show u2 (u2 q.2.2 137 14 ut) 137 15 pt i k = _
    unfold u2
    by_cases hi : i = 137 <;> by_cases h15 : k = 15 <;> by_cases h14 : k = 14 <;> simp [hi, h15, h14]
  have i1 : μ2.1 = q.1 := by rw [q2, q1]; rfl
  have l1 : μ2.2.1 = q.2.1 := by rw [q2, q1]; rfl
  refine ⟨⟨?_, ?_, ?_, hp.cong (by rw [i1]) (fun i k _ => by rw [l1]), by rw [i1]; exact hk⟩, fun i k hk => by rw [r, if_neg (by omega), if_neg (by omega), h2], i1, l1⟩
  · rcases h.1 with ⟨e, e2⟩ | ⟨e, e2⟩
    · exact Or.inr ⟨e2, e⟩
    · exact Or.inl ⟨e2, e⟩
  · rw [r, if_neg (by omega), if_pos ⟨rfl, rfl⟩]; exact s2
  · rw [r, if_pos ⟨rfl, rfl⟩]; exact s1
def Gc9 (c : Nat) (μ q : Mem) : Prop := (∀ i k, ¬ (i = 137 ∧ (k = 14 ∨ k = 15)) → q.2.2 i k = μ.2.2 i k) ∧ (∀ i k, i < 142 → ¬ (i = 39 ∧ k = 4) → q.1 i k = μ.1 i k) ∧ q.1 39 4 = μ.1 39 4 + Int32.ofNat c ∧ ∀ i k, i < 141 → i ≠ 35 → q.2.1 i k = μ.2.1 i k
theorem Gc9.tr {c d : Nat} {μ q z : Mem} (h : Gc9 c μ q) (h2 : Gc9 d q z) : Gc9 (c + d) μ z := by
  refine ⟨fun i k a => (h2.1 i k a).trans (h.1 i k a), fun i k a b => (h2.2.1 i k a b).trans (h.2.1 i k a b), ?_, fun i k a b => (h2.2.2.2 i k a b).trans (h.2.2.2 i k a b)⟩
  rw [h2.2.2.1, h.2.2.1, Int32.add_assoc, ← Int32.ofNat_add]
theorem Gc9.rf {μ : Mem} : Gc9 0 μ μ := ⟨fun _ _ _ => rfl, fun _ _ _ _ => rfl, by show _ = _ + (0 : Int32); rw [Int32.add_zero], fun _ _ _ _ => rfl⟩
theorem Gc9.ax {c : Nat} {μ q : Mem} (h : Gc9 c μ q) : Ax9 μ q := ⟨h.1, fun i k a b => h.2.1 i k a (by omega), h.2.2.2⟩
theorem Vc9.of {V : Nat} {key : Int32} {mt : Nat → Bool} {Yf : Nat → List Int64} {par : Nat → Int32} {μ q : Mem} (h : Vc9 V key mt Yf par μ) (f : Ax9 μ q) : Vc9 V key mt Yf par q := by
  obtain ⟨h1, h2, h3⟩ := h
  refine ⟨by rw [f.2.1 39 2 (by decide) (by omega)]; exact h1, h2, fun u hu => ?_⟩
  obtain ⟨a1, a2, a3⟩ := h3 u hu
  exact ⟨by rw [f.2.1 (47 + 3 * u) 3 (by omega) (by omega)]; exact a1, a2.cong (f.2.1 (47 + 3 * u) 2 (by omega) (by omega)) (fun k => f.2.2 (47 + 3 * u + 1) k (by omega) (by omega)), by rw [f.2.1 45 _ (by decide) (by omega)]; exact a3⟩
theorem c_patternOf {μ : Mem} {u : Nat} {a : Int32} (ha : a.toInt = (u : Int)) (hu : u < 24) : pk (p_X5_patternOf a μ) (fun r => r.1 = 47 + 3 * u ∧ r.2 = μ) := by
  have e23 : (23 : Int32).toInt = 23 := by decide
  have h1 : (imin a 23).toInt = (u : Int) := by
    unfold imin
    split
    · next c => rw [ti_lt, e23, ha] at c; omega
    · exact ha
  have h2 := imax0 h1
  rw [p_X5_patternOf_eq, tn_of h2, ptc_lt hu]
  exact pk_gd (fun _ => pk_some ⟨rfl, rfl⟩)
theorem ofNat_ti {r : Int32} {c : Nat} (h : r.toInt = (c : Int)) (hc : c < 2147483648) : r = Int32.ofNat c := ti_eq.mpr (by rw [h]; exact (Int32.toInt_ofNat_of_lt hc).symm)
theorem grw_cnt : ∀ (f : Nat) {R : Rw9} {Y : List Int64}, (grw f R Y).2 ≤ f := by
  intro f
  induction f with
  | zero => intro R Y; exact Nat.le_refl _
  | succ f ih =>
    intro R Y
    cases R with
    | nil => rw [grw_nil]; exact Nat.zero_le _
    | cons r R =>
      cases Y with
      | nil => exact Nat.zero_le _
      | cons t Y =>
        by_cases hpp : r.1 = 8589934592 ∧ t = 8589934592
        · rw [grw_pp hpp]; exact Nat.le_succ_of_le ih
        · by_cases hg : gn9 r.1 t = true
          · rw [grw_gn hpp hg]; exact Nat.succ_le_succ ih
          · rw [grw_no hpp hg]; exact Nat.le_succ_of_le ih
theorem c_chain {V n : Nat} {key : Int32} {mt : Nat → Bool} {Yf : Nat → List Int64} {par : Nat → Int32} (hy : Vy9 V n mt Yf par) : ∀ (m f : Nat) (k a4 : Int32) (pt ut : Nat) (R : Rw9) (q : Mem), m ≤ 24 → (k = -1 ∨ (0 ≤ k.toInt ∧ k.toInt < (m : Int))) → k.toInt < (V : Int) → a4.toInt = 24 - (m : Int) → Rg9 n R → Ch9 pt ut key R q → Vc9 V key mt Yf par q → pk (p_X10_shapeCall_b57 f key k a4 q) (fun q' => ∃ pt' ut', Ch9 pt' ut' key (gch mt Yf par m k R).1 q' ∧ Gc9 (gch mt Yf par m k R).2 q q') := by
  have e24 : (24 : Int32).toInt = 24 := by decide
  have em : (-1 : Int32).toInt = -1 := by decide
  have e0 : (0 : Int32).toInt = ((0 : Nat) : Int) := by decide
  intro m
  induction m with
  | zero =>
    intro f k a4 pt ut R q hm hk hkV h4 hR hc hv
    have hk1 : k = -1 := by
      rcases hk with e | e
      · exact e
      · omega
    cases f with
    | zero => intro r e; rw [p_X10_shapeCall_b57_z] at e; exact absurd e (by simp)
    | succ f =>
      rw [p_X10_shapeCall_b57_s, if_pos (by rw [ti_le, e24, h4]; omega)]
      exact pk_some ⟨pt, ut, hc, Gc9.rf⟩
  | succ m ih =>
    intro f k a4 pt ut R q hm hk hkV h4 hR hc hv
    cases f with
    | zero => intro r e; rw [p_X10_shapeCall_b57_z] at e; exact absurd e (by simp)
    | succ f =>
      rw [p_X10_shapeCall_b57_s, if_neg (by rw [ti_le, e24, h4]; omega)]
      by_cases c : k = -1
      · subst c
        rw [if_pos rfl, gch_m1]
        exact pk_some ⟨pt, ut, hc, Gc9.rf⟩
      · rw [if_neg c]
        have hk' := hk.resolve_left c
        obtain ⟨u, hu⟩ : ∃ u : Nat, k.toInt = (u : Int) := ⟨k.toInt.toNat, by omega⟩
        have hku : k.toNatClampNeg = u := tn_of hu
        have huV : u < V := by omega
        obtain ⟨y1, y2, y3, y4⟩ := hy u huV
        obtain ⟨v1, v2, v3⟩ := hv
        have hv : Vc9 V key mt Yf par q := ⟨v1, v2, v3⟩
        obtain ⟨w1, w2, w3⟩ := v3 u huV
        refine pk_bd (c_patternOf hu (by omega)) ?_
        rintro r11 μ10 ⟨g1, g2⟩
        have g1 : r11 = 47 + 3 * u := g1
        have g2 : μ10 = q := g2
        rw [g1, g2, hc.2.1, hc.2.2.1]
        have pk1 : par u = -1 ∨ (0 ≤ (par u).toInt ∧ (par u).toInt < (m : Int)) := by
          rcases y4 with e | e
          · exact Or.inl e
          · exact Or.inr ⟨e.1, by omega⟩
        have pkV : (par u).toInt < (V : Int) := by
          rcases y4 with e | e
          · rw [e, em]; omega
          · omega
        have a4' : (a4 + 1).toInt = 24 - (m : Int) := by
          have e1 : (1 : Int32).toInt = 1 := by decide
          rw [ti_add (by omega) (by omega), h4, e1]; omega
        have nx : ∀ (pt ut : Nat) (R' : Rw9) (μ : Mem), Rg9 n R' → Ch9 pt ut key R' μ → Vc9 V key mt Yf par μ → pk (p_X10_shapeCall_b117 (p_X10_shapeCall_b57 f) key k a4 μ) (fun q' => ∃ pt' ut', Ch9 pt' ut' key (gch mt Yf par m (par u) R').1 q' ∧ Gc9 (gch mt Yf par m (par u) R').2 μ q') := by
          intro pt ut R' μ hR' hc' hv'
          rw [p_X10_shapeCall_b117_eq]
          refine pk_bd (c_ofVt (u := u) (c := 0) hu e0 hv'.1 huV v2 (by omega)) ?_
          rintro r14 μ13 ⟨g3, g4⟩
          have g3 : r14 = μ.1 45 (4 * u) := g3
          have g4 : μ13 = μ := g4
          rw [g4, g3, (hv'.2.2 u huV).2.2]
          exact pk_bvs (ih f (par u) (a4 + 1) pt ut R' μ (by omega) pk1 pkV a4' hR' hc' hv')
        refine pk_ite (fun ck => ?_) (fun ck => ?_)
        · have cm := w1.mp ck
          obtain ⟨p1, p2, p3, p4, p5, p6, p7⟩ := hc.ps
          refine pk_bd (c_grow (pt := pt) (qt := 47 + 3 * u) (ut := ut) (by omega) p5 (by omega) p1 p2 hR.2.2 y3 hR.1 y1 hc.2.2.2.1 w2) ?_
          rintro r17 μ16 ⟨b1, ⟨b2, b3⟩, b4, b5, b6⟩
          have b1 : r17.toInt = ((grw 200 R (Yf u)).2 : Int) := b1
          have b2 : μ16.1 ut 3 = q.1 pt 3 := b2
          have b3 : ∀ i k, i ≠ ut → μ16.1 i k = q.1 i k := b3
          have b4 : Px9 ut (grw 200 R (Yf u)).1 μ16 := b4
          have b5 : μ16.2.2 = q.2.2 := b5
          have b6 : ∀ i k, i ≠ ut + 1 → i ≠ ut + 2 → μ16.2.1 i k = q.2.1 i k := b6
          have hcn := grw_cnt 200 (R := R) (Y := Yf u)
          refine pk_bvy (fun μ18 q18 => ?_)
          have i18 : ∀ i k, ¬ (i = 39 ∧ k = 4) → μ18.1 i k = μ16.1 i k := fun i k h => by rw [q18, sF_at, if_neg h]
          have r18 : μ18.2 = μ16.2 := by rw [q18]; rfl
          refine pk_bw (c_swap (R' := (grw 200 R (Yf u)).1) hc (by rw [r18, b5]) (b4.cong (i18 _ _ (by omega)) (fun i k _ => by rw [r18])) (by rw [i18 _ _ (by omega), b2]; exact hc.2.2.2.2)) (fun μ19 h19 => ?_)
          obtain ⟨x1, x2, x3, x4⟩ := h19
          have gc : Gc9 (grw 200 R (Yf u)).2 q μ19 := by
            refine ⟨fun i k hk => by rw [x2 i k hk, r18, b5], fun i k c1 c2 => by rw [x3, i18 i k c2, b3 i k (by omega)], ?_, fun i k c1 c2 => by rw [x4, r18, b6 i k (by omega) (by omega)]⟩
            rw [x3, q18, sF_v, ofNat_ti b1 (by omega)]
          obtain ⟨g1', _⟩ := hR.grw (y2 cm)
          refine pk_mono (nx ut pt (grw 200 R (Yf u)).1 μ19 g1' x1 (hv.of gc.ax)) ?_
          rintro q' ⟨pt', ut', e1, e2⟩
          refine ⟨pt', ut', ?_, ?_⟩
          · rw [gch, if_neg c, hku, if_pos cm]; exact e1
          · rw [gch, if_neg c, hku, if_pos cm]; exact gc.tr e2
        · have cm : ¬ mt u = true := fun e => ck (w1.mpr e)
          refine pk_mono (nx pt ut R q hR hc hv) ?_
          rintro q' ⟨pt', ut', e1, e2⟩
          refine ⟨pt', ut', ?_, ?_⟩
          · rw [gch, if_neg c, hku, if_neg cm]; exact e1
          · rw [gch, if_neg c, hku, if_neg cm]; exact e2
theorem Vz9.of {V : Nat} {fi : Int32} {mt : Nat → Bool} {Yf : Nat → List Int64} {par : Nat → Int32} {μ z : Mem} {c : Nat} (h : Vz9 V fi mt Yf par μ) (f : Go9 c μ z) : Vz9 V fi mt Yf par z := by
  refine ⟨by rw [f.2.2 0 110 (by omega) (by omega)]; exact h.1, fun u hu => ?_⟩
  obtain ⟨a1, ⟨a2, a2'⟩, a3⟩ := h.2 u hu
  exact ⟨by rw [f.2.2 57 u (by omega) (by omega)]; exact a1, ⟨a2.of (fun i l hi => f.2.2 i l (by omega) (by omega)), by rw [f.2.2 58 u (by omega) (by omega)]; exact a2'⟩, by rw [f.2.2 66 u (by omega) (by omega)]; exact a3⟩
theorem m_chain {V n : Nat} {fi many : Int32} {mt : Nat → Bool} {Yf : Nat → List Int64} {par : Nat → Int32} {Q : Mem → Prop} (hV24 : V ≤ 24) (hy : Vy9 V n mt Yf par) : ∀ (m f : Nat) (k : Int32) (R : Rw9) (z : Mem), (k = -1 ∨ (0 ≤ k.toInt ∧ k.toInt < (m : Int))) → k.toInt < (V : Int) → Rg9 n R → Pm9 R z → Vz9 V fi mt Yf par z → (∀ f' z', Pm9 (gch mt Yf par m k R).1 z' → Go9 (gch mt Yf par m k R).2 z z' → pk (p_X12_leaveCall_b10 (f' + 1) fi many (-1) z') Q) → pk (p_X12_leaveCall_b10 f fi many k z) Q := by
  have em : (-1 : Int32).toInt = -1 := by decide
  have gz : ∀ z : Mem, Go9 0 z z := fun z => ⟨rfl, by show _ = _ + (0 : Int32); rw [Int32.add_zero], fun _ _ _ _ => rfl⟩
  intro m
  induction m with
  | zero =>
    intro f k R z hk hkV hR hP hv hQ
    have hk1 : k = -1 := by
      rcases hk with e | e
      · exact e
      · omega
    subst hk1
    cases f with
    | zero => intro r e; rw [p_X12_leaveCall_b10_z] at e; exact absurd e (by simp)
    | succ f => exact hQ f z hP (gz z)
  | succ m ih =>
    intro f k R z hk hkV hR hP hv hQ
    cases f with
    | zero => intro r e; rw [p_X12_leaveCall_b10_z] at e; exact absurd e (by simp)
    | succ f =>
      by_cases c : k = -1
      · subst c
        rw [gch_m1] at hQ
        exact hQ f z hP (gz z)
      · have hk' := hk.resolve_left c
        obtain ⟨u, hu⟩ : ∃ u : Nat, k.toInt = (u : Int) := ⟨k.toInt.toNat, by omega⟩
        have hku : k.toNatClampNeg = u := tn_of hu
        have huV : u < V := by omega
        obtain ⟨y1, y2, y3, y4⟩ := hy u huV
        obtain ⟨w1, ⟨w2, w2'⟩, w3⟩ := hv.2 u huV
        have pk1 : par u = -1 ∨ (0 ≤ (par u).toInt ∧ (par u).toInt < (m : Int)) := by
          rcases y4 with e | e
          · exact Or.inl e
          · exact Or.inr ⟨e.1, by omega⟩
        have pkV : (par u).toInt < (V : Int) := by
          rcases y4 with e | e
          · rw [e, em]; omega
          · omega
        rw [gch, if_neg c, hku] at hQ
        rw [p_X12_leaveCall_b10_s, if_neg c, hku]
        refine pk_gd (fun _ => pk_ite (fun ck => ?_) (fun ck => ?_))
        · have cm := w1.mp ck
          rw [if_pos cm] at hQ
          refine pk_bw (m_grow (v := u) (n := n) hR.1 y1 (by omega) hu hP w2 hR.2.1 (y2 cm)) (fun μ46 h46 => ?_)
          obtain ⟨g1, g2⟩ := h46
          obtain ⟨g1', _⟩ := hR.grw (y2 cm)
          have hv2 := hv.of g2
          rw [p_X12_leaveCall_b30_eq, hku, (hv2.2 u huV).2.2]
          exact pk_gd (fun _ => pk_bvs (ih f (par u) _ μ46 pk1 pkV g1' g1 hv2 (fun f' z' x1 x2 => hQ f' z' x1 (g2.tr x2))))
        · have cm : ¬ mt u = true := fun e => ck (w1.mpr e)
          rw [if_neg cm] at hQ
          rw [p_X12_leaveCall_b30_eq, hku, w3]
          exact pk_gd (fun _ => pk_bvs (ih f (par u) R z pk1 pkV hR hP hv hQ))
end
