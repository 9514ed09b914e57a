section
theorem Re7.of2 {μx μm q z : Mem} {It Bk : List Nat} {cl : Nat → Prop} {v b a : Nat} (h : Re7 μx μm It Bk cl v b a) (c39 : ∀ k, k = 1 ∨ k = 2 ∨ k = 6 → q.1 39 k = μx.1 39 k) (c1 : ∀ i k, i = 40 ∨ i = 42 ∨ i = 43 ∨ i = 45 → q.1 i k = μx.1 i k) (c2 : ∀ k, k = 6 ∨ k = 7 ∨ k = 8 → q.1 137 k = μx.1 137 k) (c3 : ∀ i k, i = 41 ∨ i = 44 → q.2.1 i k = μx.2.1 i k) (f0 : ∀ k, k = 68 ∨ k = 69 ∨ k = 87 ∨ k = 88 ∨ k = 89 ∨ k = 93 → z.1 0 k = μm.1 0 k) (f : ∀ i k, 46 ≤ i → i ≤ 63 → i ≠ 55 → i ≠ 56 → z.1 i k = μm.1 i k) : Re7 q z It Bk cl v b a := by
  obtain ⟨⟨t1, t2, t3, t4, P, O, tP, tO, tb, tI⟩, hB, hC, ⟨s1, s2, s3, s4, s5, s6⟩, hb, ⟨m68, m69⟩, hS⟩ := h
  have d391 : q.1 39 1 = μx.1 39 1 := c39 1 (by omega)
  have d392 : q.1 39 2 = μx.1 39 2 := c39 2 (by omega)
  have d396 : q.1 39 6 = μx.1 39 6 := c39 6 (by omega)
  have d40 : ∀ k, q.1 40 k = μx.1 40 k := fun k => c1 40 k (by omega)
  refine ⟨⟨by rw [d391]; exact t1, by rw [f0 89 (by omega)]; exact t2, t3, by rw [c1 45 _ (by omega), f0 93 (by omega)]; exact t4, P, O, by rw [f0 87 (by omega)]; exact tP, by rw [f0 88 (by omega)]; exact tO, by rw [f 62 v (by decide) (by decide) (by decide) (by decide)]; exact tb, fun i p hi => ?_⟩, hB, fun b2 h2 => ?_, ⟨by rw [c2 6 (by omega)]; exact s1, by rw [c2 7 (by omega)]; exact s2, by rw [c2 8 (by omega)]; exact s3, by rw [d392]; exact s4, s5, by rw [d396]; exact s6⟩, hb, ⟨by rw [f0 68 (by omega)]; exact m68, by rw [f0 69 (by omega)]; exact m69⟩, ?_⟩
  · obtain ⟨a1, ⟨b1, b2, b3, f', m, b4, b5, b6, b7⟩, u, u1, u2, u3, u4⟩ := tI i p hi
    have fo : ∀ j k, Op7 μx μm j k → Op7 q z j k := fun j k ho => ho.cong (c3 41 j (by omega)) (f 53 k (by decide) (by decide) (by decide) (by decide)) (f 54 k (by decide) (by decide) (by decide) (by decide))
    refine ⟨a1, ⟨by rw [d40, f 46 p (by decide) (by decide) (by decide) (by decide)]; exact b1, by rw [d40, f 47 p (by decide) (by decide) (by decide) (by decide)]; exact b2, by rw [d40, f 48 p (by decide) (by decide) (by decide) (by decide)]; exact b3, f', m, by rw [f 51 p (by decide) (by decide) (by decide) (by decide)]; exact b4, by rw [f 52 p (by decide) (by decide) (by decide) (by decide)]; exact b5, b6, ?_⟩, u, by rw [d40]; exact u1, u2, by rw [f 62 u (by decide) (by decide) (by decide) (by decide)]; exact u3, fun hu => by rw [f 63 u (by decide) (by decide) (by decide) (by decide)]; exact u4 hu⟩
    rw [f 46 p (by decide) (by decide) (by decide) (by decide), d40]
    rcases b7 with ⟨b7, b8, b9⟩ | ⟨b7, b8, b9, b10⟩
    · exact Or.inl ⟨b7, b8, fun k hk2 => fo _ _ (b9 k hk2)⟩
    · exact Or.inr ⟨b7, b8, b9, fun k hk2 => fo _ _ (b10 k hk2)⟩
  · rw [d396] at h2
    exact (hC b2 h2).cong (c1 42 _ (by omega)) (c1 43 _ (by omega)) (fun i _ => d40 _)
  · rw [f0 87 (by omega), f0 88 (by omega)]
    exact hS.cong (fun _ _ e => e) (fun _ _ _ => ⟨d40 _, d40 _⟩) (fun x hx => ⟨rfl, c3 44 x (by omega), hx⟩) (fun k _ => ⟨f 53 k (by decide) (by decide) (by decide) (by decide), f 54 k (by decide) (by decide) (by decide) (by decide)⟩) (Nat.le_refl _) (fun p _ => ⟨f 46 p (by decide) (by decide) (by decide) (by decide), f 49 p (by decide) (by decide) (by decide) (by decide), f 50 p (by decide) (by decide) (by decide) (by decide), f 51 p (by decide) (by decide) (by decide) (by decide)⟩)
def Ff9 (μ q : Mem) : Prop := q.2.2 = μ.2.2 ∧ (∀ i k, ¬ (i = 30 ∧ k = 10) → ¬ (i = 39 ∧ k = 3) → i ≠ 38 → ¬ (i = 137 ∧ k = 9) → q.1 i k = μ.1 i k) ∧ ∀ i k, i ≠ 37 → q.2.1 i k = μ.2.1 i k
def Fg9 (m : Nat) (μ z : Mem) : Prop := ∀ i k, ¬ (i = 0 ∧ (k = 65 ∨ k = 67 ∨ k = 91 ∨ k = 92)) → ¬ ((37 ≤ i ∧ i ≤ 39) ∧ m ≤ k) → i ≠ 41 → z.1 i k = μ.1 i k
theorem W9.fr {P : Nat} {C : List Th3} {G : List Fn5} {v b a h D D2 m m0 m2 bc ob : Nat} {N N2 : List Int32} {μx μm q z : Mem} {It Bk : List Nat} {cl : Nat → Prop} (W : W9 P C G v b a h D N m bc ob μx μm It Bk cl) (fx : Ff9 μx q) (fm : Fg9 m0 μm z) (hD : (q.1 30 10).toInt = (D2 : Int)) (h67 : (z.1 0 67).toInt = ((14 * D2 : Nat) : Int)) (h92 : (z.1 0 92).toInt = (D2 : Int)) (hD2 : D2 ≤ 12) (h39 : q.1 39 3 = z.1 0 91) (hV : Vr7 q z D2 N2) (hN : ∀ c, c ∈ N2 → isVa c = true) (hm : (z.1 0 65).toInt = (m2 : Int)) : W9 P C G v b a h D2 N2 m2 bc ob q z It Bk cl := by
  obtain ⟨q3, q1, q2⟩ := fx
  obtain ⟨⟨hR, hB, hS, _, _, _, ⟨o1, o2, o3⟩, _, ⟨_, u2, u3⟩, hL, hA⟩, hP, hPa, hc, hb, hs, hq⟩ := W
  have z0 : ∀ k, k ≠ 65 → k ≠ 67 → k ≠ 91 → k ≠ 92 → z.1 0 k = μm.1 0 k := fun k a1 a2 a3 a4 => fm 0 k (by omega) (by omega) (by decide)
  have z1 : ∀ i k, i ≠ 0 → ¬ (37 ≤ i ∧ i ≤ 39) → i ≠ 41 → z.1 i k = μm.1 i k := fun i k a1 a2 a3 => fm i k (by omega) (by omega) a3
  have gx : Gs7 μx q := gs_same (q1 30 5 (by decide) (by decide) (by decide) (by decide)) (fun k => q2 31 k (by decide)) (fun k => q2 32 k (by decide)) (fun k => q1 33 k (by omega) (by omega) (by omega) (by omega)) (fun k => q1 34 k (by omega) (by omega) (by omega) (by omega))
  have gz : Gh7 μm z := gh_same (z0 56 (by decide) (by decide) (by decide) (by decide)) (fun i k a1 a2 => z1 i k (by omega) (by omega) (by omega))
  have k137 : ∀ k, k ≠ 9 → q.1 137 k = μx.1 137 k := fun k hk => q1 137 k (by omega) (by omega) (by omega) (by omega)
  have k39 : ∀ k, k ≠ 3 → q.1 39 k = μx.1 39 k := fun k hk => q1 39 k (by omega) (by omega) (by omega) (by omega)
  refine ⟨⟨hR.of2 (fun k hk => k39 k (by omega)) (fun i k hi => q1 i k (by omega) (by omega) (by omega) (by omega)) (fun k hk => k137 k (by omega)) (fun i k hi => q2 i k (by omega)) (fun k hk => z0 k (by omega) (by omega) (by omega) (by omega)) (fun i k a1 a2 _ _ => z1 i k (by omega) (by omega) (by omega)), fun x hx => by rw [k39 6 (by decide)]; exact hB x hx, hS.of gx gz (q1 30 7 (by decide) (by decide) (by decide) (by decide)) (z0 66 (by decide) (by decide) (by decide) (by decide)) (fun k _ => q2 36 k (by decide)) (fun k _ => z1 40 k (by decide) (by decide) (by decide)), hV, hN, ⟨hD, h67, h92, hD2⟩, ⟨by rw [k137 12 (by decide)]; exact o1, by rw [k137 13 (by decide)]; exact o2, by rw [z0 90 (by decide) (by decide) (by decide) (by decide)]; exact o3⟩, hm, ⟨h39, by rw [k39 4 (by decide), z0 96 (by decide) (by decide) (by decide) (by decide)]; exact u2, by rw [k39 5 (by decide), z0 97 (by decide) (by decide) (by decide) (by decide)]; exact u3⟩, fun k hk => by rw [k137 k (by omega), z1 29 k (by decide) (by decide) (by decide)]; exact hL k hk, by rw [z0 111 (by decide) (by decide) (by decide) (by decide), k137 7 (by decide)]; exact hA⟩, hP.of (by rw [q3]) (fun i k a1 a2 => q1 i k (by omega) (by omega) (by omega) (by omega)) (fun k hk => z0 k (by omega) (by omega) (by omega) (by omega)) (fun i k a1 a2 => z1 i k (by omega) (by omega) (by omega)) (bh_cong hP.2.2.2.2.2.2.2.2.2 (z0 18 (by decide) (by decide) (by decide) (by decide)) (fun k => z1 9 k (by decide) (by decide) (by decide)) (fun k => z1 10 k (by decide) (by decide) (by decide))), hPa.of (k39 2 (by decide)) (fun i k a1 a2 => ⟨q1 i k (by omega) (by omega) (by omega) (by omega), q2 i k (by omega)⟩) (fun u => q1 45 _ (by omega) (by omega) (by omega) (by omega)) (z0 110 (by decide) (by decide) (by decide) (by decide)) (fun i k hi => z1 i k (by omega) (by omega) (by omega)) (fun u _ => q1 45 _ (by omega) (by omega) (by omega) (by omega)) (z0 111 (by decide) (by decide) (by decide) (by decide)), fun x hx => by rw [k39 6 (by decide)]; exact hc x hx, by rw [k39 6 (by decide), k39 2 (by decide)]; exact hb, hs.of q3, fun u hu => ?_⟩
  rw [k39 2 (by decide), q1 45 _ (by omega) (by omega) (by omega) (by omega), hq u hu]
  unfold Ct9
  have e46 : z.1 46 = μm.1 46 := funext (fun k => z1 46 k (by decide) (by decide) (by decide))
  have e48 : z.1 48 = μm.1 48 := funext (fun k => z1 48 k (by decide) (by decide) (by decide))
  rw [e46, e48]
theorem F9.fr {v b B h D n bc m m0 : Nat} {μx μm q z : Mem} {It Bk : List Nat} {cl : Nat → Prop} (fx : Ff9 μx q) (fm : Fg9 m0 μm z) (hm : m ≤ m0) (l37 : ∀ k, k < 32 * D + n → q.2.1 37 k = μx.2.1 37 k) (l38 : ∀ k, k ≤ D → q.1 38 k = μx.1 38 k) (l41 : ∀ k, k < 14 * D + 14 → z.1 41 k = μm.1 41 k) : F9 v b B h D n bc m μx μm It Bk cl q z It Bk cl := by
  obtain ⟨q3, q1, q2⟩ := fx
  have z0 : ∀ k, k ≠ 65 → k ≠ 67 → k ≠ 91 → k ≠ 92 → z.1 0 k = μm.1 0 k := fun k a1 a2 a3 a4 => fm 0 k (by omega) (by omega) (by decide)
  have z1 : ∀ i k, i ≠ 0 → ¬ (37 ≤ i ∧ i ≤ 39) → i ≠ 41 → z.1 i k = μm.1 i k := fun i k a1 a2 a3 => fm i k (by omega) (by omega) a3
  have k39 : ∀ k, k ≠ 3 → q.1 39 k = μx.1 39 k := fun k hk => q1 39 k (by omega) (by omega) (by omega) (by omega)
  have gx : Gs7 μx q := gs_same (q1 30 5 (by decide) (by decide) (by decide) (by decide)) (fun k => q2 31 k (by decide)) (fun k => q2 32 k (by decide)) (fun k => q1 33 k (by omega) (by omega) (by omega) (by omega)) (fun k => q1 34 k (by omega) (by omega) (by omega) (by omega))
  have gz : Gh7 μm z := gh_same (z0 56 (by decide) (by decide) (by decide) (by decide)) (fun i k a1 a2 => z1 i k (by omega) (by omega) (by omega))
  refine ⟨Gw8.same ⟨fun k => q1 40 k (by omega) (by omega) (by omega) (by omega), fun k => q2 44 k (by decide), ⟨z0 87 (by decide) (by decide) (by decide) (by decide), z0 88 (by decide) (by decide) (by decide) (by decide)⟩, fun i k a b => z1 i k (by omega) (by omega) (by omega)⟩, ⟨fun k _ => q2 36 k (by decide), l37, l38, fun k _ => q1 138 k (by omega) (by omega) (by omega) (by omega), fun k _ => q2 139 k (by decide), by rw [q3], fun k => q2 140 k (by decide)⟩, ⟨fun k _ => z1 40 k (by decide) (by decide) (by decide), l41, fun i k hi hk => fm i k (by omega) (by omega) (by omega)⟩, ⟨gx, gz⟩, ⟨⟨by rw [k39 2 (by decide)]; exact Int.le_refl _, by rw [k39 6 (by decide)]; exact Nat.le_refl _⟩, fun j _ _ _ => q1 45 _ (by omega) (by omega) (by omega) (by omega), by rw [k39 2 (by decide), k39 6 (by decide), k39 1 (by decide)]; exact Int.le_refl _⟩, fun i k a b => z1 i k (by omega) (by omega) (by omega)⟩
def Of9 (n h D : Nat) (at0 : Int32) (μ q : Mem) : Prop := q.2.2 = μ.2.2 ∧ (q.1 30 7).toInt = (h : Int) ∧ (∀ i k, ¬ (i = 30 ∧ (k = 7 ∨ k = 10)) → ¬ (i = 38 ∧ k = D + 1) → q.1 i k = μ.1 i k) ∧ (q.1 30 10).toInt = ((D + 1 : Nat) : Int) ∧ q.1 38 (D + 1) = at0 ∧ (∀ i k, i ≠ 37 → q.2.1 i k = μ.2.1 i k) ∧ (∀ k, k < 32 * (D + 1) → q.2.1 37 k = μ.2.1 37 k) ∧ ∀ k, k < n → q.2.1 37 (32 * (D + 1) + k) = μ.2.1 36 (h + k)
theorem c_openFrame {μ : Mem} {n h D : Nat} {a1 a2 : Int32} (ha : a1.toInt = (n : Int)) (hn : n ≤ 5) (h7 : (μ.1 30 7).toInt = ((h + n : Nat) : Int)) (h10 : (μ.1 30 10).toInt = (D : Int)) (hD : D ≤ 12) : pk (p_X8_openFrame a1 a2 μ) (Of9 n h D a2 μ) := by
  have e1 : (1 : Int32).toInt = 1 := by decide
  have em : (-1 : Int32).toInt = -1 := by decide
  have e0 : (0 : Int32).toInt = 0 := by decide
  have e31 : (31 : Int32).toInt = 31 := by decide
  have d1 : (μ.1 30 10 + 1).toInt = ((D + 1 : Nat) : Int) := by rw [ti_add (by omega) (by omega), h10, e1]; omega
  rw [p_X8_openFrame_eq, if_pos (by rw [ti_lt, d1, e31]; omega)]
  refine pk_bvs ?_
  have hw : ((sF μ 30 10 (μ.1 30 10 + 1)).1 30 10).toInt = ((D + 1 : Nat) : Int) := by rw [sF_v]; exact d1
  rw [tn_of hw]
  refine pk_gd (fun _ => pk_bvs ?_)
  rw [p_X8_bindArguments_eq]
  have loop : ∀ (l : Nat) (f : Nat) (a3 : Int32) (z : Mem), l ≤ n → a3.toInt = (l : Int) - 1 → z.2.2 = μ.2.2 → (z.1 30 7).toInt = ((h + l : Nat) : Int) → (∀ i k, ¬ (i = 30 ∧ (k = 7 ∨ k = 10)) → ¬ (i = 38 ∧ k = D + 1) → z.1 i k = μ.1 i k) → (z.1 30 10).toInt = ((D + 1 : Nat) : Int) → z.1 38 (D + 1) = a2 → (∀ i k, i ≠ 37 → z.2.1 i k = μ.2.1 i k) → (∀ k, k < 32 * (D + 1) → z.2.1 37 k = μ.2.1 37 k) → (∀ k, l ≤ k → k < n → z.2.1 37 (32 * (D + 1) + k) = μ.2.1 36 (h + k)) → pk (p_X8_bindArguments_b4 f a3 z) (Of9 n h D a2 μ) := by
    intro l
    induction l with
    | zero =>
      intro f a3 z hl h3 y1 y2 y3 y4 y5 y6 y7 y8
      cases f with
      | zero => intro r e; rw [p_X8_bindArguments_b4_z] at e; exact absurd e (by simp)
      | succ f =>
        rw [p_X8_bindArguments_b4_s]
        refine pk_ite (fun _ => pk_some ⟨y1, y2, y3, y4, y5, y6, y7, fun k hk => y8 k (by omega) hk⟩) (fun c => ?_)
        rw [ti_lt, h3, e0] at c; omega
    | succ l ih =>
      intro f a3 z hl h3 y1 y2 y3 y4 y5 y6 y7 y8
      cases f with
      | zero => intro r e; rw [p_X8_bindArguments_b4_z] at e; exact absurd e (by simp)
      | succ f =>
        rw [p_X8_bindArguments_b4_s]
        have h3' : a3.toInt = (l : Int) := by rw [h3]; omega
        refine pk_ite (fun c => ?_) (fun c => ?_)
        · rw [ti_lt, h3, e0] at c; omega
        refine pk_bd (c_pop (h := h + l) y2) (fun r μ15 hr => ?_)
        obtain ⟨hr1, hr2⟩ := hr
        have hr1 : r = z.2.1 36 (h + l) := hr1
        have hr2 : μ15 = sF z 30 7 (z.1 30 7 - 1) := hr2
        rw [hr1, hr2]
        refine pk_bw (c_setVar (D := D + 1) (s := l) _ (by rw [sF_k (by decide)]; exact y4) h3' (by omega)) (fun q hq => ?_)
        have q1 : ∀ i k, q.1 i k = (sF z 30 7 (z.1 30 7 - 1)).1 i k := fun i k => by rw [hq]; rfl
        have q2 : ∀ i k, q.2.1 i k = if i = 37 ∧ k = 32 * (D + 1) + l then z.2.1 36 (h + l) else z.2.1 i k := fun i k => by rw [hq, sL_at]; rfl
        have q3 : q.2.2 = z.2.2 := by rw [hq]; rfl
        have hz := ti_hi (z.1 30 7)
        refine pk_bvs (ih f _ q (by omega) ?_ (q3.trans y1) ?_ (fun i k a1 a2 => ?_) ?_ ?_ (fun i k a1 => ?_) (fun k a1 => ?_) (fun k a1 a2 => ?_))
        · rw [ti_add (by rw [em]; omega) (by rw [em]; omega), em, h3']; omega
        · rw [q1, sF_v, ti_sub (by rw [y2, e1]; omega) (by rw [y2, e1]; omega), y2, e1]; omega
        · rw [q1, sF_at, if_neg (by omega)]; exact y3 i k a1 a2
        · rw [q1, sF_k (by decide)]; exact y4
        · rw [q1, sF_i (by decide)]; exact y5
        · rw [q2, if_neg (by omega)]; exact y6 i k a1
        · rw [q2, if_neg (by omega)]; exact y7 k a1
        · by_cases c2 : k = l
          · subst c2
            rw [q2, if_pos ⟨rfl, rfl⟩]; exact y6 36 _ (by decide)
          · rw [q2, if_neg (by omega)]; exact y8 k (by omega) a2
  have fin : ∀ q, Of9 n h D a2 μ q → pk (some q) (Of9 n h D a2 μ) := fun q hq => pk_some hq
  refine pk_bw (P := Of9 n h D a2 μ) (pk_bvy (fun v1 q1 => loop n FUEL v1 _ (Nat.le_refl _) ?_ rfl ?_ (fun i k a1 a2 => ?_) ?_ ?_ (fun i k a1 => rfl) (fun k a1 => rfl) (fun k a1 a2 => absurd a2 (by omega)))) fin
  · rw [q1, ti_sub (by omega) (by omega), ha, e1]
  · rw [sF_i (by decide), sF_k (by decide)]; exact h7
  · rw [sF_at, if_neg a2, sF_at, if_neg (by omega)]
  · rw [sF_i (by decide), sF_v]; exact d1
  · rw [sF_v]
end

section
theorem Vr5.at {F : Nat} {μ : Mem} : ∀ {N1 N2 : List Int32} {x : Int32}, Vr5 F μ (N1 ++ x :: N2) → μ.1 13 (5 * F + N2.length) = x - 109 := by
  intro N1
  induction N1 with
  | nil => intro N2 x h; exact h.1
  | cons y N1 ih => intro N2 x h; exact ih h.2
def Em9 (m D t : Nat) (z y : Mem) : Prop := (∀ i k, ¬ (i = 0 ∧ (k = 65 ∨ k = 67)) → ¬ ((37 ≤ i ∧ i ≤ 39) ∧ m ≤ k) → i ≠ 41 → y.1 i k = z.1 i k) ∧ (y.1 0 67).toInt = ((14 * (D + 1) : Nat) : Int) ∧ (y.1 0 65).toInt = ((m + 2 : Nat) : Int) ∧ (y.1 37 m = 5 ∧ y.1 37 (m + 1) = 0 ∧ (y.1 38 (m + 1)).toInt = (t : Int)) ∧ ∀ k, k < 14 * D + 14 → y.1 41 k = z.1 41 k
theorem m_enter {z q : Mem} {G G1 G2 : List Fn5} {f : Fn5} {n D m : Nat} {a1 : Int32} (hG : G = G1 ++ f :: G2) (hP : Pn5 z G) (va : ∀ c, c ∈ f.2.1 → isVa c = true) (ha : a1.toInt = (G2.length : Int)) (h67 : (z.1 0 67).toInt = ((14 * D : Nat) : Int)) (hD : D ≤ 12) (h65 : (z.1 0 65).toInt = (m : Int)) (hn : f.2.1.length = n) (hv : ∀ k, k < n → ∃ x w d, (z.1 45 k).toInt = ((x : Nat) : Int) ∧ Va7 q z (q.2.1 37 (32 * (D + 1) + k)) x w d ∧ w ≤ 40) : pk (p_X12_enter a1 z) (fun y => Em9 m D (tot G2) z y ∧ Vr7 q y (D + 1) f.2.1) := by
  have e1 : (1 : Int32).toInt = 1 := by decide
  have e5 : (5 : Int32).toInt = 5 := by decide
  have e14 : (14 : Int32).toInt = 14 := by decide
  have e0 : (0 : Int32).toInt = 0 := by decide
  have hK := hP.2.2
  rw [hG] at hK
  obtain ⟨⟨_, r3, r4, r5, _, _⟩, hn5, _⟩ := hK.tail
  have r3 : (z.1 3 G2.length).toInt = (f.2.1.length : Int) := r3
  have r4 : Vr5 G2.length (shf z) f.2.1 := r4
  have r5 : (z.1 5 G2.length).toInt = (tot G2 : Int) := r5
  rw [hn] at r3 hn5
  rw [p_X12_enter_eq]
  have loop : ∀ (l : Nat) (j : Nat) (fu : Nat) (a3 : Int32) (y : Mem) (N1 N2 : List Int32), j + l = n → a3.toInt = (j : Int) → f.2.1 = N1 ++ N2 → N2.length = j → (∀ i k, ¬ (i = 0 ∧ k = 67) → i ≠ 41 → y.1 i k = z.1 i k) → (y.1 0 67).toInt = ((14 * (D + 1) : Nat) : Int) → (∀ k, k < 14 * D + 14 → y.1 41 k = z.1 41 k) → Vr7 q y (D + 1) N2 → pk (p_X12_enter_b13 fu a1 a3 y) (fun y => Em9 m D (tot G2) z y ∧ Vr7 q y (D + 1) f.2.1) := by
    intro l
    induction l with
    | zero =>
      intro j fu a3 y N1 N2 hj h3 hN hN2 y1 y2 y3 y4
      cases fu with
      | zero => intro r e; rw [p_X12_enter_b13_z] at e; exact absurd e (by simp)
      | succ fu =>
        have hN1 : N1 = [] := by
          have := congrArg List.length hN
          rw [List.length_append, hN2, hn] at this
          exact List.eq_nil_of_length_eq_zero (by omega)
        have hN : f.2.1 = N2 := by rw [hN, hN1]; rfl
        rw [p_X12_enter_b13_s, tn_of ha, y1 3 _ (by omega) (by decide)]
        refine pk_gd (fun _ => pk_ite (fun _ => ?_) (fun c => ?_))
        · refine pk_bw (m_push 5 0 0 (by rw [y1 0 65 (by omega) (by decide)]; exact h65)) (fun ya hya => ?_)
          obtain ⟨hya, hm6⟩ := hya
          have ka : ∀ i k, i ≠ 0 → ¬ (37 ≤ i ∧ i ≤ 39) → ya.1 i k = y.1 i k := fun i k c1 c2 => by rw [hya, sF_i c1, sF_i (by omega), sF_i (by omega), sF_i (by omega)]
          have ka0 : ∀ k, k ≠ 65 → ya.1 0 k = y.1 0 k := fun k c1 => by rw [hya, sF_k c1, sF_i (by decide), sF_i (by decide), sF_i (by decide)]
          have ka65 : (ya.1 0 65).toInt = ((m + 1 : Nat) : Int) := by
            have := y1 0 65 (by omega) (by decide)
            rw [hya, sF_v, this, ti_add (by omega) (by omega), h65, e1]; omega
          have kam : ∀ i k, 37 ≤ i → i ≤ 39 → k < m → ya.1 i k = y.1 i k := fun i k c1 c2 c3 => by
            rw [hya, sF_i (by omega), sF_at, if_neg (by omega), sF_at, if_neg (by omega), sF_at, if_neg (by omega)]
          have ka37 : ya.1 37 m = 5 := by rw [hya, sF_i (by decide), sF_i (by decide), sF_i (by decide), sF_v]
          refine pk_gd (fun _ => pk_bw (m_push 0 _ 0 ka65) (fun yb hyb => pk_some ?_))
          obtain ⟨hyb, hm7⟩ := hyb
          have kb : ∀ i k, i ≠ 0 → ¬ (37 ≤ i ∧ i ≤ 39) → yb.1 i k = ya.1 i k := fun i k c1 c2 => by rw [hyb, sF_i c1, sF_i (by omega), sF_i (by omega), sF_i (by omega)]
          have kb0 : ∀ k, k ≠ 65 → yb.1 0 k = ya.1 0 k := fun k c1 => by rw [hyb, sF_k c1, sF_i (by decide), sF_i (by decide), sF_i (by decide)]
          have kbm : ∀ i k, 37 ≤ i → i ≤ 39 → k < m + 1 → yb.1 i k = ya.1 i k := fun i k c1 c2 c3 => by
            rw [hyb, sF_i (by omega), sF_at, if_neg (by omega), sF_at, if_neg (by omega), sF_at, if_neg (by omega)]
          refine ⟨⟨fun i k c1 c2 c3 => ?_, by rw [kb0 67 (by decide), ka0 67 (by decide)]; exact y2, by rw [hyb, sF_v, ti_add (by omega) (by omega), ka65, e1]; omega, ⟨by rw [kbm 37 m (by decide) (by decide) (by omega)]; exact ka37, by rw [hyb, sF_i (by decide), sF_i (by decide), sF_i (by decide), sF_v], ?_⟩, fun k hk => by rw [kb 41 k (by decide) (by omega), ka 41 k (by decide) (by omega)]; exact y3 k hk⟩, ?_⟩
          · by_cases c4 : i = 0
            · subst c4
              rw [kb0 k (by omega), ka0 k (by omega)]; exact y1 0 k (by omega) c3
            · by_cases c5 : 37 ≤ i ∧ i ≤ 39
              · rw [kbm i k c5.1 c5.2 (by omega), kam i k c5.1 c5.2 (by omega)]; exact y1 i k (by omega) c3
              · rw [kb i k c4 c5, ka i k c4 c5]; exact y1 i k (by omega) c3
          · rw [hyb, sF_i (by decide), sF_i (by decide), sF_v, ka 5 _ (by decide) (by omega), y1 5 _ (by omega) (by decide)]; exact r5
          · rw [hN]
            refine y4.of Gs7.rf (gh_same (by rw [kb0 56 (by decide), ka0 56 (by decide)]) (fun i k c1 c2 => by rw [kb i k (by omega) (by omega), ka i k (by omega) (by omega)])) (fun _ _ => rfl) (fun x hx => by rw [kb 41 _ (by decide) (by omega), ka 41 _ (by decide) (by omega)])
        · rw [ti_le, r3, h3] at c; omega
    | succ l ih =>
      intro j fu a3 y N1 N2 hj h3 hN hN2 y1 y2 y3 y4
      cases fu with
      | zero => intro r e; rw [p_X12_enter_b13_z] at e; exact absurd e (by simp)
      | succ fu =>
        have hl1 : N1.length = l + 1 := by
          have := congrArg List.length hN
          rw [List.length_append, hN2, hn] at this; omega
        have hne : N1 ≠ [] := fun e => by rw [e] at hl1; exact absurd hl1 (by simp)
        have hsp := List.dropLast_concat_getLast hne
        generalize N1.getLast hne = x at hsp
        generalize N1.dropLast = N3 at hsp
        have hN' : f.2.1 = N3 ++ x :: N2 := by rw [hN, ← hsp]; simp
        have hxv : isVa x = true := va x (by rw [hN']; simp)
        obtain ⟨k, hk, hk2, hk3⟩ := va_109 hxv
        have r4' := r4
        rw [hN'] at r4'
        have nm : z.1 4 (5 * G2.length + N2.length) = x - 109 := r4'.at
        rw [hN2] at nm
        rw [p_X12_enter_b13_s, tn_of ha, y1 3 _ (by omega) (by decide)]
        refine pk_gd (fun g73 => pk_ite (fun c => ?_) (fun c => ?_))
        · rw [ti_le, r3, h3] at c; omega
        have g73 := inb_iff.mp g73
        have m5 : ((5 : Int32) * a1).toInt = 5 * (G2.length : Int) := by
          rw [ti_mul (by rw [e5, ha]; omega) (by rw [e5, ha]; omega), e5, ha]
        have m5j : ((5 : Int32) * a1 + a3).toInt = ((5 * G2.length + j : Nat) : Int) := by
          rw [ti_add (by omega) (by omega), m5, h3]; omega
        rw [tn_of m5j, y1 4 _ (by omega) (by decide), nm]
        have ix : (y.1 0 67 + (x - 109)).toInt = ((14 * (D + 1) + k : Nat) : Int) := by rw [ti_add (by omega) (by omega), y2, hk2]; omega
        rw [tn_of ix, tn_of h3]
        obtain ⟨xx, w, d, v1, v2, v3⟩ := hv j (by omega)
        have h45 : y.1 45 j = z.1 45 j := y1 45 j (by omega) (by decide)
        refine pk_gd (fun _ => pk_gd (fun _ => pk_gd (fun _ => pk_bvs (pk_bvs (ih (j + 1) fu _ _ N3 (x :: N2) (by omega) (by rw [ti_add (by omega) (by omega), h3, e1]; omega) hN' (by rw [List.length_cons, hN2]) ?_ ?_ ?_ ?_)))))
        · intro i l2 c1 c2
          rw [sF_i c2]; exact y1 i l2 c1 c2
        · rw [sF_i (by decide)]; exact y2
        · intro l2 c1
          rw [sF_k (by omega)]; exact y3 l2 c1
        · refine Vr7.bind (x := xx) (w := w) (d := d) y4 (fun c hc => va c (by rw [hN']; simp [hc])) hxv Gs7.rf (gh_F (by omega) (by omega)) (fun _ _ => rfl) (fun l2 c1 => by rw [sF_k (by rw [hk3] at c1; exact c1)]) (by rw [hk3, sF_v, h45]; exact v1) ?_ v3
          rw [hN2]
          exact v2.gr Gs7.rf (gh_same (by rw [sF_i (by decide)]; exact y1 0 56 (by omega) (by decide)) (fun i l2 c1 c2 => by rw [sF_i (by omega)]; exact y1 i l2 (by omega) (by omega)))
  have t1 : (z.1 0 67 + 14).toInt = ((14 * (D + 1) : Nat) : Int) := by rw [ti_add (by omega) (by omega), h67, e14]; omega
  refine pk_bvs (loop n 0 FUEL 0 _ f.2.1 [] (by omega) e0 (by simp) rfl (fun i k c1 c2 => by rw [sF_at, if_neg c1]) (by rw [sF_v]; exact t1) (fun k hk => by rw [sF_i (by decide)]) (fun a ha => by cases ha))
end

section
theorem key_uniq {G G1 G2 H1 H2 : List Fn5} {f g : Fn5} (hK : Kw (G.map fkey)) (e1 : G = G1 ++ f :: G2) (e2 : G = H1 ++ g :: H2) (hk : fkey f = fkey g) : f = g ∧ G2 = H2 := by
  have hp := List.pairwise_iff_getElem.mp hK.1
  have a1 : (G.map fkey)[G1.length]? = some (fkey f) := by rw [e1]; simp
  have a2 : (G.map fkey)[H1.length]? = some (fkey g) := by rw [e2]; simp
  obtain ⟨l1, b1⟩ := List.getElem?_eq_some_iff.mp a1
  obtain ⟨l2, b2⟩ := List.getElem?_eq_some_iff.mp a2
  have hl : G1.length = H1.length := by
    rcases Nat.lt_trichotomy G1.length H1.length with h | h | h
    · exact absurd (b1.trans (hk.trans b2.symm)) (hp _ _ l1 l2 h)
    · exact h
    · exact absurd (b2.trans (hk.symm.trans b1.symm)) (hp _ _ l2 l1 h)
  obtain ⟨_, e3⟩ := List.append_inj (e1.symm.trans e2) hl
  injection e3 with x y
  exact ⟨x, y⟩
theorem c_workIn {P : Nat} {G G1 G2 : List Fn5} {f : Fn5} {q0 : Mem} {key a2 : Int32} {n h D : Nat} {B : Mem → Prop} {k : Int32 → Mem → Option Mem} (hsel : sel 2 (q0.2.2 137 5) = P) (hG : G = G1 ++ f :: G2) (hK : Kw (G.map fkey)) (hKt : Kt P (G.map fkey) q0) (hF : Fs5 P G q0) (ha : key.toInt = (ky (fkey f) : Int)) (ha2 : a2.toInt = (n : Int)) (hn : n ≤ 5) (h7 : (q0.1 30 7).toInt = ((h + n : Nat) : Int)) (h10 : (q0.1 30 10).toInt = (D : Int)) (hD : D ≤ 12) (h13 : (q0.1 137 13).toInt = 0) (hu : (D : Int) < (q0.1 137 0).toInt) (h6 : q0.1 137 6 = 0) (hk : ∀ q, (200 ≤ (q0.1 39 3).toInt ∧ q.1 137 6 = -3 ∧ q.2.2 = q0.2.2) ∨ ((q0.1 39 3).toInt < 200 ∧ ∃ q8 r2, r2.toInt = (f.2.2.2 : Int) ∧ Of9 n h D (q0.1 137 9) (sF q0 39 3 (q0.1 39 3 + 1)) q8 ∧ q = sF q8 137 9 r2) → pk (k 1 q) B) : pk (bd (p_X10_workCall key a2 q0) k) B := by
  have e0 : (0 : Int32).toInt = 0 := by decide
  have em : (-1 : Int32).toInt = -1 := by decide
  have e200 : (200 : Int32).toInt = 200 := by decide
  rw [p_X10_workCall_eq, hsel, bd_bd]
  refine pk_bd (c_start hG hK hKt hF ha) ?_
  rintro r2 μ1 ⟨g1, g2⟩
  have g1 : μ1 = q0 := g1
  have g2 : r2.toInt = (f.2.2.2 : Int) := g2
  rw [g1, if_neg (fun c => by rw [c, em] at g2; omega), if_neg (by rw [ti_lt, e0]; omega), if_pos (by rw [ti_lt, h10]; exact hu)]
  by_cases c : q0.1 39 3 < 200
  · rw [if_pos c]
    rw [ti_lt, e200] at c
    have c1 : (sF q0 39 3 (q0.1 39 3 + 1)).1 137 9 = q0.1 137 9 := by rw [sF_i (by decide)]
    show pk (bd (bw (p_X8_openFrame a2 ((sF q0 39 3 (q0.1 39 3 + 1)).1 137 9) (sF q0 39 3 (q0.1 39 3 + 1))) (fun μ8 => bv (sF μ8 137 9 r2) (fun μ10 => some ((1 : Int32), μ10)))) k) B
    rw [c1]
    have ho := c_openFrame (μ := sF q0 39 3 (q0.1 39 3 + 1)) (a2 := q0.1 137 9) (h := h) (D := D) ha2 hn (by rw [sF_i (by decide)]; exact h7) (by rw [sF_i (by decide)]; exact h10) hD
    cases e : p_X8_openFrame a2 (q0.1 137 9) (sF q0 39 3 (q0.1 39 3 + 1)) with
    | none => intro x ex; exact absurd ex (by simp [bd, bw])
    | some q8 => exact hk (sF q8 137 9 r2) (Or.inr ⟨c, q8, r2, g2, ho q8 e, rfl⟩)
  · rw [if_neg c]
    rw [ti_lt, e200] at c
    have hb : p_X10_breakOff (-3) q0 = some (sF q0 137 6 (-3)) := by rw [p_X10_breakOff_eq, if_pos h6]; rfl
    rw [hb]
    exact hk _ (Or.inl ⟨by omega, by rw [sF_v], rfl⟩)
theorem m_thinkIn {G G1 G2 : List Fn5} {f : Fn5} {zd : Mem} {w k : Int32} {n D m : Nat} {B : Mem → Prop} (hP : Pn5 zd G) (hK : Kw (G.map fkey)) (hG : G = G1 ++ f :: G2) (va : ∀ c, c ∈ f.2.1 → isVa c = true) (hw : f.1 - 97 + 1 = w) (hkn : k.toInt = (n : Int)) (hn : f.2.1.length = n) (hi : ∀ g, g ∈ G → g.1 - 97 + 1 = w → g.1 = f.1) (h69 : zd.1 0 69 = 1) (h90 : (zd.1 0 90).toInt = 0) (h92 : (zd.1 0 92).toInt = (D : Int)) (hD : D ≤ 12) (hu : (D : Int) < (zd.1 29 0).toInt) (h67 : (zd.1 0 67).toInt = ((14 * D : Nat) : Int)) (h65 : (zd.1 0 65).toInt = (m : Int)) (hB : ∀ z, (zd.1 0 91 = 200 ∧ z.1 0 68 = -3) ∨ (zd.1 0 91 ≠ 200 ∧ ∀ q, (∀ k, k < n → ∃ x w d, (zd.1 45 k).toInt = ((x : Nat) : Int) ∧ Va7 q zd (q.2.1 37 (32 * (D + 1) + k)) x w d ∧ w ≤ 40) → Em9 m D (tot G2) (sF (sF zd 0 91 (zd.1 0 91 + 1)) 0 92 (zd.1 0 92 + 1)) z ∧ Vr7 q z (D + 1) f.2.1) → B z) : pk (bd (p_X12_functionOf w k zd) (fun r4 μ3 => (if (μ3.1 0 69) = 0 then (if r4 = -1 then bv (sF μ3 0 68 4) (fun μ12 => some μ12) else bd (p_X12_beginsCall μ3) (fun r8 μ7 => (if r8 = 0 then some μ7 else bw (p_X12_enter r4 μ7) (fun μ10 => some μ10)))) else bw (p_X12_thinkCall r4 k μ3) (fun μ13 => some μ13)))) B := by
  have e0 : (0 : Int32).toInt = 0 := by decide
  have em : (-1 : Int32).toInt = -1 := by decide
  refine pk_bd (m_fn hP) ?_
  rintro r4 μ3 ⟨g1, g2⟩
  have g1 : μ3 = zd := g1
  rw [g1, h69, if_neg (by decide)]
  rcases g2 with ⟨_, g4⟩ | ⟨f', H1, H2, x1, x2, x3, x4⟩
  · exact absurd ⟨hw, by rw [hkn, hn]⟩ (g4 f (by rw [hG]; simp))
  have x2 : r4.toInt = (H2.length : Int) := x2
  have hkk : fkey f = fkey f' := by
    unfold fkey
    rw [hi f' (by rw [x1]; simp) x3, hn, show f'.2.1.length = n from by omega]
  obtain ⟨u1, u2⟩ := key_uniq hK hG x1 hkk
  rw [← u2] at x2
  have z90 : zd.1 0 90 = 0 := ti_eq.mpr (by rw [h90, e0])
  refine pk_bw (P := B) ?_ (fun q hq => pk_some hq)
  rw [p_X12_thinkCall_eq, if_neg (fun c => by rw [c, em] at x2; omega), if_pos z90]
  refine pk_gd (fun _ => ?_)
  have t0 : (0 : Int32).toNatClampNeg = 0 := by decide
  rw [t0, if_neg (by rw [ti_le, h92]; omega)]
  refine pk_ite (fun c => pk_bvs (pk_some (hB _ (Or.inl ⟨c, by rw [sF_v]⟩)))) (fun c => pk_bvs (pk_bvs ?_))
  have k92 : (sF zd 0 91 (zd.1 0 91 + 1)).1 0 92 = zd.1 0 92 := by rw [sF_k (by decide)]
  rw [k92]
  refine pk_bw (P := B) (fun z ez => hB z (Or.inr ⟨c, fun q hq => ?_⟩)) (fun q hq => pk_some hq)
  have zk : ∀ i k, ¬ (i = 0 ∧ (k = 91 ∨ k = 92)) → (sF (sF zd 0 91 (zd.1 0 91 + 1)) 0 92 (zd.1 0 92 + 1)).1 i k = zd.1 i k := fun i k hk => by rw [sF_at, if_neg (by omega), sF_at, if_neg (by omega)]
  have hP2 : Pn5 (sF (sF zd 0 91 (zd.1 0 91 + 1)) 0 92 (zd.1 0 92 + 1)) G := hP.of (fun k hk => zk 0 k (by omega)) (fun i k a1 a2 => zk i k (by omega))
  refine m_enter (q := q) hG hP2 va x2 (by rw [zk 0 67 (by omega)]; exact h67) hD (by rw [zk 0 65 (by omega)]; exact h65) hn (fun k hk => ?_) z ez
  obtain ⟨x, w, d, y1, y2, y3⟩ := hq k hk
  exact ⟨x, w, d, by rw [zk 45 k (by omega)]; exact y1, y2.gr Gs7.rf (gh_same (zk 0 56 (by omega)) (fun i k a1 a2 => zk i k (by omega))), y3⟩
end

section
theorem F9.up {v b B h D n n2 bc m m2 : Nat} {μx μm q z : Mem} {It Bk It2 Bk2 : List Nat} {cl cl2 : Nat → Prop} (F : F9 v b B h (D + 1) n2 bc m2 μx μm It Bk cl q z It2 Bk2 cl2) (hn : n ≤ 32) (hm : m ≤ m2) : F9 v b B h D n bc m μx μm It Bk cl q z It2 Bk2 cl2 :=
  ⟨F.1, ⟨F.2.1.1, fun k hk => F.2.1.2.1 k (by omega), fun k hk => F.2.1.2.2.1 k (by omega), F.2.1.2.2.2⟩, ⟨F.2.2.1.1, fun k hk => F.2.2.1.2.1 k (by omega), fun i k hi hk => F.2.2.1.2.2 i k hi (by omega)⟩, F.2.2.2⟩
theorem c_back {q : Mem} {D t : Nat} (h10 : (q.1 30 10).toInt = ((D + 1 : Nat) : Int)) (h38 : (q.1 38 (D + 1)).toInt = (t : Int)) : pk (p_X10_goBack q) (fun x => x = sF (sF q 30 10 (q.1 30 10 - 1)) 137 9 (q.1 38 (D + 1))) := by
  have e1 : (1 : Int32).toInt = 1 := by decide
  have em : (-1 : Int32).toInt = -1 := by decide
  have hz := ti_hi (q.1 30 10)
  have d1 : (q.1 30 10 - 1).toInt = (D : Int) := by rw [ti_sub (by rw [h10, e1]; omega) (by rw [h10, e1]; omega), h10, e1]; omega
  have d2 : ((sF q 30 10 (q.1 30 10 - 1)).1 30 10 + 1).toInt = ((D + 1 : Nat) : Int) := by rw [sF_v, ti_add (by rw [d1, e1]; omega) (by rw [d1, e1]; omega), d1, e1]; omega
  rw [p_X10_goBack_eq, p_X8_closeFrame_eq, if_pos (by rw [ti_le, h10, e1]; omega)]
  refine pk_bdv (r0 := q.1 38 (D + 1)) (μ0 := sF q 30 10 (q.1 30 10 - 1)) (pk_bvs ?_) (pk_bvs ?_)
  · rw [tn_of d2]
    exact pk_gd (fun _ => pk_some ⟨by rw [sF_i (by decide)], rfl⟩)
  · rw [sF_v, if_neg (fun c => by rw [c, em] at h38; omega)]
    exact pk_some rfl
theorem m_back {z : Mem} {a0 a1 a2 : Int32} (h : a0 = 5) (h69 : z.1 0 69 = 1) : pk (p_X12_goOne a0 a1 a2 z) (fun y => y = sF (sF z 0 67 (z.1 0 67 - 14)) 0 92 (z.1 0 92 - 1)) := by
  rw [h, p_X12_goOne_eq, if_neg (by decide), if_neg (by decide), if_neg (by decide), if_neg (by decide), if_neg (by decide), if_pos rfl, p_X12_leave_eq]
  have k69 : (sF z 0 67 (z.1 0 67 - 14)).1 0 69 = 1 := by rw [sF_k (by decide)]; exact h69
  have k92 : (sF z 0 67 (z.1 0 67 - 14)).1 0 92 = z.1 0 92 := by rw [sF_k (by decide)]
  refine pk_bw (P := fun y => y = sF (sF z 0 67 (z.1 0 67 - 14)) 0 92 (z.1 0 92 - 1)) (pk_bvs ?_) (fun q hq => pk_some hq)
  rw [k69, if_neg (by decide), k92]
  exact pk_bvs (pk_some rfl)
theorem call_out {β : Type} {K : Mem → Option β} {Post : Int32 × Mem → β → Prop} {P : Nat} {C : List Th3} {G : List Fn5} {v b a h D m bc e e2 nn fu : Nat} {N N2 : List Int32} {μx μm q z q5 z5 : Mem} {It Bk It5 Bk5 : List Nat} {cl cl5 : Nat → Prop} {a5 : Int32} {X Y X5 Y5 : Int} (W6 : W9 P C G v b a (h + 1) (D + 1) N2 (m + 1) bc 0 q5 z5 It5 Bk5 cl5) (F1 : F9 v b (μx.1 39 6).toNatClampNeg h D N.length bc m μx μm It Bk cl q z It Bk cl) (h6 : (q.1 39 6).toNatClampNeg = (μx.1 39 6).toNatClampNeg) (F5 : F9 v b (q.1 39 6).toNatClampNeg h (D + 1) N2.length bc (m + 1) q z It Bk cl q5 z5 It5 Bk5 cl5) (hV : Vr7 μx μm D N) (hN : ∀ c, c ∈ N → isVa c = true) (hNl : N.length ≤ 31) (he2 : C[e2]? = some (14, 0, 0)) (hpc : (q5.1 137 9).toInt = (e2 : Int)) (h38 : (q.1 38 (D + 1)).toInt = ((e + 1 : Nat) : Int)) (h37 : z.1 37 m = 5) (hbu : Bu9 a5 q5 X5 Y5) (hX : X5 + 1 ≤ 1000000) (hX2 : X5 + 1 ≤ X + 1) (hY2 : Y5 ≤ Y + 1) (ok : Ok9 K Post P C G v b a (h + 1) D N m bc 0 h m μx μm It Bk cl (e + 1) (X + 1) (Y + 1)) : Rn9 K Post nn a5 q5 fu z5 := by
  have e1 : (1 : Int32).toInt = 1 := by decide
  have e14 : (14 : Int32).toInt = 14 := by decide
  obtain ⟨q0, z0, fx0, fm0, S0, z65, pc0, b5, _, stp, ez0⟩ := W6.beg (h := h + 1) he2 hpc hbu hX
  have W7 := W6.low fx0 fm0 (Nat.le_refl _) S0.1 S0.2.1 z65
  obtain ⟨d1, d2, d3, d4⟩ := W7.1.2.2.2.2.2.1
  have k37 : z5.1 37 m = 5 := by rw [F5.2.2.1.2.2 37 m (Or.inl rfl) (by omega)]; exact h37
  have k38 : q0.1 38 (D + 1) = q.1 38 (D + 1) := by rw [fx0.2.1 38 _ (by decide) (by decide) (by decide) (by omega), F5.2.1.2.2.1 _ (Nat.le_refl _)]
  refine op_run W6 hbu hX (A := fun x => x = sF (sF q0 30 10 (q0.1 30 10 - 1)) 137 9 (q0.1 38 (D + 1))) (B := fun y => y = sF (sF z0 0 67 (z0.1 0 67 - 14)) 0 92 (z0.1 0 92 - 1)) (stp (show pk (bw (p_X10_goBack q0) (fun μ66 => some μ66)) _ from pk_bw (c_back d1 (by rw [k38]; exact h38)) (fun x hx => pk_some hx))) ?_ ?_
  · rw [ez0]
    exact m_back k37 W7.x68.2
  intro q8 z8 n8 f8 hq8 hz8
  have fx : Ff9 q0 q8 := ⟨by rw [hq8]; rfl, fun i k c1 c2 c3 c4 => by rw [hq8, sF_at, if_neg c4, sF_at, if_neg c1], fun i k _ => by rw [hq8]; rfl⟩
  have fm : Fg9 m z0 z8 := fun i k c1 c2 c3 => by rw [hz8, sF_at, if_neg (by omega), sF_at, if_neg (by omega)]
  have l38 : ∀ k, q8.1 38 k = q0.1 38 k := fun k => by rw [hq8, sF_i (by decide), sF_i (by decide)]
  have l37 : ∀ k, q8.2.1 37 k = q0.2.1 37 k := fun k => by rw [hq8]; rfl
  have l41 : ∀ k, z8.1 41 k = z0.1 41 k := fun k => by rw [hz8, sF_i (by decide), sF_i (by decide)]
  have FA : F9 v b (μx.1 39 6).toNatClampNeg h D N.length bc m μx μm It Bk cl q8 z8 It5 Bk5 cl5 := by
    rw [h6] at F5
    have F5' := F5.up (n := N.length) (m := m) (by omega) (by omega)
    exact ((F1.tr F5' (Nat.le_refl _) (Nat.le_refl _) (Nat.le_refl _) (Nat.le_refl _) (Nat.le_refl _)).tr (F9.q fx0 fm0 (Nat.le_succ _) (Nat.le_refl _)) (Nat.le_refl _) (Nat.le_refl _) (Nat.le_refl _) (Nat.le_refl _) (Nat.le_refl _)).tr (F9.fr fx fm (Nat.le_refl _) (fun k _ => l37 k) (fun k _ => l38 k) (fun k _ => l41 k)) (Nat.le_refl _) (Nat.le_refl _) (Nat.le_refl _) (Nat.le_refl _) (Nat.le_refl _)
  have hz10 := ti_hi (q0.1 30 10)
  have hz67 := ti_hi (z0.1 0 67)
  have hz92 := ti_hi (z0.1 0 92)
  have W8 : W9 P C G v b a (h + 1) D N m bc 0 q8 z8 It5 Bk5 cl5 := by
    refine W7.fr fx fm ?_ ?_ ?_ (by omega) ?_ ?_ hN ?_
    · rw [hq8, sF_i (by decide), sF_v, ti_sub (by rw [d1, e1]; omega) (by rw [d1, e1]; omega), d1, e1]; omega
    · rw [hz8, sF_k (by decide), sF_v, ti_sub (by rw [d2, e14]; omega) (by rw [d2, e14]; omega), d2, e14]; omega
    · rw [hz8, sF_v, ti_sub (by rw [d3, e1]; omega) (by rw [d3, e1]; omega), d3, e1]; omega
    · rw [hq8, sF_i (by decide), sF_i (by decide), hz8, sF_k (by decide), sF_k (by decide)]
      exact W7.1.2.2.2.2.2.2.2.2.1.1
    · refine hV.of FA.2.2.2.1.1 FA.2.2.2.1.2 (fun k hk => FA.2.1.2.1 _ (by omega)) (fun c hc => ?_)
      obtain ⟨k, hk, _, hk3⟩ := va_109 (hN c hc)
      exact FA.2.2.1.2.1 _ (by omega)
    · rw [hz8, sF_k (by decide), sF_k (by decide)]; exact z65
  refine ok q8 z8 It5 Bk5 cl5 (a5 + 1) n8 f8 W8 FA ?_ ?_
  · rw [hq8, sF_v, k38]; exact h38
  · have hs : Bu9 (a5 + 1) q0 (X5 + 1) (Y5 + 0) := hbu.step (by omega) (fx0.2.1 39 3 (by decide) (by decide) (by decide) (by omega)) (by rw [b5]; omega) (by rw [b5]; omega)
    exact (hs.same (by rw [hq8, sF_i (by decide), sF_i (by decide)]) (by rw [hq8, sF_i (by decide), sF_k (by decide)])).mono hX2 (by omega)
end

section
theorem call_in {β : Type} {K : Mem → Option β} {Post : Int32 × Mem → β → Prop} {P : Nat} {C : List Th3} {G G1 G2 : List Fn5} {df : Nat} {T : List Th3} {o n i e : Nat} {N : List Int32} {l : Int32} {f : Fn5} (hF : Fn9 G T o) (h1 : T[i]? = some (12, l - 97 + 1, Int32.ofNat n)) (hl : isL l = true ∧ n ≤ 5) (h2 : C[e]? = some (13, (l - 97) * 6 + Int32.ofNat n, Int32.ofNat n)) (hG : G = G1 ++ f :: G2) (hk : fkey f = (l, n)) (hNl : N.length ≤ 31) (ib : ∀ e2, Cd6 (at5 f.2.2.1) (at5 C) 20 1 f.2.1 0 f.2.2.1.length f.2.2.2 e2 → E9 P C G df (tot G2) 20 1 f.2.1 0 f.2.2.1.length f.2.2.2 e2) {μx μm : Mem} {It Bk : List Nat} {cl : Nat → Prop} {v b a h D m bc : Nat} {a1 : Int32} {nn fu : Nat} {X Y : Int} (W : W9 P C G v b a (h + n) D N (m + 1) bc 0 μx μm It Bk cl) (h37 : μm.1 37 m = 1) (h38 : (μm.1 38 m).toInt = ((o + i : Nat) : Int)) (hpc : (μx.1 137 9).toInt = (e : Int)) (hbu : Bu9 a1 μx X Y) (hhb : h + n + 1 ≤ 80 * (D + 1)) (hbc : bc ≤ 20 * (D + 1)) (hdf : 12 ≤ D + (df + 1)) (hX : X + 1 ≤ 1000000) (hY : Y + 1 ≤ 30200) (hu : (D : Int) < (μx.1 137 0).toInt) (ok : Ok9 K Post P C G v b a (h + 1) D N m bc 0 h m μx μm It Bk cl (e + 1) (X + 1) (Y + 1)) (bad : Bd9 K Post) : Rn9 K Post nn a1 μx fu μm := by
  have e1 : (1 : Int32).toInt = 1 := by decide
  have hnt : (Int32.ofNat n).toInt = (n : Int) := Int32.toInt_ofNat_of_lt (by omega)
  obtain ⟨d1, d2, d3, d4⟩ := W.1.2.2.2.2.2.1
  have hL := W.1.2.2.2.2.2.2.2.2.2.1 0 (by omega)
  have hD11 : D + 1 ≤ 12 := by have := hL.2 rfl; rw [hL.1] at hu; omega
  obtain ⟨t7, t8, t9⟩ := fn_at W.pn hF i _ h1
  have t7 : μm.1 7 (o + i) = 12 := t7
  have t8 : μm.1 8 (o + i) = l - 97 + 1 := t8
  have t9 : μm.1 9 (o + i) = Int32.ofNat n := t9
  have hPr := W.2.1
  have hfG : f ∈ G := by rw [hG]; simp
  obtain ⟨hfL, ⟨_, hva⟩, hf80, e2, cd, he2⟩ := hPr.2.2.2.2.2.2.2.2.1 f hfG
  have hf1 : f.1 = l := congrArg Prod.fst hk
  have hfn : f.2.1.length = n := congrArg Prod.snd hk
  have lcd := cd.le
  have he2l := lt_some he2
  have hCl : C.length ≤ 2472 := hPr.2.2.2.1
  obtain ⟨q0, z0, fx0, fm0, S0, z65, pc0, b5, bu0, stp, ez0⟩ := W.beg h h2 hpc hbu hX
  obtain ⟨⟨f43a, f43v, f43w⟩, f43b, f43c, f43d, f43e⟩ := W.f43
  have h69 : z0.1 0 69 = 1 := by rw [fm0.2.1 69 (by decide) (by decide) (by decide) (by decide) (by decide)]; exact W.x68.2
  have q7 : ((sF q0 30 7 (imax 0 (q0.1 30 7 - Int32.ofNat n))).1 30 7).toInt = (h : Int) := by rw [sF_v]; exact imax_h S0.1 hnt
  have fx1 : Qx8 h μx (sF q0 30 7 (imax 0 (q0.1 30 7 - Int32.ofNat n))) := fx0.tr (Qx8.top _)
  have g22 : (sF q0 30 7 (imax 0 (q0.1 30 7 - Int32.ofNat n))).2 = q0.2 := rfl
  have g1 : ∀ i k, ¬ (i = 30 ∧ k = 7) → (sF q0 30 7 (imax 0 (q0.1 30 7 - Int32.ofNat n))).1 i k = q0.1 i k := fun i k hk => by rw [sF_at, if_neg hk]
  generalize hq1 : sF q0 30 7 (imax 0 (q0.1 30 7 - Int32.ofNat n)) = q1 at q7 fx1 g22 g1
  have hsel : sel 2 (q0.2.2 137 5) = P := by rw [fx0.1]; exact hPr.2.1
  have hP9 : P = 2 ∨ P = 9 := hPr.1
  have hKt : Kt P (G.map fkey) q0 := Kt.of hPr.2.2.2.2.2.1 (fun i k hi => fx0.2.1 i k (by omega) (by omega) (by omega) (by omega))
  have hFs : Fs5 P G q0 := hPr.2.2.2.2.2.2.1.cong (fun k _ => fx0.2.1 _ k (by omega) (by omega) (by omega) (by omega)) (fun k _ => fx0.2.1 _ k (by omega) (by omega) (by omega) (by omega)) (fun g _ => fx0.2.1 _ _ (by omega) (by omega) (by omega) (by omega))
  have x10 : (q0.1 30 10).toInt = (D : Int) := by rw [fx0.2.2.1 10 (by decide) (by decide)]; exact d1
  have x13 : (q0.1 137 13).toInt = 0 := by rw [fx0.2.1 137 13 (by decide) (by decide) (by decide) (by omega)]; exact W.1.2.2.2.2.2.2.1.2.1
  have x0 : (D : Int) < (q0.1 137 0).toInt := by rw [fx0.2.1 137 0 (by decide) (by decide) (by decide) (by omega)]; exact hu
  have x6 : q0.1 137 6 = 0 := by rw [fx0.2.1 137 6 (by decide) (by decide) (by decide) (by omega)]; exact f43a
  have x393 : q0.1 39 3 = z0.1 0 91 := by rw [fx0.2.1 39 3 (by decide) (by decide) (by decide) (by omega), fm0.2.1 91 (by decide) (by decide) (by decide) (by decide) (by decide)]; exact W.1.2.2.2.2.2.2.2.2.1.1
  have c200 : (q0.1 39 3).toInt ≤ 200 := bu0.2.2.2.2.1
  have e200 : (200 : Int32).toInt = 200 := by decide
  refine op_run W hbu hX (A := fun q => (200 ≤ (q0.1 39 3).toInt ∧ q.1 137 6 = -3 ∧ q.2.2 = q0.2.2) ∨ ((q0.1 39 3).toInt < 200 ∧ ∃ q8 r2, r2.toInt = (f.2.2.2 : Int) ∧ Of9 n h D (q0.1 137 9) (sF q0 39 3 (q0.1 39 3 + 1)) q8 ∧ q = sF q8 137 9 r2)) (B := fun z => ∃ zd, Dc9 n h z0 zd ∧ ((zd.1 0 91 = 200 ∧ z.1 0 68 = -3) ∨ (zd.1 0 91 ≠ 200 ∧ ∀ q, (∀ k, k < n → ∃ x w d, (zd.1 45 k).toInt = ((x : Nat) : Int) ∧ Va7 q zd (q.2.1 37 (32 * (D + 1) + k)) x w d ∧ w ≤ 40) → Em9 m D (tot G2) (sF (sF zd 0 91 (zd.1 0 91 + 1)) 0 92 (zd.1 0 92 + 1)) z ∧ Vr7 q z (D + 1) f.2.1))) (stp ?_) ?_ ?_
  · show pk (bd (p_X10_workCall ((l - 97) * 6 + Int32.ofNat n) (Int32.ofNat n) q0) (fun r60 μ59 => (if r60 = 0 then bw (p_X10_shapeCall ((l - 97) * 6 + Int32.ofNat n) (Int32.ofNat n) μ59) (fun μ62 => bw (p_X10_leaveCall ((l - 97) * 6 + Int32.ofNat n) μ62) (fun μ64 => some μ64)) else some μ59))) _
    refine c_workIn (h := h) hsel hG hPr.2.2.2.2.1 hKt hFs (by rw [hk]; exact key_ti hl.1 hl.2) hnt hl.2 S0.1 x10 d4 x13 x0 x6 (fun q hq => ?_)
    rw [if_neg (by decide)]
    exact pk_some hq
  · rw [ez0]
    refine do_act fm0 h37 h38 t7 t8 t9 (body := p_X12_doCall (l - 97 + 1) (Int32.ofNat n) z0) (fun hb => ?_) ?_
    · rw [if_neg (by decide), if_neg (by decide), if_neg (by decide), if_neg (by decide), if_neg (by decide), if_neg (by decide), if_neg (by decide), if_neg (by decide), if_neg (by decide)]
      exact pk_gd (fun _ => pk_gd (fun _ => pk_bw hb (fun q hq => pk_some hq)))
    refine m_docall hnt hl.2 S0.2.1 h69 (fun zd dc => ?_)
    obtain ⟨W1, F1⟩ := W.given fx1 fm0 q7 z65 dc
    obtain ⟨w1, w2, w3, _⟩ := W1.1.2.2.2.2.2.1
    refine m_thinkIn (D := D) (m := m) W1.pn hPr.2.2.2.2.1 hG hva (by rw [hf1]) hnt hfn (fun g hg e => ?_) W1.x68.2 W1.1.2.2.2.2.2.2.1.2.2 w3 d4 ?_ w2 W1.x65 (fun z hz => ⟨zd, dc, hz⟩)
    · rw [hf1]; exact let_eq hl.1 (hPr.2.2.2.2.1.2 _ (List.mem_map.mpr ⟨g, hg, rfl⟩)).1 e
    · have hL1 := W1.1.2.2.2.2.2.2.2.2.2.1 0 (by omega)
      rw [← hL1.1, g1 137 0 (by omega)]; exact x0
  rintro q z n2 fu2 hA ⟨zd, dc, hB⟩
  obtain ⟨W1, F1⟩ := W.given fx1 fm0 q7 z65 dc
  obtain ⟨w1, w2, w3, _⟩ := W1.1.2.2.2.2.2.1
  have z91 : zd.1 0 91 = q0.1 39 3 := by rw [x393]; exact dc.2.2.1 0 91 (by decide) (by omega)
  rw [z91] at hB
  rcases hA with ⟨a1', a2', a3'⟩ | ⟨a1', q8, r2, hr2, ho, hq⟩
  · rcases hB with ⟨b1, b2⟩ | ⟨b1, _⟩
    · exact bad q z (a1 + 1) n2 fu2 (-3) a2' b2 (by decide) (Su5.of W.2.2.2.2.2.1 (by rw [a3', fx0.1]))
    · exact absurd (ti_eq.mpr (by rw [e200]; omega)) b1
  rcases hB with ⟨b1, _⟩ | ⟨_, b2⟩
  · rw [b1, e200] at a1'; omega
  obtain ⟨p1, p2, p3, p4, p5, p6, p7, p8⟩ := ho
  have qk : ∀ i k, ¬ (i = 137 ∧ k = 9) → q.1 i k = q8.1 i k := fun i k hk => by rw [hq, sF_at, if_neg hk]
  have ql : ∀ i k, q.2.1 i k = q8.2.1 i k := fun i k => by rw [hq]; rfl
  have qs : ∀ i k, i ≠ 37 → q.2.1 i k = q1.2.1 i k := fun i k hi => by rw [ql, p6 i k hi, g22]; rfl
  have q393 : q.1 39 3 = q0.1 39 3 + 1 := by rw [qk 39 3 (by omega), p3 39 3 (by omega) (by omega), sF_v]
  have qi : ∀ i k, ¬ (i = 30 ∧ k = 10) → ¬ (i = 39 ∧ k = 3) → i ≠ 38 → ¬ (i = 137 ∧ k = 9) → q.1 i k = q1.1 i k := fun i k c1 c2 c3 c4 => by
    by_cases c5 : i = 30 ∧ k = 7
    · obtain ⟨c6, c7⟩ := c5
      subst c6; subst c7
      rw [qk 30 7 (by omega)]
      exact ti_eq.mpr (by rw [p2, q7])
    · rw [qk i k c4, p3 i k (by omega) (by omega), sF_at, if_neg c2, g1 i k c5]
  have q30 : (q.1 30 7).toInt = (h : Int) := by rw [qk 30 7 (by omega)]; exact p2
  have gsq : Gs7 q1 q := gs_same (qi 30 5 (by omega) (by omega) (by omega) (by omega)) (fun k => qs 31 k (by decide)) (fun k => qs 32 k (by decide)) (fun k => qi 33 k (by omega) (by omega) (by omega) (by omega)) (fun k => qi 34 k (by omega) (by omega) (by omega) (by omega))
  have gs0 : Gs7 q0 q := gs_same (by rw [qi 30 5 (by omega) (by omega) (by omega) (by omega), g1 30 5 (by omega)]) (fun k => by rw [qs 31 k (by decide), g22]) (fun k => by rw [qs 32 k (by decide), g22]) (fun k => by rw [qi 33 k (by omega) (by omega) (by omega) (by omega), g1 33 k (by omega)]) (fun k => by rw [qi 34 k (by omega) (by omega) (by omega) (by omega), g1 34 k (by omega)])
  have gd0 : Gh7 z0 zd := gh_same (dc.2.2.1 0 56 (by decide) (by omega)) (fun i k x1 x2 => dc.2.2.1 i k (by omega) (by omega))
  obtain ⟨⟨em1, em2, em3, ⟨em4, em5, em6⟩, em7⟩, hVr⟩ := b2 q (fun k hk => by
    obtain ⟨x, w, d, y1, y2, y3⟩ := S0.2.2 (h + k) (by omega)
    refine ⟨x, w, d, by rw [dc.2.2.2 k hk]; exact y1, ?_, y3⟩
    rw [ql, p8 k hk]
    exact y2.gr gs0 gd0)
  have k92 : ∀ i k, ¬ (i = 0 ∧ (k = 91 ∨ k = 92)) → (sF (sF zd 0 91 (q0.1 39 3 + 1)) 0 92 (zd.1 0 92 + 1)).1 i k = zd.1 i k := fun i k hk => by rw [sF_at, if_neg (by omega), sF_at, if_neg (by omega)]
  have ffx : Ff9 q1 q := ⟨by rw [hq, g22]; show q8.2.2 = _; rw [p1]; rfl, qi, qs⟩
  have ffm : Fg9 m zd z := fun i k c1 c2 c3 => by rw [em1 i k (by omega) c2 c3, k92 i k (by omega)]
  have z92 : (z.1 0 92).toInt = ((D + 1 : Nat) : Int) := by rw [em1 0 92 (by omega) (by omega) (by decide), sF_v, ti_add (by omega) (by omega), w3, e1]; omega
  have z91' : z.1 0 91 = q0.1 39 3 + 1 := by rw [em1 0 91 (by omega) (by omega) (by decide), sF_k (by decide), sF_v]
  have WB : W9 P C G v b a h (D + 1) f.2.1 (m + 1 + 1) bc 0 q z It Bk cl := W1.fr ffx ffm (by rw [qk 30 10 (by omega)]; exact p4) em2 z92 hD11 (by rw [q393, z91']) hVr hva em3
  have FB : F9 v b (μx.1 39 6).toNatClampNeg h D N.length bc m μx μm It Bk cl q z It Bk cl := (F1 _).tr (F9.fr ffx ffm (Nat.le_refl _) (fun k hk => by rw [ql, p7 k (by omega), g22]; rfl) (fun k hk => by rw [qk 38 k (by omega), p3 38 k (by omega) (by omega), sF_i (by decide), g1 38 k (by omega)]) (fun k hk => by rw [em7 k hk, k92 41 k (by omega)])) (Nat.le_refl _) (Nat.le_refl _) (Nat.le_refl _) (Nat.le_refl _) (Nat.le_refl _)
  have h6 : (q.1 39 6).toNatClampNeg = (μx.1 39 6).toNatClampNeg := by rw [qi 39 6 (by omega) (by omega) (by omega) (by omega), fx1.2.1 39 6 (by decide) (by decide) (by decide) (by omega)]
  have hFf : Fn9 G f.2.2.1 (tot G2) := ⟨f, G1, G2, hG, rfl, rfl⟩
  have q305 : q.1 30 5 = q0.1 30 5 := by rw [qi 30 5 (by omega) (by omega) (by omega) (by omega), g1 30 5 (by omega)]
  have buB : Bu9 (a1 + 1) q (X + 1 - 2500) (Y - 80) := by
    obtain ⟨u1, u2, u3, u4, u5, u6⟩ := bu0
    obtain ⟨y1, y2, y3, y4, y5, y6⟩ := hbu
    have v3 : (q.1 39 3).toInt = (q0.1 39 3).toInt + 1 := by rw [q393, ti_add (by omega) (by omega), e1]
    have w3' : q0.1 39 3 = μx.1 39 3 := fx0.2.1 39 3 (by decide) (by decide) (by decide) (by omega)
    rw [b5] at q305
    refine ⟨u1, by rw [v3]; omega, ?_, by rw [v3]; omega, by rw [v3]; omega, by rw [q305]; exact y6⟩
    rw [v3, q305, w3']
    omega
  have hq9 : (q.1 137 9).toInt = (f.2.2.2 : Int) := by rw [hq, sF_v]; exact hr2
  refine ib e2 cd K Post q z It Bk cl v b a h (D + 1) (m + 1) bc 0 (a1 + 1) n2 fu2 (X + 1 - 2500) (Y - 80) WB ⟨tot G2 + 0, rfl, cd_sh (WB.t9 hFf) cd, em5, em6⟩ hq9 buB (by omega) (by omega) (by omega) (by omega) (by omega) ?_ bad
  intro q5 z5 It5 Bk5 cl5 a5 n5 f5 W5 F5 hpc5 hbu5
  exact call_out (X := X) (Y := Y) W5 FB h6 F5 W.1.2.2.2.1 W.1.2.2.2.2.1 hNl he2 hpc5 (by rw [qk 38 _ (by omega), p5]; exact pc0) em4 hbu5 (by omega) (by omega) (by omega) ok
end

section
def Lc9 (P : Nat) (C : List Th3) (G : List Fn5) : Prop := ∀ {β : Type} (K : Mem → Option β) (Post : Int32 × Mem → β → Prop) (G1 G2 : List Fn5) (T : List Th3) (o n i e : Nat) (N : List Int32) (l : Int32) (f : Fn5), Fn9 G T o → T[i]? = some (12, l - 97 + 1, Int32.ofNat n) → (isL l = true ∧ n ≤ 5) → C[e]? = some (13, (l - 97) * 6 + Int32.ofNat n, Int32.ofNat n) → G = G1 ++ f :: G2 → fkey f = (l, n) → ∀ (μx μm : Mem) (It Bk : List Nat) (cl : Nat → Prop) (v b a h D m bc ob : Nat) (a1 : Int32) (nn fu : Nat) (X Y : Int), W9 P C G v b a (h + n) D N (m + 1) bc ob μx μm It Bk cl → μm.1 37 m = 1 → (μm.1 38 m).toInt = ((o + i : Nat) : Int) → (μx.1 137 9).toInt = (e : Int) → Bu9 a1 μx X Y → h + n + 1 ≤ 80 * (D + 1) → X + 1 ≤ 1000000 → Y + 1 ≤ 30200 → (0 < ob ∨ (μx.1 137 0).toInt ≤ (D : Int)) → Ok9 K Post P C G v b a (h + 1) D N m bc ob h m μx μm It Bk cl (e + 1) (X + 1) (Y + 1) → Bd9 K Post → Rn9 K Post nn a1 μx fu μm
theorem op_call {P : Nat} {C : List Th3} {G : List Fn5} {df : Nat} {T : List Th3} {o n : Nat} {N : List Int32} {i e : Nat} {l : Int32} (left : Lc9 P C G) (hF : Fn9 G T o) (h1 : T[i]? = some (12, l - 97 + 1, Int32.ofNat n)) (hl : isL l = true ∧ n ≤ 5) (h2 : C[e]? = some (13, (l - 97) * 6 + Int32.ofNat n, Int32.ofNat n)) (hNl : N.length ≤ 31) (ib : ∀ df2, df = df2 + 1 → ∀ f G1 G2 e2, G = G1 ++ f :: G2 → Cd6 (at5 f.2.2.1) (at5 C) 20 1 f.2.1 0 f.2.2.1.length f.2.2.2 e2 → f.2.1.length ≤ 5 → E9 P C G df2 (tot G2) 20 1 f.2.1 0 f.2.2.1.length f.2.2.2 e2) : Op9 P C G df (o + i) n N e := by
  intro β K Post μx μm It Bk cl v b a h D m bc ob a1 nn fu X Y W h37 h38 hpc hbu hhb hbc hob hX hY ok bad
  by_cases no : (l, n) ∈ G.map fkey
  · obtain ⟨f, hf, hk⟩ := List.mem_map.mp no
    obtain ⟨G1, G2, hG⟩ := List.append_of_mem hf
    by_cases c : 0 < ob ∨ (μx.1 137 0).toInt ≤ (D : Int)
    · exact left K Post G1 G2 T o n i e N l f hF h1 hl h2 hG hk μx μm It Bk cl v b a h D m bc ob a1 nn fu X Y W h37 h38 hpc hbu hhb hX hY c ok bad
    · have c0 : ob = 0 := by omega
      subst c0
      have hL := W.1.2.2.2.2.2.2.2.2.2.1 0 (by omega)
      have h12 := hL.2 rfl
      rw [← hL.1] at h12
      obtain ⟨df2, hdf⟩ : ∃ df2, df = df2 + 1 := ⟨df - 1, by omega⟩
      have hfn : f.2.1.length = n := congrArg Prod.snd hk
      exact call_in (df := df2) hF h1 hl h2 hG hk hNl (fun e2 cd => ib df2 hdf f G1 G2 e2 hG cd (by omega)) W h37 h38 hpc hbu hhb hbc (by omega) hX hY (by omega) ok bad
  · exact op_untold (df := df) hF h1 hl h2 no K Post μx μm It Bk cl v b a h D m bc ob a1 nn fu X Y W h37 h38 hpc hbu hhb hbc hob hX hY ok bad
theorem e9_row {P : Nat} {C : List Th3} {G : List Fn5} {df : Nat} {T : List Th3} {o : Nat} (left : Lc9 P C G) (hF : Fn9 G T o) (ib : ∀ df2, df = df2 + 1 → ∀ f G1 G2 e2, G = G1 ++ f :: G2 → Cd6 (at5 f.2.2.1) (at5 C) 20 1 f.2.1 0 f.2.2.1.length f.2.2.2 e2 → f.2.1.length ≤ 5 → E9 P C G df2 (tot G2) 20 1 f.2.1 0 f.2.2.1.length f.2.2.2 e2) {r k : Nat} {N : List Int32} {i j c e : Nat} (cd : Cd6 (at5 T) (at5 C) r k N i j c e) : N.length ≤ 25 → E9 P C G df o r k N i j c e := by
  refine cd.ind (M := fun r k N i j c e => N.length ≤ 25 → E9 P C G df o r k N i j c e) ?_ ?_ ?_ ?_ ?_ ?_ ?_ ?_ ?_ ?_ ?_ ?_
  · intro r N i c _; exact e9_nil
  · intro r N i c k m j d e a' ia b' ib' hN
    exact e9_more hF a' (ia hN) b' (ib' hN)
  · intro r N i c s b h1 h2 h3 _
    exact e9_num hF h1 h2 h3
  · intro r N i c a h1 h2 h3 hN
    exact e9_var hF h1 h2 h3 hN
  · intro r N i c d h1 h2 h3 hN
    exact e9_do (n := 0) hF h1 (by decide) (by decide) Cd6.nil e9_nil (op_get hF h1 h2)
  · intro r N i c h j e h1 a' ia h2 h3 hN
    have fin : ∀ {s w x y z : Int32}, oneT h = (s, w, 1) → (s ≠ 0 ∧ s ≠ 1 ∧ s ≠ 4 ∧ s ≠ 7 ∧ s ≠ 11) → Op9 P C G df (o + i) 1 N e → E9 P C G df o (r + 1) 1 N i j c (e + 1) := fun {s w x y z} e1 hs op => by
      have h1' : T[i]? = some (s, w, Int32.ofNat 1) := by rw [← show oneT h = (s, w, Int32.ofNat 1) from e1]; exact h1
      intro β
      exact e9_do (n := 1) hF h1' (by decide) hs a' (ia hN) op
    have h1 : T[i]? = some (oneT h) := h1
    have h2 : C[e]? = some (oneC h) := h2
    have hc : h = 33 ∨ h = 35 ∨ h = 36 ∨ h = 64 ∨ h = 94 ∨ h = 126 := by
      unfold isT1 at h3; simpa using h3
    rcases hc with q | q | q | q | q | q <;> subst q
    · intro β; exact fin (s := 8) (w := 0) (x := 0) (y := 0) (z := 0) rfl (by decide) (op_out hF h1 h2)
    · intro β; exact fin (s := 6) (w := 2) (x := 0) (y := 0) (z := 0) rfl (by decide) (op_turn (k := 2) hF (Or.inr (Or.inr ⟨rfl, rfl⟩)) h1 h2)
    · intro β; exact fin (s := 6) (w := 0) (x := 0) (y := 0) (z := 0) rfl (by decide) (op_turn (k := 0) hF (Or.inl ⟨rfl, rfl⟩) h1 h2)
    · intro β; exact fin (s := 6) (w := 3) (x := 0) (y := 0) (z := 0) rfl (by decide) (op_part (k := 3) hF (Or.inl ⟨rfl, rfl⟩) h1 h2)
    · intro β; exact fin (s := 6) (w := 1) (x := 0) (y := 0) (z := 0) rfl (by decide) (op_turn (k := 1) hF (Or.inr (Or.inl ⟨rfl, rfl⟩)) h1 h2)
    · intro β; exact fin (s := 6) (w := 4) (x := 0) (y := 0) (z := 0) rfl (by decide) (op_part (k := 4) hF (Or.inr ⟨rfl, rfl⟩) h1 h2)
  · intro r N i c d j e h1 a' ia h2 h3 hN
    exact e9_do (n := 1) hF h1 (by decide) (by decide) a' (ia hN) (op_put hF h1 h2 h3)
  · intro r N i c s m d j e h1 a' ia b' ib' h2 h3 hN
    exact e9_do (n := 2) hF h1 (by decide) (by decide) (Cd6.more a' b') (e9_more hF a' (ia hN) b' (ib' hN)) (op_sgn hF h1 h2 h3)
  · intro r N i c m d j e h1 a' ia b' ib' h2 hN
    exact e9_do (n := 2) hF h1 (by decide) (by decide) (Cd6.more a' b') (e9_more hF a' (ia hN) b' (ib' hN)) (op_pair hF h1 h2)
  · intro r N i c m d m2 d2 j e h1 a' ia h2 b' ib' h3 c' ic h4 hN
    exact e9_cho hF h1 a' (ia hN) h2 b' (ib' hN) h3 c' (ic hN) h4
  · intro r N i c a0 m d j e h1 h2 a' ia h3 b' ib' hN
    exact e9_let hF h1 h2 a' (ia hN) h3 b' (ib' (by rw [List.length_cons]; omega))
  · intro r N i c l n j e h1 h2 a' ia h3 hN
    exact e9_do hF h1 h2.2 (by decide) a' (ia hN) (op_call left hF h1 h2 h3 (by omega) ib)
theorem e9_all {P : Nat} {C : List Th3} {G : List Fn5} (left : Lc9 P C G) : ∀ (df : Nat) {T : List Th3} {o : Nat}, Fn9 G T o → ∀ {r k : Nat} {N : List Int32} {i j c e : Nat}, Cd6 (at5 T) (at5 C) r k N i j c e → N.length ≤ 25 → E9 P C G df o r k N i j c e := by
  intro df
  induction df with
  | zero => exact fun {T o} hF {r k N i j c e} cd => e9_row left hF (fun df2 h => absurd h (by omega)) cd
  | succ df ih => exact fun {T o} hF {r k N i j c e} cd => e9_row left hF (fun df2 h f G1 G2 e2 hG cd2 hn => by
      have : df = df2 := by omega
      subst this
      intro β
      exact ih (T := f.2.2.1) (o := tot G2) ⟨f, G1, G2, hG, rfl, rfl⟩ cd2 (by omega)) cd
end

section
def Pre9 (μx μm : Mem) : Nat → Int64 → Nat → List (Int64 × Nat) → Prop
  | 0, v, x, Z => μm.1 30 x ≠ 2 ∧ Z = [(v, x)]
  | g + 1, v, x, Z => (μm.1 30 x ≠ 2 ∧ Z = [(v, x)]) ∨ ∃ (k y z : Nat) (Z1 Z2 : List (Int64 × Nat)), v = s_X0_make (nI 2) (nI k) ∧ k < (μx.1 30 5).toNatClampNeg ∧ μm.1 30 x = 2 ∧ (μm.1 31 x).toInt = (y : Int) ∧ (μm.1 32 x).toInt = (z : Int) ∧ Z = (v, x) :: (Z1 ++ Z2) ∧ Pre9 μx μm g (μx.2.1 31 k) y Z1 ∧ Pre9 μx μm g (μx.2.1 32 k) z Z2
def Al9 (μx μm : Mem) (Z : List (Int64 × Nat)) : Prop := ∀ p, p ∈ Z → ∃ w d, Va7 μx μm p.1 p.2 w d ∧ w ≤ 40
theorem va_pre {μx μm : Mem} : ∀ (g : Nat) {d : Nat} {v : Int64} {x w : Nat}, d ≤ g → Va7 μx μm v x w d → w ≤ 40 → ∃ Z, Z.length = w ∧ Pre9 μx μm g v x Z ∧ Al9 μx μm Z := by
  intro g
  induction g with
  | zero =>
    intro d v x w hd h hw
    obtain ⟨_, ⟨m, hm, e1, e2, e3, e4, _⟩ | ⟨k, y, z, w1, w2, d1, d2, _, _, _, _, _, _, e, _⟩⟩ := va_kind h
    · exact ⟨[(v, x)], by rw [e3]; rfl, ⟨by rw [e2]; rcases hm with q | q | q <;> subst q <;> decide, rfl⟩, fun p hp => by
        have : p = (v, x) := by simpa using hp
        rw [this]; exact ⟨w, d, h, hw⟩⟩
    · omega
  | succ g ih =>
    intro d v x w hd h hw
    obtain ⟨_, ⟨m, hm, e1, e2, e3, e4, _⟩ | ⟨k, y, z, w1, w2, d1, d2, a1, a2, a3, a4, a5, a6, a7, _, _, _, _, b1, b2⟩⟩ := va_kind h
    · exact ⟨[(v, x)], by rw [e3]; rfl, Or.inl ⟨by rw [e2]; rcases hm with q | q | q <;> subst q <;> decide, rfl⟩, fun p hp => by
        have : p = (v, x) := by simpa using hp
        rw [this]; exact ⟨w, d, h, hw⟩⟩
    · obtain ⟨Z1, c1, c2, c3⟩ := ih (by omega) b1 (by omega)
      obtain ⟨Z2, c4, c5, c6⟩ := ih (by omega) b2 (by omega)
      refine ⟨(v, x) :: (Z1 ++ Z2), by rw [List.length_cons, List.length_append]; omega, Or.inr ⟨k, y, z, Z1, Z2, a1, a2, a3, a4, a5, rfl, c2, c5⟩, fun p hp => ?_⟩
      rcases List.mem_cons.mp hp with e | e
      · rw [e]; exact ⟨w, d, h, hw⟩
      · rcases List.mem_append.mp e with e | e
        · exact c3 p e
        · exact c6 p e
noncomputable def tok (v : Int64) : Int64 := if s_X0_kind v = 2 then (8589934592 : Int64) else if s_X0_kind v = 3 then (17179869184 : Int64) else v
def Ap9 (pt : Nat) (Zs : List (Int64 × Nat)) (L : Nat) (μ q : Mem) : Prop := q.2.2 = μ.2.2 ∧ (q.1 pt 2).toInt = ((L + Zs.length : Nat) : Int) ∧ (∀ i k, ¬ (i = pt ∧ k = 2) → q.1 i k = μ.1 i k) ∧ (∀ i k, i ≠ 35 → ¬ (i = pt + 1 ∧ L ≤ k) → ¬ (i = pt + 2 ∧ L ≤ k) → q.2.1 i k = μ.2.1 i k) ∧ ∀ k p, Zs[k]? = some p → q.2.1 (pt + 1) (L + k) = tok p.1 ∧ q.2.1 (pt + 2) (L + k) = p.1
theorem c_add9 {μ : Mem} {pt L : Nat} (t s : Int64) (h1 : (sh 0 (pt + 1)).2 = 200) (h2 : (sh 0 (pt + 2)).2 = 200) (hL : (μ.1 pt 2).toInt = (L : Int)) (hl : L < 200) : pk (p_X2_add pt t s μ) (fun q => q = sF (sL (sL μ (pt + 1) L t) (pt + 2) L s) pt 2 (μ.1 pt 2 + 1)) := by
  have e2 : (Int32.ofNat 200).toInt = 200 := by decide
  rw [p_X2_add_eq, h1, h2, if_neg (by rw [ti_le, hL, e2]; omega), tn_of hL]
  refine pk_gd (fun _ => pk_bvs ?_)
  have k : ∀ t, (sL μ (pt + 1) L t).1 pt 2 = μ.1 pt 2 := fun _ => rfl
  rw [k, tn_of hL]
  exact pk_gd (fun _ => pk_bvs (pk_bvs (pk_some rfl)))
theorem Ap9.cons {pt L : Nat} {μ μ1 q : Mem} {p : Int64 × Nat} {Zs : List (Int64 × Nat)} {s : Int64} (h0 : μ1.2.2 = μ.2.2) (h1 : ∀ i k, ¬ (i = pt ∧ k = 2) → μ1.1 i k = μ.1 i k) (h2 : ∀ i k, i ≠ 35 → ¬ (i = pt + 1 ∧ k = L) → ¬ (i = pt + 2 ∧ k = L) → μ1.2.1 i k = μ.2.1 i k) (h3 : μ1.2.1 (pt + 1) L = tok p.1) (h4 : μ1.2.1 (pt + 2) L = p.1) (h : Ap9 pt Zs (L + 1) μ1 q) (hpt : 100 ≤ pt) : Ap9 pt (p :: Zs) L μ q := by
  obtain ⟨a1, a2, a3, a4, a5⟩ := h
  refine ⟨a1.trans h0, by rw [a2, List.length_cons]; omega, fun i k hk => (a3 i k hk).trans (h1 i k hk), fun i k c1 c2 c3 => (a4 i k c1 (fun e => c2 ⟨e.1, by omega⟩) (fun e => c3 ⟨e.1, by omega⟩)).trans (h2 i k c1 (fun e => c2 ⟨e.1, by omega⟩) (fun e => c3 ⟨e.1, by omega⟩)), fun k p' hk => ?_⟩
  cases k with
  | zero =>
    have : p = p' := by simpa using hk
    subst this
    have e0 : L + 0 = L := rfl
    rw [e0]
    exact ⟨by rw [a4 (pt + 1) L (by omega) (by omega) (by omega)]; exact h3, by rw [a4 (pt + 2) L (by omega) (by omega) (by omega)]; exact h4⟩
  | succ k =>
    have := a5 k p' (by simpa using hk)
    rw [show L + (k + 1) = L + 1 + k by omega]; exact this
def St9 (μ : Mem) : List (Int64 × Nat × List (Int64 × Nat)) → Prop
  | [] => True
  | p :: W => μ.2.1 35 W.length = p.1 ∧ St9 μ W
def fl9 (W : List (Int64 × Nat × List (Int64 × Nat))) : List (Int64 × Nat) := (W.map (fun p => p.2.2)).flatten
theorem St9.cong {μ q : Mem} : ∀ {W : List (Int64 × Nat × List (Int64 × Nat))}, St9 μ W → (∀ k, k < W.length → q.2.1 35 k = μ.2.1 35 k) → St9 q W := by
  intro W
  induction W with
  | nil => intro _ _; trivial
  | cons p W ih => intro h c; exact ⟨by rw [c _ (Nat.lt_succ_self _)]; exact h.1, ih h.2 (fun k hk => c k (Nat.lt_succ_of_lt hk))⟩
theorem fl9_le : ∀ {W : List (Int64 × Nat × List (Int64 × Nat))}, (∀ p, p ∈ W → 1 ≤ p.2.2.length) → W.length ≤ (fl9 W).length := by
  intro W
  induction W with
  | nil => intro _; exact Nat.zero_le _
  | cons q W ih =>
    intro hw
    have a1 := ih (fun p hp => hw p (List.mem_cons_of_mem _ hp))
    have a2 := hw q List.mem_cons_self
    show W.length + 1 ≤ (q.2.2 ++ fl9 W).length
    rw [List.length_append]; omega
theorem tok_p (k : Int32) : tok (s_X0_make (nI 2) k) = 8589934592 := by
  unfold tok
  rw [mk_kind 2 (by decide) k, if_pos (by decide)]
def Ps9 (pt : Nat) : Prop := (sh 0 (pt + 1)).2 = 200 ∧ (sh 0 (pt + 2)).2 = 200
end

section
theorem nle0 {a : Int32} {k : Nat} (h : a.toInt = ((k + 1 : Nat) : Int)) : ¬ a ≤ 0 := by
  have e0 : (0 : Int32).toInt = 0 := by decide
  rw [ti_le, h, e0]; omega
theorem nleM {a : Int32} {k : Nat} (h : a.toInt = (k : Int)) (hk : k ≤ 1000) : ¬ 30200 ≤ a := by
  have e0 : (30200 : Int32).toInt = 30200 := by decide
  rw [ti_le, h, e0]; omega
theorem nl264 {a : Int32} {k : Nat} (h : a.toInt = (k : Int)) (hk : k ≤ 264) : ¬ 264 < a := by
  have e0 : (264 : Int32).toInt = 264 := by decide
  rw [ti_lt, h, e0]; omega
theorem tm1 {a : Int32} {k : Nat} (h : a.toInt = ((k + 1 : Nat) : Int)) : (a + -1).toInt = (k : Int) := by
  have em : (-1 : Int32).toInt = -1 := by decide
  have := ti_hi a
  rw [ti_add (by rw [em]; omega) (by rw [em]; omega), h, em]; omega
theorem tp1 {a : Int32} {k : Nat} (h : a.toInt = (k : Int)) (hk : k ≤ 100000) : (a + 1).toInt = ((k + 1 : Nat) : Int) := by
  have e1 : (1 : Int32).toInt = 1 := by decide
  rw [ti_add (by omega) (by omega), h, e1]; omega
theorem tp2 {a : Int32} {k : Nat} (h : a.toInt = (k : Int)) (hk : k ≤ 100000) : (a + 2).toInt = ((k + 2 : Nat) : Int) := by
  have e1 : (2 : Int32).toInt = 2 := by decide
  rw [ti_add (by omega) (by omega), h, e1]; omega
def Ad9 (pt L : Nat) (t s : Int64) (μ q : Mem) : Prop := q.2.2 = μ.2.2 ∧ (q.1 pt 2).toInt = ((L + 1 : Nat) : Int) ∧ (∀ i k, ¬ (i = pt ∧ k = 2) → q.1 i k = μ.1 i k) ∧ (∀ i k, i ≠ 35 → ¬ (i = pt + 1 ∧ k = L) → ¬ (i = pt + 2 ∧ k = L) → q.2.1 i k = μ.2.1 i k) ∧ q.2.1 (pt + 1) L = t ∧ q.2.1 (pt + 2) L = s
theorem c_addT {μ : Mem} {pt L : Nat} (t s : Int64) (hs : Ps9 pt) (hL : (μ.1 pt 2).toInt = (L : Int)) (hl : L < 200) : pk (p_X2_add pt t s μ) (fun q => Ad9 pt L t s μ q ∧ ∀ k, pt ≠ 33 → pt ≠ 34 → q.2.1 35 k = μ.2.1 35 k) := by
  refine pk_mono (c_add9 (L := L) t s hs.1 hs.2 hL hl) (fun q hq => ?_)
  subst hq
  have hp := tp1 hL (by omega)
  refine ⟨⟨rfl, ?_, ?_, ?_, ?_, ?_⟩, ?_⟩
  · rw [sF_v]; exact hp
  · intro i k hk; rw [sF_at, if_neg hk]; rfl
  · intro i k _ b1 b2
    show (sL (sL μ (pt + 1) L t) (pt + 2) L s).2.1 i k = _
    rw [sL_at, if_neg b2, sL_at, if_neg b1]
  · show (sL (sL μ (pt + 1) L t) (pt + 2) L s).2.1 (pt + 1) L = _
    rw [sL_at, if_neg (fun e => by have := e.1; omega), sL_at, if_pos ⟨rfl, rfl⟩]
  · show (sL (sL μ (pt + 1) L t) (pt + 2) L s).2.1 (pt + 2) L = _
    rw [sL_at, if_pos ⟨rfl, rfl⟩]
  · intro k c1 c2
    show (sL (sL μ (pt + 1) L t) (pt + 2) L s).2.1 35 k = _
    rw [sL_at, if_neg (fun e => by have := e.1; omega), sL_at, if_neg (fun e => by have := e.1; omega)]
theorem tok_leaf {μx μm : Mem} {v : Int64} {x w d : Nat} (hv : Va7 μx μm v x w d) (hx : μm.1 30 x ≠ 2) : tok v = if s_X0_kind v = 3 then (17179869184 : Int64) else v := by
  obtain ⟨_, ⟨m, hm, e3, _⟩ | ⟨_, _, _, _, _, _, _, _, _, h, _⟩⟩ := va_kind hv
  · unfold tok
    rw [e3, mk_kind m (by omega), if_neg (by rcases hm with q | q | q <;> subst q <;> decide)]
  · exact absurd h hx
theorem fl_leaf {μ μm : Mem} {pt L j W f : Nat} {a4 a5 : Int32} {v : Int64} {x w d : Nat} {Q : Mem → Prop} (hpt : 100 ≤ pt) (hs : Ps9 pt) (h4 : a4.toInt = ((W + 1 : Nat) : Int)) (h5 : a5.toInt = (j : Int)) (hj : j ≤ 1000) (hL : (μ.1 pt 2).toInt = (L : Int)) (hl : L < 200) (h35 : μ.2.1 35 W = v) (hv : Va7 μ μm v x w d) (hx : μm.1 30 x ≠ 2) (k : ∀ q v4 a5', v4.toInt = (W : Int) → a5'.toInt = ((j + 1 : Nat) : Int) → Ad9 pt L (tok v) v μ q → (∀ k, q.2.1 35 k = μ.2.1 35 k) → pk (p_X8_flatten_b13 f pt v4 a5' q) Q) : pk (p_X8_flatten_b13 (f + 1) pt a4 a5 μ) Q := by
  rw [p_X8_flatten_b13_s, if_neg (nleM h5 hj), if_neg (nle0 h4)]
  refine pk_bvy (fun v4 q4 => ?_)
  have v4t : v4.toInt = (W : Int) := by rw [q4]; exact tm1 h4
  rw [tn_of v4t, h35]
  refine pk_gd (fun _ => pk_bvs (pk_bd (c_isPair hv) ?_))
  rintro r7 μ6 ⟨g1, g2, _⟩
  have g1 : μ6 = μ := g1
  have g2 : r7 = 0 ↔ μm.1 30 x ≠ 2 := g2
  rw [g1, if_pos (g2.mpr hx), p_X8_flatten_b110_eq]
  have tk := tok_leaf hv hx
  have fin : ∀ t, t = tok v → pk (p_X8_flatten_b140 (p_X8_flatten_b13 f) pt v4 a5 v t pt μ) Q := by
    intro t ht
    subst ht
    rw [p_X8_flatten_b140_eq]
    refine pk_bw (c_addT (L := L) (tok v) v hs hL hl) (fun q hq => ?_)
    rw [p_X8_flatten_b145_eq]
    exact pk_bvs (k q v4 (a5 + 1) v4t (tp1 h5 (by omega)) hq.1 (fun k => hq.2 k (by omega) (by omega)))
  refine pk_ite (fun h3 => ?_) (fun h3 => ?_)
  · rw [p_X8_flatten_b124_eq, if_neg (by decide)]
    exact fin _ (by rw [tk, if_pos h3])
  · rw [p_X8_flatten_b124_eq, if_pos rfl]
    exact fin _ (by rw [tk, if_neg h3])
theorem fl_pair {μ μm : Mem} {pt L j W f : Nat} {a4 a5 : Int32} {v : Int64} {k x w d : Nat} {Q : Mem → Prop} (hpt : 100 ≤ pt) (hs : Ps9 pt) (h4 : a4.toInt = ((W + 1 : Nat) : Int)) (h5 : a5.toInt = (j : Int)) (hj : j ≤ 1000) (hW : W ≤ 200) (hL : (μ.1 pt 2).toInt = (L : Int)) (hl : L < 200) (h35 : μ.2.1 35 W = v) (hv : Va7 μ μm v x w d) (hx : μm.1 30 x = 2) (hvk : v = s_X0_make (nI 2) (nI k)) (hk : (nI k).toInt = (k : Int)) (go : ∀ q v4 a5', v4.toInt = ((W + 2 : Nat) : Int) → a5'.toInt = ((j + 1 : Nat) : Int) → Ad9 pt L (tok v) v μ q → (∀ l, l < W → q.2.1 35 l = μ.2.1 35 l) → q.2.1 35 W = μ.2.1 32 k → q.2.1 35 (W + 1) = μ.2.1 31 k → pk (p_X8_flatten_b13 f pt v4 a5' q) Q) : pk (p_X8_flatten_b13 (f + 1) pt a4 a5 μ) Q := by
  rw [p_X8_flatten_b13_s, if_neg (nleM h5 hj), if_neg (nle0 h4)]
  refine pk_bvy (fun v4 q4 => ?_)
  have v4t : v4.toInt = (W : Int) := by rw [q4]; exact tm1 h4
  rw [tn_of v4t, h35]
  refine pk_gd (fun _ => pk_bvs (pk_bd (c_isPair hv) ?_))
  rintro r7 μ6 ⟨g1, g2, _⟩
  have g1 : μ6 = μ := g1
  have g2 : r7 = 0 ↔ μm.1 30 x ≠ 2 := g2
  have v2 := tp2 v4t (by omega)
  have v1 := tp1 v4t (by omega)
  rw [g1, if_neg (fun e => (g2.mp e) hx), if_neg (nl264 v2 (by omega))]
  refine pk_bw (c_addT (L := L) 8589934592 v hs hL hl) (fun q hq => ?_)
  obtain ⟨⟨b1, b2, b3, b4, b5, b6⟩, b7⟩ := hq
  have hb : s_X0_bits v = nI k := by rw [hvk]; exact mk_bits 2 (by decide) _
  have ht : (8589934592 : Int64) = tok v := by rw [hvk]; exact (tok_p _).symm
  rw [hb, tn_of hk, tn_of v1]
  refine pk_gd (fun _ => pk_gd (fun _ => pk_bvs (pk_gd (fun _ => pk_gd (fun _ => pk_bvs (pk_bvs ?_))))))
  rw [p_X8_flatten_b145_eq]
  have k32 : q.2.1 32 k = μ.2.1 32 k := b4 32 k (by decide) (fun e => by have := e.1; omega) (fun e => by have := e.1; omega)
  have k31 : (sL q 35 W (q.2.1 32 k)).2.1 31 k = μ.2.1 31 k := by rw [sL_at, if_neg (fun e => by have := e.1; omega)]; exact b4 31 k (by decide) (fun e => by have := e.1; omega) (fun e => by have := e.1; omega)
  rw [k31, k32]
  refine pk_bvs (go _ _ _ v2 (tp1 h5 (by omega)) ⟨b1, b2, b3, fun i l x1 x2 x3 => ?_, ?_, ?_⟩ (fun l hl => ?_) ?_ ?_)
  · rw [sL_at, if_neg (fun e => x1 e.1), sL_at, if_neg (fun e => x1 e.1)]; exact b4 i l x1 x2 x3
  · rw [sL_at, if_neg (fun e => by have := e.1; omega), sL_at, if_neg (fun e => by have := e.1; omega), b5]; exact ht
  · rw [sL_at, if_neg (fun e => by have := e.1; omega), sL_at, if_neg (fun e => by have := e.1; omega)]; exact b6
  · rw [sL_at, if_neg (fun e => by have := e.2; omega), sL_at, if_neg (fun e => by have := e.2; omega)]; exact b7 l (by omega) (by omega)
  · rw [sL_at, if_neg (fun e => by have := e.2; omega), sL_at, if_pos ⟨rfl, rfl⟩]
  · rw [sL_at, if_pos ⟨rfl, rfl⟩]
theorem pre_len {μ0 μm : Mem} : ∀ (g : Nat) {v : Int64} {x : Nat} {Z : List (Int64 × Nat)}, Pre9 μ0 μm g v x Z → 1 ≤ Z.length := by
  intro g
  cases g with
  | zero => intro v x Z h; rw [h.2]; exact Nat.le_refl _
  | succ g =>
    intro v x Z h
    rcases h with ⟨_, h⟩ | ⟨_, _, _, _, _, _, _, _, _, _, h, _⟩
    · rw [h]; exact Nat.le_refl _
    · rw [h, List.length_cons]; omega
theorem pre_leaf {μ0 μm : Mem} {g : Nat} {v : Int64} {x : Nat} {Z : List (Int64 × Nat)} (h : Pre9 μ0 μm g v x Z) (c : μm.1 30 x ≠ 2) : Z = [(v, x)] := by
  cases g with
  | zero => exact h.2
  | succ g =>
    rcases h with ⟨_, h⟩ | ⟨_, _, _, _, _, _, _, h, _⟩
    · exact h
    · exact absurd h c
theorem pre_pair {μ0 μm : Mem} {g : Nat} {v : Int64} {x w d : Nat} {Z : List (Int64 × Nat)} (h : Pre9 μ0 μm g v x Z) (hv : Va7 μ0 μm v x w d) (c : μm.1 30 x = 2) : ∃ (k y z : Nat) (Z1 Z2 : List (Int64 × Nat)), v = s_X0_make (nI 2) (nI k) ∧ (nI k).toInt = (k : Int) ∧ (μm.1 31 x).toInt = (y : Int) ∧ (μm.1 32 x).toInt = (z : Int) ∧ Z = (v, x) :: (Z1 ++ Z2) ∧ (∃ g, Pre9 μ0 μm g (μ0.2.1 31 k) y Z1) ∧ (∃ g, Pre9 μ0 μm g (μ0.2.1 32 k) z Z2) ∧ (∃ w d, Va7 μ0 μm (μ0.2.1 31 k) y w d) ∧ (∃ w d, Va7 μ0 μm (μ0.2.1 32 k) z w d) := by
  cases g with
  | zero => exact absurd c h.1
  | succ g =>
    rcases h with ⟨h, _⟩ | ⟨k, y, z, Z1, Z2, b1, b2, b3, b4, b5, b6, b7, b8⟩
    · exact absurd c h
    obtain ⟨_, ⟨m, hm, _, e3, _⟩ | ⟨k', y', z', w1, w2, d1, d2, u1, u2, u3, u4, u5, _, _, _, _, _, _, va1, va2⟩⟩ := va_kind hv
    · rw [c] at e3
      rcases hm with q | q | q <;> subst q <;> exact absurd e3 (by decide)
    have kn := sz_lt b2
    have kn' := sz_lt u2
    have hkk : k = k' := by
      have := congrArg s_X0_bits (b1.symm.trans u1)
      rw [mk_bits 2 (by decide), mk_bits 2 (by decide)] at this
      have := congrArg Int32.toInt this
      omega
    subst hkk
    have ey : y = y' := by omega
    have ez : z = z' := by omega
    subst ey; subst ez
    exact ⟨k, y, z, Z1, Z2, b1, kn.1, b4, b5, b6, ⟨g, b7⟩, ⟨g, b8⟩, ⟨w1, d1, va1⟩, ⟨w2, d2, va2⟩⟩
def Wt9 (μ0 μm : Mem) (p : Int64 × Nat × List (Int64 × Nat)) : Prop := (∃ g, Pre9 μ0 μm g p.1 p.2.1 p.2.2) ∧ ∃ w d, Va7 μ0 μm p.1 p.2.1 w d
theorem c_flat {μ0 μm : Mem} {pt : Nat} (hpt : 100 ≤ pt) (hs : Ps9 pt) : ∀ (n : Nat) (f : Nat) (W : List (Int64 × Nat × List (Int64 × Nat))) (μ : Mem) (a4 a5 : Int32) (L j : Nat), (fl9 W).length = n → a4.toInt = (W.length : Int) → a5.toInt = (j : Int) → j + n ≤ 1000 → (μ.1 pt 2).toInt = (L : Int) → L + n ≤ 200 → St9 μ W → (∀ p, p ∈ W → Wt9 μ0 μm p) → (∀ i k, ¬ (i = pt ∧ k = 2) → μ.1 i k = μ0.1 i k) → (∀ i k, i ≠ 35 → i ≠ pt + 1 → i ≠ pt + 2 → μ.2.1 i k = μ0.2.1 i k) → pk (p_X8_flatten_b13 f pt a4 a5 μ) (fun q => Ap9 pt (fl9 W) L μ q) := by
  intro n
  induction n with
  | zero =>
    intro f W μ a4 a5 L j hn h4 h5 hj hL hL2 hS hW c1 c2
    have hW0 : W = [] := by
      cases W with
      | nil => rfl
      | cons p W =>
        obtain ⟨⟨g, hg⟩, _⟩ := hW p List.mem_cons_self
        have := pre_len g hg
        have hn : (p.2.2 ++ fl9 W).length = 0 := hn
        rw [List.length_append] at hn; omega
    subst hW0
    have rf : Ap9 pt (fl9 []) L μ μ := ⟨rfl, hL, fun _ _ _ => rfl, fun _ _ _ _ _ => rfl, fun k p hk => by cases hk⟩
    cases f with
    | zero => intro r e; rw [p_X8_flatten_b13_z] at e; exact absurd e (by simp)
    | succ f =>
      have h4 : a4.toInt = 0 := h4
      have e0 : (0 : Int32).toInt = 0 := by decide
      rw [p_X8_flatten_b13_s, if_neg (nleM h5 (by omega)), if_pos (by rw [ti_le, h4, e0]; omega)]
      exact pk_some rf
  | succ n ih =>
    intro f W μ a4 a5 L j hn h4 h5 hj hL hL2 hS hW c1 c2
    cases W with
    | nil => exact absurd hn (by simp [fl9])
    | cons p W =>
      obtain ⟨v, x, Z⟩ := p
      have hn : (Z ++ fl9 W).length = n + 1 := hn
      rw [List.length_append] at hn
      obtain ⟨⟨g, hp⟩, w, d, hv⟩ := hW (v, x, Z) List.mem_cons_self
      have hp : Pre9 μ0 μm g v x Z := hp
      have hv : Va7 μ0 μm v x w d := hv
      have hS1 : μ.2.1 35 W.length = v := hS.1
      have h4 : a4.toInt = ((W.length + 1 : Nat) : Int) := h4
      cases f with
      | zero => intro r e; rw [p_X8_flatten_b13_z] at e; exact absurd e (by simp)
      | succ f =>
        have hWl : W.length ≤ (fl9 W).length := fl9_le (fun p hp => by
          obtain ⟨⟨g, hg⟩, _⟩ := hW p (List.mem_cons_of_mem _ hp)
          exact pre_len g hg)
        have gx : Gs7 μ0 μ := gs_same (c1 30 5 (by omega)) (fun k => c2 31 k (by decide) (by omega) (by omega)) (fun k => c2 32 k (by decide) (by omega) (by omega)) (fun k => c1 33 k (by omega)) (fun k => c1 34 k (by omega))
        have hv' := hv.gr gx Gh7.rf
        have k31 : ∀ k, μ.2.1 31 k = μ0.2.1 31 k := fun k => c2 31 k (by decide) (by omega) (by omega)
        have k32 : ∀ k, μ.2.1 32 k = μ0.2.1 32 k := fun k => c2 32 k (by decide) (by omega) (by omega)
        by_cases c : μm.1 30 x = 2
        · obtain ⟨k, y, z, Z1, Z2, a1, a2, a3, a4', a5', a6, a7, a8, a9⟩ := pre_pair hp hv c
          rw [a5', List.length_cons, List.length_append] at hn
          refine fl_pair (L := L) (j := j) (W := W.length) (k := k) hpt hs h4 h5 (by omega) (by omega) hL (by omega) hS1 hv' c a1 a2 (fun q v4 a5n t4 t5 ad r1 r2 r3 => ?_)
          obtain ⟨b1, b2, b3, b4, b5, b6⟩ := ad
          have fin := ih f ((μ0.2.1 31 k, y, Z1) :: (μ0.2.1 32 k, z, Z2) :: W) q v4 a5n (L + 1) (j + 1) (by show (Z1 ++ (Z2 ++ fl9 W)).length = n; rw [List.length_append, List.length_append]; omega) t4 t5 (by omega) b2 (by omega) ⟨by show q.2.1 35 (W.length + 1) = _; rw [r3, k31], by show q.2.1 35 W.length = _; rw [r2, k32], hS.2.cong r1⟩ (fun p hp => by
            rcases List.mem_cons.mp hp with e | hp
            · rw [e]; exact ⟨a6, a8⟩
            · rcases List.mem_cons.mp hp with e | hp
              · rw [e]; exact ⟨a7, a9⟩
              · exact hW p (List.mem_cons_of_mem _ hp)) (fun i l hl => (b3 i l hl).trans (c1 i l hl)) (fun i l x1 x2 x3 => (b4 i l x1 (fun e => x2 e.1) (fun e => x3 e.1)).trans (c2 i l x1 x2 x3))
          refine pk_mono fin (fun q2 hq2 => ?_)
          have e3 : fl9 ((v, x, Z) :: W) = (v, x) :: fl9 ((μ0.2.1 31 k, y, Z1) :: (μ0.2.1 32 k, z, Z2) :: W) := by
            show Z ++ fl9 W = (v, x) :: (Z1 ++ (Z2 ++ fl9 W))
            rw [a5']; simp
          rw [e3]
          exact Ap9.cons (s := v) b1 b3 b4 b5 b6 hq2 hpt
        · have hZ := pre_leaf hp c
          subst hZ
          refine fl_leaf (L := L) (j := j) (W := W.length) hpt hs h4 h5 (by omega) hL (by omega) hS1 hv' c (fun q v4 a5' t4 t5 ad r1 => ?_)
          obtain ⟨b1, b2, b3, b4, b5, b6⟩ := ad
          have hn : 1 + (fl9 W).length = n + 1 := hn
          refine pk_mono (ih f W q v4 a5' (L + 1) (j + 1) (by omega) t4 t5 (by omega) b2 (by omega) (hS.2.cong (fun l _ => r1 l)) (fun p hp => hW p (List.mem_cons_of_mem _ hp)) (fun i l hl => (b3 i l hl).trans (c1 i l hl)) (fun i l x1 x2 x3 => (b4 i l x1 (fun e => x2 e.1) (fun e => x3 e.1)).trans (c2 i l x1 x2 x3))) (fun q2 hq2 => ?_)
          exact Ap9.cons (s := v) b1 b3 b4 b5 b6 hq2 hpt
end
