section
theorem ps_140 : (sh 0 140).2 = 8 ∧ (sh 0 141).2 = 8 := ⟨rfl, rfl⟩
def Lv9 (q : Mem) : Prop := ∀ k, k < 8 → q.2.1 140 k = s_X0_make (nI 3) (nI k)
theorem dec1 {a : Int32} {i : Nat} (h : a.toInt = (i : Int)) : (a + (-1)).toInt = (i : Int) - 1 := by
  have em : (-1 : Int32).toInt = -1 := by decide
  have := ti_hi a
  rw [ti_add (by omega) (by omega), h, em]; omega
theorem decs {a : Int32} {i : Nat} (h : a.toInt = ((i + 1 : Nat) : Int)) : (a + (-1)).toInt = (i : Int) := by
  rw [dec1 h]; omega
theorem subs {a : Int32} {i : Nat} (h : a.toInt = ((i + 1 : Nat) : Int)) : (a - 1).toInt = (i : Int) := by
  have e1 : (1 : Int32).toInt = 1 := by decide
  have := ti_hi a
  rw [ti_sub (by omega) (by omega), h, e1]; omega
theorem dec2 {a : Int32} {i : Nat} (h : a.toInt = ((i + 2 : Nat) : Int)) : (a + (-2)).toInt = (i : Int) := by
  have em : (-2 : Int32).toInt = -2 := by decide
  have := ti_hi a
  rw [ti_add (by omega) (by omega), h, em]; omega
theorem inc1 {a : Int32} {i : Nat} (h : a.toInt = (i : Int)) (hi : i < 100000) : (a + 1).toInt = ((i + 1 : Nat) : Int) := by
  have e1 : (1 : Int32).toInt = 1 := by decide
  rw [ti_add (by omega) (by omega), h, e1]; omega
theorem nlt0 {a : Int32} {i : Nat} (h : a.toInt = (i : Int)) : ¬ a < 0 := by
  have e0 : (0 : Int32).toInt = 0 := by decide
  rw [ti_lt, h, e0]; omega
theorem nle8 {a : Int32} {i : Nat} (h : a.toInt = (i : Int)) (hi : i < 8) : ¬ Int32.ofNat 8 ≤ a := by
  have e8 : (Int32.ofNat 8).toInt = 8 := by decide
  rw [ti_le, h, e8]; omega
theorem nlt2 {a : Int32} {i : Nat} (h : a.toInt = ((i + 2 : Nat) : Int)) : ¬ a < 2 := by
  have e2 : (2 : Int32).toInt = 2 := by decide
  rw [ti_lt, h, e2]; omega
theorem lt0 {a : Int32} (h : a.toInt = ((0 : Nat) : Int) - 1) : a < 0 := by
  have e0 : (0 : Int32).toInt = 0 := by decide
  rw [ti_lt, h, e0]; omega
theorem inb_of {a : Int32} {i n : Nat} (h : a.toInt = (i : Int)) (hi : i < n) : inb a n = true := inb_iff.mpr (by rw [h]; omega)
theorem ix210 {a1 b3 : Int32} {u i : Nat} (h1 : a1.toInt = (u : Int)) (hu : u ≤ 24) (h3 : b3.toInt = (i : Int)) (hi : i ≤ 200) : (210 * a1 + b3).toInt = ((210 * u + i : Nat) : Int) := by
  have e210 : (210 : Int32).toInt = 210 := by decide
  have hm : (210 * a1).toInt = 210 * (u : Int) := by rw [ti_mul (by rw [e210, h1]; omega) (by rw [e210, h1]; omega), e210, h1]
  rw [ti_add (by omega) (by omega), hm, h3]; omega
def BS9 (T : List Int64) (s0 : Nat) (q0 z0 : Mem) (i m : Nat) (a4 a5 a6 b2 b3 : Int32) (q z : Mem) : Prop := i ≤ T.length ∧ a6.toInt = (i : Int) - 1 ∧ b3.toInt = (i : Int) - 1 ∧ a4.toInt = (m : Int) ∧ (z.1 0 58).toInt = (m : Int) ∧ Wf9 (T.drop i) m ∧ a5.toInt = (ns8 (T.take i) : Int) ∧ b2.toInt = (ns8 (T.take i) : Int) ∧ Bp9 (T.drop i) m q z ∧ Xb9 q0 q ∧ (0 ≤ (q.1 30 5).toInt ∧ (q.1 30 5).toInt + (i : Int) ≤ ((s0 + T.length : Nat) : Int)) ∧ Zb9 z0 z
theorem c_bstar {pt c m f N8 : Nat} {v a4 a6 : Int32} {q : Mem} (hd : v.toInt = (c : Int)) (hc : c < 8) (hN : N8 = 8) (h4 : a4.toInt = (m : Int)) (hm : m < 264) : (if v < 0 then p_X8_build_b62 (p_X8_build_b17 f) pt 140 141 a4 v a6 q else (if (Int32.ofNat N8) ≤ v then p_X8_build_b62 (p_X8_build_b17 f) pt 140 141 a4 v a6 q else gd (inb v N8) (p_X8_build_b63 (p_X8_build_b17 f) pt 140 141 a4 v a6 (q.2.1 140 v.toNatClampNeg) q))) = p_X8_build_b17 f pt 140 141 (a4 + 1) v (a6 + (-1)) (sL q 35 m (q.2.1 140 c)) := by
  subst hN
  rw [if_neg (nlt0 hd), if_neg (nle8 hd hc), gd_t (inb_of hd hc), tn_of hd, p_X8_build_b63_eq]
  exact c_b108e h4 hm
theorem c_bnum {pt m f : Nat} {a4 a5 a6 : Int32} {q : Mem} {v : Int64} (h4 : a4.toInt = (m : Int)) (hm : m < 264) : p_X8_build_b108 (p_X8_build_b17 f) pt 140 141 a4 a5 a6 v q = p_X8_build_b17 f pt 140 141 (a4 + 1) a5 (a6 + (-1)) (sL q 35 m v) := c_b108e h4 hm
theorem bq_star {T : List Int64} {s0 i m : Nat} {q0 z0 : Mem} {a4 a5 a6 b2 b3 : Int32} {q z z1 z2 : Mem} {t : Int64} {x : Nat} (h : BS9 T s0 q0 z0 (i + 1) m a4 a5 a6 b2 b3 q z) (h200 : T.length ≤ 200) (hlv : Lv9 q0) (h8 : ns8 T ≤ 8) (hT : T[i]? = some t) (hd : T.drop i = t :: T.drop (i + 1)) (ht : t = 17179869184) (hN : Nn7 z z1 x 3 (b2 - 1)) (fz : Zb9 z z2) (g12 : Gh7 z1 z2) (x1 : (z2.1 35 m).toInt = (x : Int)) (x2 : ∀ k, k ≠ m → z2.1 35 k = z.1 35 k) (x3 : (z2.1 0 58).toInt = ((m + 1 : Nat) : Int)) : BS9 T s0 q0 z0 i (m + 1) (a4 + 1) (a5 + (-1)) (a6 + (-1)) (b2 - 1) (b3 + (-1)) (sL q 35 m (q.2.1 140 (ns8 (T.take i)))) z2 := by
  obtain ⟨y1, y2, y3, y4, y5, y6, y7, y8, y9, ya, ⟨yb, yb'⟩, yc⟩ := h
  have htp : t ≠ 8589934592 := by rw [ht]; decide
  have hns := ns8_take hT
  rw [if_pos ht] at hns
  rw [hns] at y7 y8
  have hnl : ns8 (T.take (i + 1)) ≤ 8 := Nat.le_trans (ns8_le _) h8
  have hml := wf9_len y6
  rw [List.length_drop] at hml
  have hv : q.2.1 140 (ns8 (T.take i)) = s_X0_make (nI 3) (nI (ns8 (T.take i))) := by rw [ya.2.2.1 140 _ (by decide) (by decide) (by decide)]; exact hlv _ (by omega)
  have hb : b2 - 1 = nI (ns8 (T.take i)) := ti_eq.mpr (by rw [subs y8, ni_ti (by omega)])
  rw [hb] at hN
  have hva : Va7 (sL q 35 m (q.2.1 140 (ns8 (T.take i)))) z2 (s_X0_make (nI 3) (nI (ns8 (T.take i)))) x 1 0 := (hN.leaf (μx := sL q 35 m (q.2.1 140 (ns8 (T.take i)))) (Or.inr (Or.inr rfl))).gr Gs7.rf g12
  refine ⟨by omega, dec1 (by rw [y2]; omega), dec1 (by rw [y3]; omega), inc1 y4 (by omega), x3, by rw [hd]; exact ⟨by omega, by rw [if_neg htp]; exact y6⟩, decs y7, subs y8, ?_, ya.tr xb9_l, ⟨yb, ?_⟩, yc.tr fz⟩
  · rw [hd]
    refine bp9_leaf (d := 0) y9 htp xb9_l.2.2.2 fz.2.2.2 (fun k hk => by rw [sL_at, if_neg (by omega)]) (fun k hk => x2 k (by omega)) x1 ?_
    rw [sL_at, if_pos ⟨rfl, rfl⟩, hv]
    rw [hv] at hva
    exact hva
  · show (q.1 30 5).toInt + _ ≤ _
    omega
theorem bq_num {T : List Int64} {s0 i m l : Nat} {q0 z0 : Mem} {a4 a5 a6 b2 b3 b : Int32} {q z z1 z2 : Mem} {t : Int64} {x : Nat} (h : BS9 T s0 q0 z0 (i + 1) m a4 a5 a6 b2 b3 q z) (h200 : T.length ≤ 200) (hT : T[i]? = some t) (hd : T.drop i = t :: T.drop (i + 1)) (hts : t ≠ 17179869184) (htp : t ≠ 8589934592) (hl : l = 0 ∨ l = 1) (ht : t = s_X0_make (nI l) b) (hN : Nn7 z z1 x (nI l) b) (fz : Zb9 z z2) (g12 : Gh7 z1 z2) (x1 : (z2.1 35 m).toInt = (x : Int)) (x2 : ∀ k, k ≠ m → z2.1 35 k = z.1 35 k) (x3 : (z2.1 0 58).toInt = ((m + 1 : Nat) : Int)) : BS9 T s0 q0 z0 i (m + 1) (a4 + 1) a5 (a6 + (-1)) b2 (b3 + (-1)) (sL q 35 m t) z2 := by
  obtain ⟨y1, y2, y3, y4, y5, y6, y7, y8, y9, ya, ⟨yb, yb'⟩, yc⟩ := h
  have hns := ns8_take hT
  rw [if_neg hts] at hns
  have hml := wf9_len y6
  rw [List.length_drop] at hml
  have hva : Va7 (sL q 35 m t) z2 t x 1 0 := by
    rw [ht]
    exact (hN.leaf (μx := sL q 35 m (s_X0_make (nI l) b)) (by omega)).gr Gs7.rf g12
  refine ⟨by omega, dec1 (by rw [y2]; omega), dec1 (by rw [y3]; omega), inc1 y4 (by omega), x3, by rw [hd]; exact ⟨by omega, by rw [if_neg htp]; exact y6⟩, by rw [y7, hns]; rfl, by rw [y8, hns]; rfl, ?_, ya.tr xb9_l, ⟨yb, ?_⟩, yc.tr fz⟩
  · rw [hd]
    refine bp9_leaf (d := 0) y9 htp xb9_l.2.2.2 fz.2.2.2 (fun k hk => by rw [sL_at, if_neg (by omega)]) (fun k hk => x2 k (by omega)) x1 ?_
    rw [sL_at, if_pos ⟨rfl, rfl⟩]
    exact hva
  · show (q.1 30 5).toInt + _ ≤ _
    omega
theorem bq_pair {α : Type} {F : Mem → Int64 → Option α} {K : Mem → Option Mem} {Post : α → Mem → Prop} {T : List Int64} {s0 i l : Nat} {q0 z0 : Mem} {a4 a5 a6 b2 b3 b : Int32} {q z : Mem} {t : Int64} (h : BS9 T s0 q0 z0 (i + 1) (l + 2) a4 a5 a6 b2 b3 q z) (hs1 : s0 + 200 < 30200) (h200 : T.length ≤ 200) (hT : T[i]? = some t) (hd : T.drop i = t :: T.drop (i + 1)) (ht : t = 8589934592) (hK : ∀ μ1 z2 r, BS9 T s0 q0 z0 i (l + 1) (a4 + (-2) + 1) a5 (a6 + (-1)) b2 (b3 + (-1)) (sL μ1 35 l r) z2 → pk2 (F μ1 r) (K z2) Post) : pk2 (bd (p_X8_pair (q.2.1 35 (l + 1)) (q.2.1 35 l) q) (fun r μ => F μ r)) (bw (p_X12_buildOne 2 b z) K) Post := by
  obtain ⟨y1, y2, y3, y4, y5, y6, y7, y8, y9, ya, ⟨yb, yb'⟩, yc⟩ := h
  have hts : t ≠ 17179869184 := by rw [ht]; decide
  have hns := ns8_take hT
  rw [if_neg hts] at hns
  have hml := wf9_len y6
  rw [List.length_drop] at hml
  obtain ⟨x, d1, hx, hvx⟩ := y9 0 (by omega)
  obtain ⟨y, d2, hy, hvy⟩ := y9 1 (by omega)
  have i0 : l + 2 - 1 - 0 = l + 1 := by omega
  have i1 : l + 2 - 1 - 1 = l := by omega
  rw [i0] at hx hvx
  rw [i1] at hy hvy
  rw [bh9_0] at hvx
  have hvx : Va7 q z (q.2.1 35 (l + 1)) x (bh9 (T.drop (i + 1)) 1) d1 := hvx
  have hw2 : bh9 (T.drop (i + 1)) 1 + bh9 ((T.drop (i + 1)).drop (bh9 (T.drop (i + 1)) 1)) 1 = bh9 (T.drop (i + 1)) 2 := (bh9_add (T := T.drop (i + 1)) (a := 1) (b := 1)).symm
  have hwl : bh9 (T.drop (i + 1)) 2 ≤ 200 := by
    have := bh9_le (T := T.drop (i + 1)) (n := 2)
    rw [List.length_drop] at this; omega
  obtain ⟨s, hs⟩ : ∃ s : Nat, (q.1 30 5).toInt = (s : Int) := ⟨(q.1 30 5).toInt.toNat, by omega⟩
  refine pk2_bdl (c_pair hvx hvy hs (by omega) (by omega)) (fun r μ1 hr => ?_)
  obtain ⟨r1, r2, r3, r4, r5, r6, r7⟩ := hr
  have r1 : r = s_X0_make (nI 2) (nI s) := r1
  have r2 : Fs7 q μ1 := r2
  have r3 : (μ1.1 30 5).toInt = ((s + 1 : Nat) : Int) := r3
  refine pk2_bwr (m_oneP (h := l) y5 hx hy hvx hvy (by omega)) (fun z2 hz2 => ?_)
  obtain ⟨p, z1, ⟨k1, k2, k3, k4, k5, k6⟩, g1, g2, fz2, x1, x2, x3⟩ := hz2
  have hva := (va_pair hvx hvy hx hy r2.2.2.2.2 g1 r3 r4 r5 r6 r7 k1 k2 k3 k4 k5 k6).gr (xb9_l (h := l) (v := r)).2.2.2 g2
  rw [Nat.add_assoc, hw2] at hva
  refine hK μ1 z2 r ⟨by omega, dec1 (by rw [y2]; omega), dec1 (by rw [y3]; omega), inc1 (dec2 y4) (by omega), x3, by rw [hd, ht]; exact ⟨by omega, by rw [if_pos rfl]; exact y6⟩, by rw [y7, hns]; rfl, by rw [y8, hns]; rfl, ?_, (ya.tr r2.xb).tr xb9_l, ⟨?_, ?_⟩, yc.tr fz2⟩
  · rw [hd, ht]
    refine bp9_pair (d := 1 + max d1 d2) y9 (r2.2.2.2.2.tr xb9_l.2.2.2) fz2.2.2.2 (fun k hk => by rw [sL_at, if_neg (by omega)]; exact r2.2.2.2.1 35 k (by decide) (by decide)) (fun k hk => x2 k (by omega)) x1 ?_
    rw [sL_at, if_pos ⟨rfl, rfl⟩, r1]
    rw [r1] at hva
    exact hva
  · show 0 ≤ (μ1.1 30 5).toInt
    omega
  · show (μ1.1 30 5).toInt + _ ≤ _
    omega
theorem pk2_bdbv {α β γ δ : Type} {x : δ} {f : δ → Option (γ × Mem)} {K : γ → Mem → Option α} {g : Option β} {P : α → β → Prop} (h : pk2 (bd (f x) K) g P) : pk2 (bd (bv x f) K) g P := h
theorem build2 {α : Type} {KX : Int32 → Mem → Option α} {Post : α → Mem → Prop} {T : List Int64} {pt u n s0 : Nat} {a1 : Int32} {q0 z0 : Mem} (hps : Ps9 pt) (hpt : 40 ≤ pt) (hu : u ≤ 24) (ha1 : a1.toInt = (u : Int)) (h200 : T.length ≤ 200) (hq : Py9 pt T q0) (hz : Qm9 (210 * u) T z0) (hlv : Lv9 q0) (h8 : ns8 T ≤ 8) (hs1 : s0 + 200 < 30200) (hw : Wf9 T n) (fin : ∀ (q z : Mem) (a4 : Int32), a4.toInt = (n : Int) → Bp9 T n q z → Xb9 q0 q → (q.1 30 5).toInt ≤ ((s0 + T.length : Nat) : Int) → 0 ≤ (q.1 30 5).toInt → Zb9 z0 z → (z.1 0 58).toInt = (n : Int) → pk2 (bd (p_X8_build_b148 FUEL 141 a4 (imin a4 (Int32.ofNat ((sh 0 141).2))) 0 q) KX) (p_X12_makeVariant_b137 FUEL a1 (z.1 57 a1.toNatClampNeg) 0 z) Post) : ∀ (i : Nat) (f g : Nat) (a4 a5 a6 b2 b3 : Int32) (m : Nat) (q z : Mem), BS9 T s0 q0 z0 i m a4 a5 a6 b2 b3 q z → pk2 (bd (p_X8_build_b17 f pt 140 141 a4 a5 a6 q) KX) (p_X12_makeVariant_b61 g a1 b2 b3 z) Post := by
  intro i
  induction i with
  | zero =>
    intro f g a4 a5 a6 b2 b3 m q z h
    obtain ⟨y1, y2, y3, y4, y5, y6, y7, y8, y9, ya, ⟨yb, yb'⟩, yc⟩ := h
    cases f with
    | zero => rw [p_X8_build_b17_z]; intro a b e; cases e
    | succ f =>
    cases g with
    | zero => rw [p_X12_makeVariant_b61_z]; intro a b _ e; cases e
    | succ g =>
    rw [p_X8_build_b17_s, if_pos (lt0 y2), p_X12_makeVariant_b61_s, if_pos (lt0 y3)]
    have hmn : m = n := wf9_det y6 hw
    subst hmn
    refine pk2_bdbv (pk2_gdr (fun _ => pk2_bvr ?_))
    exact fin q z a4 y4 y9 ya (by omega) yb yc y5
  | succ i ih =>
    intro f g a4 a5 a6 b2 b3 m q z h
    cases f with
    | zero => rw [p_X8_build_b17_z]; intro a b e; cases e
    | succ f =>
    cases g with
    | zero => rw [p_X12_makeVariant_b61_z]; intro a b _ e; cases e
    | succ g =>
    have h' := h
    obtain ⟨y1, y2, y3, y4, y5, y6, y7, y8, y9, ya, _, yc⟩ := h'
    have h6' : a6.toInt = (i : Int) := by omega
    have h3' : b3.toInt = (i : Int) := by omega
    have hT : T[i]? = some T[i] := List.getElem?_eq_getElem (by omega)
    have hd : T.drop i = T[i] :: T.drop (i + 1) := List.drop_eq_getElem_cons (l := T) (i := i) (by omega)
    generalize T[i] = t at hT hd
    obtain ⟨m', hm'⟩ := wf9_drop i hw (by omega)
    rw [hd] at hm'
    obtain ⟨w0, w1⟩ := hm'
    have hmm := wf9_det w1 y6
    have hml := wf9_len y6
    rw [List.length_drop] at hml
    have tq := hq.2 i t hT
    have tz := hz i t hT
    have kq : q.2.1 (pt + 1) i = t := by rw [ya.2.2.1 _ i (by omega) (by omega) (by omega)]; exact tq
    have ixz := ix210 ha1 hu h3' (by omega)
    have k60 : z.1 60 (210 * u + i) = z0.1 60 (210 * u + i) := yc.2.1 60 _ (by decide) (by omega)
    have k61 : z.1 61 (210 * u + i) = z0.1 61 (210 * u + i) := yc.2.1 61 _ (by decide) (by omega)
    rw [p_X8_build_b17_s, if_neg (nlt0 h6'), gd_t (inb_of h6' (by rw [hps.1]; omega)), tn_of h6']
    rw [p_X12_makeVariant_b61_s, if_neg (nlt0 h3')]
    refine pk2_bdbv (pk2_gdr (fun _ => pk2_bvr ?_))
    rw [kq, tn_of ixz, k60, tk_kind tz]
    by_cases c3 : z0.1 60 (210 * u + i) = 3
    · have ht : t = 17179869184 := (tk_st tz).mpr c3
      have hns := ns8_take hT
      rw [if_pos ht] at hns
      have hnl : ns8 (T.take (i + 1)) ≤ 8 := Nat.le_trans (ns8_le _) h8
      rw [hns] at y7
      rw [if_pos c3, if_pos rfl, if_pos c3, c3]
      have hc8 : ns8 (T.take i) < 8 := by omega
      have hm264 : m < 264 := by omega
      refine pk2_bdbv ?_
      rw [c_bstar (decs y7) hc8 ps_140.1 y4 hm264, p_X12_makeVariant_b91_eq]
      refine pk2_bvr ?_
      rw [if_pos rfl, p_X12_makeVariant_b118_eq]
      refine pk2_bwr (m_oneL (h := m) (by decide) y5) (fun z2 hz2 => pk2_bvr ?_)
      obtain ⟨x, z1, hN, fz2, g12, x1, x2, x3, x4, x5⟩ := hz2
      exact ih f g _ _ _ _ _ (m + 1) _ z2 (bq_star h h200 hlv h8 hT hd ht hN fz2 g12 x1 x2 x3)
    · have hts : t ≠ 17179869184 := fun e => c3 ((tk_st tz).mp e)
      have n4 : ¬ z0.1 60 (210 * u + i) = 4 := by
        rcases tk_cases tz with ⟨a, _⟩ | ⟨a, _⟩ | ⟨l, hl, a, _⟩
        · rw [a]; decide
        · rw [a]; decide
        · rw [a]; rcases hl with e | e <;> subst e <;> decide
      rw [if_neg c3, if_neg n4, if_neg c3, p_X12_makeVariant_b91_eq]
      refine pk2_bvr ?_
      rw [if_neg c3, Int32.sub_zero, tn_of ixz, k61]
      refine pk2_gdr (fun _ => ?_)
      rw [p_X12_makeVariant_b118_eq]
      by_cases c2 : z0.1 60 (210 * u + i) = 2
      · have ht : t = 8589934592 := (tk_pt tz).mpr c2
        rw [if_pos ht] at hmm
        obtain ⟨l, rfl⟩ : ∃ l, m = l + 2 := ⟨m - 2, by omega⟩
        rw [if_pos c2, c2, if_neg (nlt2 y4)]
        refine pk2_bdbv ?_
        have l1 : l < 100000 := by omega
        have l2 : l + 1 < 264 := by omega
        have l3 : l < 264 := by omega
        rw [gd_t (inb_of (inc1 (dec2 y4) l1) l2), gd_t (inb_of (dec2 y4) l3), tn_of (inc1 (dec2 y4) l1), tn_of (dec2 y4), bd_bd]
        refine bq_pair (F := fun μ1 r => bd (p_X8_build_b108 (p_X8_build_b17 f) pt 140 141 (a4 + (-2)) a5 a6 r μ1) KX) h hs1 h200 hT hd ht (fun μ1 z2 r hb => ?_)
        rw [c_b108e (dec2 y4) l3]
        exact ih f g _ _ _ _ _ (l + 1) _ z2 hb
      · have htp : t ≠ 8589934592 := fun e => c2 ((tk_pt tz).mp e)
        rw [if_neg c2, c_b108e y4 (by omega)]
        obtain ⟨l, hl, k1, k2⟩ : ∃ l : Nat, (l = 0 ∨ l = 1) ∧ z0.1 60 (210 * u + i) = nI l ∧ t = s_X0_make (nI l) (z0.1 61 (210 * u + i)) := by
          rcases tk_cases tz with ⟨a, _⟩ | ⟨a, _⟩ | h
          · exact absurd a c3
          · exact absurd a c2
          · exact h
        refine pk2_bwr (m_oneL (h := m) c2 y5) (fun z2 hz2 => pk2_bvr ?_)
        obtain ⟨x, z1, hN, fz2, g12, x1, x2, x3, x4, x5⟩ := hz2
        rw [k1] at hN
        exact ih f g _ _ _ _ _ (m + 1) _ z2 (bq_num h h200 hT hd hts htp hl k2 hN fz2 g12 x1 x2 x3)
end

section
theorem inc2 {a : Int32} {i : Nat} (h : a.toInt = (i : Int)) (hi : i < 100000) : (a + 1).toInt = ((i + 1 : Nat) : Int) := inc1 h hi
theorem sub2 {a b : Int32} {n i : Nat} (h : a.toInt = (n : Int)) (hb : b.toInt = (i : Int)) (hi : i < n) (hn : n < 100000) : (a - 1 - b).toInt = ((n - 1 - i : Nat) : Int) := by
  have e1 : (1 : Int32).toInt = 1 := by decide
  have h1 : (a - 1).toInt = (n : Int) - 1 := by rw [ti_sub (by omega) (by omega), h, e1]
  rw [ti_sub (by omega) (by omega), h1, hb]; omega
theorem c_syms {n : Nat} (hn : n ≤ 5) {q0 : Mem} {a4 a6 : Int32} (h4 : a4.toInt = (n : Int)) (h6 : a6.toInt = (n : Int)) : ∀ (m f i : Nat) (a7 : Int32) (q : Mem), n - i = m → i ≤ n → a7.toInt = (i : Int) → q.1 = q0.1 → q.2.2 = q0.2.2 → (∀ j k, j ≠ 141 → q.2.1 j k = q0.2.1 j k) → (∀ k, k < i → q.2.1 141 k = q0.2.1 35 (n - 1 - k)) → pk (p_X8_build_b148 f 141 a4 a6 a7 q) (fun r => r.1 = a6 ∧ r.2.1 = q0.1 ∧ r.2.2.2 = q0.2.2 ∧ (∀ j k, j ≠ 141 → r.2.2.1 j k = q0.2.1 j k) ∧ ∀ k, k < n → r.2.2.1 141 k = q0.2.1 35 (n - 1 - k)) := by
  intro m
  induction m with
  | zero =>
    intro f i a7 q hm hi h7 g1 g2 g3 g4
    cases f with
    | zero => intro r e; rw [p_X8_build_b148_z] at e; cases e
    | succ f =>
      rw [p_X8_build_b148_s, if_pos (by rw [ti_le, h6, h7]; omega)]
      exact pk_some ⟨rfl, g1, g2, g3, fun k hk => g4 k (by omega)⟩
  | succ m ih =>
    intro f i a7 q hm hi h7 g1 g2 g3 g4
    cases f with
    | zero => intro r e; rw [p_X8_build_b148_z] at e; cases e
    | succ f =>
      have hin : i < n := by omega
      rw [p_X8_build_b148_s, if_neg (by rw [ti_le, h6, h7]; omega), tn_of (sub2 h4 h7 hin (by omega)), tn_of h7]
      refine pk_gd (fun _ => pk_gd (fun _ => pk_bvs (pk_bvs (ih f (i + 1) _ _ (by omega) (by omega) (inc2 h7 (by omega)) ?_ ?_ (fun j k hj => ?_) (fun k hk => ?_)))))
      · exact g1
      · exact g2
      · rw [sL_at, if_neg (by omega)]; exact g3 j k hj
      · rw [sL_at]
        by_cases c : k = i
        · rw [if_pos ⟨rfl, c⟩, g3 35 _ (by decide), c]
        · rw [if_neg (by omega)]; exact g4 k (by omega)
theorem c_imin8 {a : Int32} {n N8 : Nat} (h : a.toInt = (n : Int)) (hn : n ≤ 5) (hN : N8 = 8) : imin a (Int32.ofNat N8) = a := by
  have e8 : (Int32.ofNat 8).toInt = 8 := by decide
  subst hN
  unfold imin
  split
  · next c => rw [ti_lt, h, e8] at c; omega
  · rfl
theorem c_setVar0 {q : Mem} {k : Nat} {a : Int32} {v : Int64} (ha : a.toInt = (k : Int)) (hk : k < 32) (h10 : (q.1 30 10).toInt = 0) : pk (p_X8_setVar a v q) (fun r => r = sL q 37 k v) := by
  have e0 : (0 : Int32).toInt = 0 := by decide
  have e32 : (32 : Int32).toInt = 32 := by decide
  have e992 : (992 : Int32).toInt = 992 := by decide
  have hv : ((q.1 30 10) * 32 + a).toInt = (k : Int) := by
    have hm : (q.1 30 10 * 32).toInt = 0 := by rw [ti_mul (by rw [h10, e32]; omega) (by rw [h10, e32]; omega), h10, e32]; omega
    rw [ti_add (by omega) (by omega), hm, ha]; omega
  rw [p_X8_setVar_eq]
  refine pk_bvs ?_
  rw [if_neg (by rw [ti_lt, hv, e0]; omega), if_neg (by rw [ti_le, hv, e992]; omega), tn_of hv]
  exact pk_gd (fun _ => pk_bvs (pk_some rfl))
theorem c_bindV {P pt n : Nat} {G G1 G2 : List Fn5} {f : Fn5} {q0 : Mem} {a3 : Int32} (hn : n ≤ 5) (h3 : a3.toInt = (n : Int)) (h10 : (q0.1 30 10).toInt = 0) (hsel : sel 2 (q0.2.2 137 5) = P) (hG : G = G1 ++ f :: G2) (hK : Kw (G.map fkey)) (hKt : Kt P (G.map fkey) q0) (hF : Fs5 P G q0) (hkey : (q0.1 pt 3).toInt = (ky (fkey f) : Int)) : ∀ (m g i : Nat) (a4 : Int32) (q : Mem), n - i = m → i ≤ n → a4.toInt = (i : Int) → q.1 = q0.1 → q.2.2 = q0.2.2 → (∀ j k, j ≠ 37 → q.2.1 j k = q0.2.1 j k) → (∀ k, k < i → q.2.1 37 k = q0.2.1 141 k) → pk (p_X10_beginVariant_b87 g pt a3 a4 q) (fun r => (∀ j k, ¬ (j = 137 ∧ k = 9) → r.1 j k = q0.1 j k) ∧ (r.1 137 9).toInt = (f.2.2.2 : Int) ∧ r.2.2 = q0.2.2 ∧ (∀ j k, j ≠ 37 → r.2.1 j k = q0.2.1 j k) ∧ ∀ k, k < n → r.2.1 37 k = q0.2.1 141 k) := by
  intro m
  induction m with
  | zero =>
    intro g i a4 q hm hi h4 g1 g2 g3 g4
    cases g with
    | zero => intro r e; rw [p_X10_beginVariant_b87_z] at e; cases e
    | succ g =>
      rw [p_X10_beginVariant_b87_s, if_pos (by rw [ti_le, h3, h4]; omega), g2, hsel, g1]
      have hKt' : Kt P (G.map fkey) q := Kt.of hKt (fun i k _ => by rw [g1])
      have hF' : Fs5 P G q := hF.cong (fun k _ => by rw [g1]) (fun k _ => by rw [g1]) (fun f _ => by rw [g1])
      refine pk_bd (c_start hG hK hKt' hF' hkey) ?_
      rintro r18 μ17 ⟨e1, e2⟩
      have e1 : μ17 = q := e1
      have e2 : r18.toInt = (f.2.2.2 : Int) := e2
      rw [e1]
      refine pk_bvs (pk_some ⟨fun j k hk => by rw [sF_at, if_neg hk, g1], by rw [sF_v]; exact e2, g2, g3, fun k hk => g4 k (by omega)⟩)
  | succ m ih =>
    intro g i a4 q hm hi h4 g1 g2 g3 g4
    cases g with
    | zero => intro r e; rw [p_X10_beginVariant_b87_z] at e; cases e
    | succ g =>
      rw [p_X10_beginVariant_b87_s, if_neg (by rw [ti_le, h3, h4]; omega), tn_of h4]
      refine pk_gd (fun _ => pk_bwv (c_setVar0 h4 (by omega) (by rw [g1]; exact h10)) (pk_bvs (ih g (i + 1) _ _ (by omega) (by omega) (inc2 h4 (by omega)) g1 g2 (fun j k hj => ?_) (fun k hk => ?_))))
      · rw [sL_at, if_neg (by omega)]; exact g3 j k hj
      · rw [sL_at]
        by_cases c : k = i
        · rw [if_pos ⟨rfl, c⟩, c, g3 141 _ (by decide)]
        · rw [if_neg (by omega)]; exact g4 k (by omega)
theorem m_argsV {α : Type} {F : Option α} {Post : α → Mem → Prop} {z0 q : Mem} {G G1 G2 : List Fn5} {f : Fn5} {n : Nat} {a1 a3 : Int32} (hG : G = G1 ++ f :: G2) (hP : Pn5 z0 G) (va : ∀ c, c ∈ f.2.1 → isVa c = true) (ha : a3.toInt = (G2.length : Int)) (hn : f.2.1.length = n) (hn5 : n ≤ 5) (hB : ∀ j, j < n → ∃ x w d, (z0.1 35 (n - 1 - j)).toInt = ((x : Nat) : Int) ∧ Va7 q z0 (q.2.1 37 j) x w d ∧ w ≤ 40) (h58 : (z0.1 0 58).toInt = (n : Int)) (fin : ∀ z, z.2 = z0.2 → (∀ i k, i ≠ 41 → ¬ (i = 0 ∧ k = 58) → z.1 i k = z0.1 i k) → Vr7 q z 0 f.2.1 → (z.1 5 G2.length).toInt = (tot G2 : Int) → pk2 F (gd (inb a3 73) (bw (p_X12_push 0 (z.1 5 G2.length) 0 z) (fun μ14 => bw (p_X12_goAll μ14) (fun μ16 => (if (μ16.1 0 68) = 0 then bd (p_X12_gone μ16) (fun r20 μ19 => bd (p_X12_lift r20 μ19) (fun r22 μ21 => gd (inb a1 25) (bv (sF μ21 63 a1.toNatClampNeg (μ21.1 0 87)) (fun μ23 => gd (inb a1 25) (bv (sF μ23 64 a1.toNatClampNeg (μ23.1 0 88)) (fun μ24 => gd (inb r22 100000) (gd (inb (μ24.1 0 88) 4200) (bv (sF μ24 53 (μ24.1 0 88).toNatClampNeg (μ24.1 30 r22.toNatClampNeg)) (fun μ25 => gd (inb r22 100000) (gd (inb (μ25.1 0 88) 4200) (bv (sF μ25 54 (μ25.1 0 88).toNatClampNeg (μ25.1 31 r22.toNatClampNeg)) (fun μ26 => bv (sF μ26 0 88 ((μ26.1 0 88) + 1)) (fun μ27 => gd (inb a1 25) (bv (sF μ27 65 a1.toNatClampNeg (μ27.1 0 93)) (fun μ28 => some μ28))))))))))))))) else some μ16))))) Post) : pk2 F (p_X12_makeVariant_b137 FUEL a1 a3 0 z0) Post := by
  have e0 : (0 : Int32).toInt = ((0 : Nat) : Int) := by decide
  have e5 : (5 : Int32).toInt = 5 := by decide
  have hK := hP.2.2
  rw [hG] at hK
  obtain ⟨⟨_, r3, r4, r5, _, _⟩, _, _⟩ := hK.tail
  have r3 : (z0.1 3 G2.length).toInt = (f.2.1.length : Int) := r3
  have r4 : Vr5 G2.length (shf z0) f.2.1 := r4
  have r5 : (z0.1 5 G2.length).toInt = (tot G2 : Int) := r5
  rw [hn] at r3
  have loop : ∀ (l : Nat) (j : Nat) (fu : Nat) (a4 : Int32) (y : Mem) (N1 N2 : List Int32), j + l = n → a4.toInt = (j : Int) → f.2.1 = N1 ++ N2 → N2.length = j → y.2 = z0.2 → (∀ i k, i ≠ 41 → ¬ (i = 0 ∧ k = 58) → y.1 i k = z0.1 i k) → (y.1 0 58).toInt = ((n - j : Nat) : Int) → Vr7 q y 0 N2 → pk2 F (p_X12_makeVariant_b137 fu a1 a3 a4 y) Post := by
    intro l
    induction l with
    | zero =>
      intro j fu a4 y N1 N2 hj h4 hN hN2 y1 y2 y3 y4
      cases fu with
      | zero => rw [p_X12_makeVariant_b137_z]; intro a b _ e; cases e
      | succ fu =>
        have hN1 : N1 = [] := by
          have := congrArg List.length hN
          rw [List.length_append, hN2, hn] at this
          exact List.eq_nil_of_length_eq_zero (by omega)
        have hN : f.2.1 = N2 := by rw [hN, hN1]; rfl
        rw [p_X12_makeVariant_b137_s, tn_of ha, y2 3 _ (by decide) (by omega)]
        refine pk2_gdr (fun _ => ?_)
        rw [if_pos (by rw [ti_le, r3, h4]; omega)]
        exact fin y y1 y2 (by rw [hN]; exact y4) (by rw [y2 5 _ (by decide) (by omega)]; exact r5)
    | succ l ih =>
      intro j fu a4 y N1 N2 hj h4 hN hN2 y1 y2 y3 y4
      cases fu with
      | zero => rw [p_X12_makeVariant_b137_z]; intro a b _ e; cases e
      | succ fu =>
        have hl1 : N1.length = l + 1 := by
          have := congrArg List.length hN
          rw [List.length_append, hN2, hn] at this; omega
        have hne : N1 ≠ [] := fun e => by rw [e] at hl1; exact absurd hl1 (by simp)
        have hsp := List.dropLast_concat_getLast hne
        generalize N1.getLast hne = x at hsp
        generalize N1.dropLast = N3 at hsp
        have hN' : f.2.1 = N3 ++ x :: N2 := by rw [hN, ← hsp]; simp
        have hxv : isVa x = true := va x (by rw [hN']; simp)
        obtain ⟨k, hk, hk2, hk3⟩ := va_109 hxv
        have r4' := r4
        rw [hN'] at r4'
        have nm : z0.1 4 (5 * G2.length + N2.length) = x - 109 := r4'.at
        rw [hN2] at nm
        have hbig := inb_iff (i := a3) (n := 73)
        rw [p_X12_makeVariant_b137_s, tn_of ha, y2 3 _ (by decide) (by omega)]
        refine pk2_gdr (fun g73 => ?_)
        have g73 := hbig.mp g73
        rw [if_neg (by rw [ti_le, r3, h4]; omega)]
        have m5 : ((5 : Int32) * a3).toInt = 5 * (G2.length : Int) := by
          rw [ti_mul (by rw [e5, ha]; omega) (by rw [e5, ha]; omega), e5, ha]
        have m5j : ((5 : Int32) * a3 + a4).toInt = ((5 * G2.length + j : Nat) : Int) := by
          rw [ti_add (by omega) (by omega), m5, h4]; omega
        rw [tn_of m5j, y2 4 _ (by decide) (by omega), nm]
        refine pk2_gdr (fun _ => pk2_bdvr (m_unbuild (h := n - 1 - j) (by rw [y3]; congr 1; omega)) (pk2_gdr (fun _ => pk2_bvr (pk2_bvr ?_))))
        rw [hk3]
        obtain ⟨xx, w, d, v1, v2, v3⟩ := hB j (by omega)
        have h35 : y.1 35 (n - 1 - j) = z0.1 35 (n - 1 - j) := y2 35 _ (by decide) (by omega)
        have hy58 := ti_hi (y.1 0 58)
        have e1 : (1 : Int32).toInt = 1 := by decide
        refine ih (j + 1) fu _ _ N3 (x :: N2) (by omega) (inc1 h4 (by omega)) hN' (by rw [List.length_cons, hN2]) ?_ ?_ ?_ ?_
        · exact y1
        · intro i l2 c1 c2
          rw [sF_i c1, sF_at, if_neg c2]; exact y2 i l2 c1 c2
        · rw [sF_i (by decide), sF_v, ti_sub (by omega) (by omega), y3, e1]; omega
        · have hu : Gh7 y (sF (sF y 0 58 (y.1 0 58 - 1)) 41 k (y.1 35 (n - 1 - j))) := gh_same (by rw [sF_i (by decide), sF_k (by decide)]) (fun i l2 c1 c2 => by rw [sF_i (by omega), sF_i (by omega)])
          refine Vr7.bind (x := xx) (w := w) (d := d) y4 (fun c hc => va c (by rw [hN']; simp [hc])) hxv Gs7.rf hu (fun _ _ => rfl) (fun l2 c1 => ?_) ?_ ?_ v3
          · rw [hk3] at c1
            rw [sF_k (by omega), sF_i (by decide)]
          · rw [hk3, show 14 * 0 + k = k by omega, sF_v, h35]; exact v1
          · rw [hN2, show 32 * 0 + j = j by omega]
            exact v2.gr Gs7.rf (gh_same (by rw [sF_i (by decide), sF_k (by decide)]; exact y2 0 56 (by decide) (by omega)) (fun i l2 c1 c2 => by rw [sF_i (by omega), sF_i (by omega)]; exact y2 i l2 (by omega) (by omega)))
  exact loop n 0 FUEL 0 z0 f.2.1 [] (by omega) e0 (by simp) rfl rfl (fun _ _ _ _ => rfl) (by rw [h58]; rfl) (fun a ha => by cases ha)
end

section
def It9 (q z : Mem) (It : List Nat) (v : Nat) : Prop := (q.1 39 1).toInt = (It.length : Int) ∧ (z.1 0 89).toInt = (It.length : Int) ∧ It.length ≤ 300 ∧ ∃ P O : Nat, (z.1 0 87).toInt = (P : Int) ∧ (z.1 0 88).toInt = (O : Int) ∧ ∀ i p, It[i]? = some p → p < P ∧ Is7 q z i p O ∧ ∃ u : Nat, (q.1 40 (8 * i + 6)).toInt = (u : Int) ∧ u < v ∧ (z.1 62 u).toInt ≤ (p : Int) ∧ (p : Int) < (z.1 63 u).toInt
def Vd9 (q z : Mem) (It Bk : List Nat) (cl : Nat → Prop) (u : Nat) : Prop := ∃ (bu o m : Nat) (bt : Int32), (q.1 45 (4 * u + 3)).toInt = (bu : Int) ∧ (bu : Int) < (q.1 39 6).toInt ∧ Sf8 q z It Bk cl bu (z.1 62 u).toNatClampNeg (z.1 63 u).toNatClampNeg ∧ (0 ≤ (z.1 62 u).toInt ∧ (z.1 62 u).toInt ≤ (z.1 63 u).toInt ∧ (z.1 63 u).toInt ≤ (z.1 0 87).toInt) ∧ q.1 45 (4 * u + 2) = z.1 65 u ∧ (z.1 64 u).toInt = (o : Int) ∧ (o : Int) < (z.1 0 88).toInt ∧ (m = 0 ∨ m = 1 ∨ m = 3) ∧ q.2.1 44 bu = s_X0_make (nI m) bt ∧ z.1 53 o = nI m ∧ z.1 54 o = bt
def Cv9 (z : Mem) (It : List Nat) : Prop := It.Nodup ∧ (∀ p, p ∈ It → z.1 46 p ≠ 13 ∧ z.1 46 p ≠ 14) ∧ ∀ p, p < (z.1 0 87).toNatClampNeg → z.1 46 p = 13 ∨ z.1 46 p = 14 ∨ p ∈ It
def Ord9 (z : Mem) (v : Nat) : Prop := (0 < v → z.1 62 0 = 0) ∧ (∀ u, u + 1 < v → z.1 62 (u + 1) = z.1 63 u) ∧ (0 < v → z.1 63 (v - 1) = z.1 0 87) ∧ (v = 0 → z.1 0 87 = 0)
def VS9 (P : Nat) (C : List Th3) (G : List Fn5) (v : Nat) (It Bk : List Nat) (cl : Nat → Prop) (q z : Mem) : Prop := It9 q z It v ∧ (Bk.length = It.length ∧ Cn7 q Bk ∧ Bb7 q Bk ∧ (∀ x, cl x → (x : Int) < (q.1 39 6).toInt) ∧ (0 ≤ (q.1 39 6).toInt ∧ (v : Int) ≤ (q.1 39 2).toInt)) ∧ (q.1 137 6 = 0 ∧ z.1 0 68 = 0) ∧ Pr8 q z P C G ∧ Pa7 q (sF z 0 111 (nI v - 1)) G ∧ (q.1 39 6).toInt + (q.1 39 2).toInt ≤ (v : Int) + 1 + 2 * (It.length : Int) ∧ Su5 q ∧ Cq9 q z It ∧ (q.1 39 3 = z.1 0 91 ∧ q.1 39 4 = z.1 0 96 ∧ q.1 39 5 = z.1 0 97) ∧ Lim9 q z ∧ (∀ u, u < v → Vd9 q z It Bk cl u) ∧ Cv9 z It ∧ (Lv9 q ∧ Ord9 z v)
theorem Pa7.next {μx μm z : Mem} {G : List Fn5} (h : Pa7 μx μm G) (m1 : z.1 0 110 = μm.1 0 110) (m2 : ∀ i k, i = 2 ∨ i = 3 ∨ i = 57 ∨ i = 58 ∨ i = 59 ∨ i = 60 ∨ i = 61 ∨ i = 66 → z.1 i k = μm.1 i k) (m3 : (μm.1 0 111).toInt ≤ (z.1 0 111).toInt) : Pa7 μx z G := by
  obtain ⟨V, h1, h2, h3, h4⟩ := h
  refine ⟨V, h1, by rw [m1]; exact h2, h3, fun u hu => ?_⟩
  obtain ⟨⟨f, L, a1, a2, a3, a4, a5, a6, a8, a9, a7⟩, b, bp, bw, br⟩ := h4 u hu
  refine ⟨⟨f, L, by rw [m2 57 u (by omega)]; exact a1, a2, by rw [m2 2 f (by omega), m2 3 f (by omega)]; exact a3, by rw [m2 58 u (by omega)]; exact a4, a5, a6, by rw [m2 59 u (by omega)]; exact a8, ?_, fun k hk => ?_⟩, by rw [m2 66 u (by omega)]; exact b, by rw [m2 66 u (by omega)]; exact bp, fun f L n e1 e2 e3 => ?_, fun e => ?_⟩
  · rw [m2 59 u (by omega), a9]
    refine congrArg (fun (L : List Nat) => (L.length : Int)) (List.filter_congr (fun k _ => ?_))
    rw [m2 60 _ (by omega)]
  · rw [m2 60 _ (by omega), m2 61 _ (by omega)]; exact a7 k hk
  · rw [m2 57 u (by omega)] at e1
    rw [m2 58 u (by omega)] at e2
    rw [m2 3 f (by omega)] at e3
    exact bw f L n e1 e2 e3
  · rw [m2 59 u (by omega)]; exact br (by omega)
def Bx9 (v B : Nat) (q r : Mem) : Prop := r.2.2 = q.2.2 ∧ ((r.1 39 6).toInt = ((B + 1 : Nat) : Int) ∧ ∀ k, k ≠ 6 → r.1 39 k = q.1 39 k) ∧ ((∀ k, r.1 42 k = if k = B then -1 else q.1 42 k) ∧ ∀ k, r.1 43 k = if k = B then -1 else q.1 43 k) ∧ (∀ i k, r.2.1 i k = if i = 44 ∧ k = B then 0 else q.2.1 i k) ∧ ((r.1 137 7 = nI v ∧ r.1 137 8 = nI B ∧ r.1 137 12 = 0 ∧ r.1 137 13 = 0) ∧ ∀ k, k ≠ 7 → k ≠ 8 → k ≠ 12 → k ≠ 13 → r.1 137 k = q.1 137 k) ∧ (r.1 45 (4 * v + 3) = nI B ∧ ∀ k, k ≠ 4 * v + 3 → r.1 45 k = q.1 45 k) ∧ ((r.1 30 5 = 0 ∧ r.1 30 7 = 0 ∧ r.1 30 10 = 0) ∧ ∀ k, k ≠ 5 → k ≠ 7 → k ≠ 10 → r.1 30 k = q.1 30 k) ∧ ∀ i k, i ≠ 30 → i ≠ 39 → i ≠ 42 → i ≠ 43 → i ≠ 45 → i ≠ 137 → r.1 i k = q.1 i k
theorem pk2_bwK {α β : Type} {F : Option α} {g : Option Mem} {K : Mem → Option β} {Post : α → β → Prop} (h : pk2 F g (fun a m => pk (K m) (fun s => Post a s))) : pk2 F (bw g K) Post := by
  intro a s e e2
  cases hg : g with
  | none => rw [hg] at e2; cases e2
  | some m =>
    rw [hg] at e2
    exact h a m e hg s e2
theorem pk2_someK {α β : Type} {F : Option α} {m : Mem} {K : Mem → Option β} {Post : α → β → Prop} (h : pk2 F (K m) Post) : pk2 F (some m) (fun a m => pk (K m) (fun s => Post a s)) := by
  intro a s e e2
  have e2 := Option.some.inj e2
  subst e2
  exact fun s e2 => h a s e e2
theorem c_beginV {α : Type} {KX : Mem → Option α} {g : Option Mem} {Post : α → Mem → Prop} {v V B : Nat} {q : Mem} {a1 : Int32} (h1 : a1 = nI v) (hV : (q.1 39 2).toInt = (V : Int)) (hv : v < V) (hV24 : V ≤ 24) (hB : (q.1 39 6).toInt = (B : Int)) (hb : B < 672) (hK : ∀ r, Bx9 v B q r → pk2 (bd (p_X8_build (47 + 3 * v) 140 141 r) (fun r15 μ14 => bw (p_X10_beginVariant_b87 FUEL (47 + 3 * v) r15 0 μ14) KX)) g Post) : pk2 (bw (p_X10_beginVariant a1 q) KX) g Post := by
  have ta : a1.toInt = (v : Int) := by rw [h1, ni_ti (by omega)]
  have s1 : ∀ i k, ¬ (i = 137 ∧ k = 7) → (sF q 137 7 a1).1 i k = q.1 i k := fun i k hk => by rw [sF_at, if_neg hk]
  have s7 : (sF q 137 7 a1).1 137 7 = a1 := sF_v
  have s2 : (sF q 137 7 a1).2 = q.2 := rfl
  rw [p_X10_beginVariant_eq]
  show pk2 (bw (if a1 < (sF q 137 7 a1).1 39 2 then bd (p_X5_patternOf a1 (sF q 137 7 a1)) (fun r4 μ3 => bd (p_X5_addBlock μ3) (fun r6 μ5 => bv (sF μ5 137 8 r6) (fun μ7 => bw (p_X5_setVariant a1 3 (μ7.1 137 8) μ7) (fun μ8 => bw (p_X8_clear μ8) (fun μ10 => bv (sF μ10 137 12 0) (fun μ12 => bv (sF μ12 137 13 0) (fun μ13 => bd (p_X8_build r4 140 141 μ13) (fun r15 μ14 => p_X10_beginVariant_b87 FUEL r4 r15 0 μ14)))))))) else some (sF q 137 7 a1)) KX) g Post
  generalize sF q 137 7 a1 = q1 at s1 s7 s2
  have hV1 : (q1.1 39 2).toInt = (V : Int) := by rw [s1 39 2 (by omega)]; exact hV
  rw [if_pos (by rw [ti_lt, ta, hV1]; omega)]
  have bwbd : ∀ {γ : Type} (x : Option (γ × Mem)) (k : γ → Mem → Option Mem), bw (bd x k) KX = bd x (fun a μ => bw (k a μ) KX) := by
    intro γ x k
    cases x with
    | none => rfl
    | some r => rfl
  rw [bwbd]
  refine pk2_bdl (c_patternOf ta (by omega)) ?_
  rintro r4 μ3 ⟨e1, e2⟩
  have e1 : r4 = 47 + 3 * v := e1
  have e2 : μ3 = q1 := e2
  rw [e1, e2, bwbd]
  refine pk2_bdl (c_addBlock (B := B) (by rw [s1 39 6 (by omega)]; exact hB) hb) ?_
  rintro r6 μ5 ⟨e3, e4⟩
  have e3 : r6 = nI B := e3
  have e4 : Nb7 B q1 μ5 := e4
  obtain ⟨n1, n2, n3, n4, n5, n6, n7⟩ := e4
  rw [e3]
  show pk2 (bw (bw (p_X5_setVariant a1 3 ((sF μ5 137 8 (nI B)).1 137 8) (sF μ5 137 8 (nI B))) (fun μ8 => bw (p_X8_clear μ8) (fun μ10 => bv (sF μ10 137 12 0) (fun μ12 => bv (sF μ12 137 13 0) (fun μ13 => bd (p_X8_build (47 + 3 * v) 140 141 μ13) (fun r15 μ14 => p_X10_beginVariant_b87 FUEL (47 + 3 * v) r15 0 μ14)))))) KX) g Post
  rw [sF_v]
  have t1 : ∀ i k, ¬ (i = 137 ∧ k = 8) → (sF μ5 137 8 (nI B)).1 i k = μ5.1 i k := fun i k hk => by rw [sF_at, if_neg hk]
  have t7 : (sF μ5 137 8 (nI B)).1 137 8 = nI B := sF_v
  have t2 : (sF μ5 137 8 (nI B)).2 = μ5.2 := rfl
  generalize sF μ5 137 8 (nI B) = q7 at t1 t7 t2
  have e33 : (3 : Int32).toInt = ((3 : Nat) : Int) := by decide
  rw [bw_bw]
  refine pk2_bwl (c_setVt (u := v) (c := 3) ta e33 (by rw [t1 39 2 (by omega), n3 2 (by decide), s1 39 2 (by omega)]; exact hV) hv hV24 (by decide)) (fun q8 h8 => ?_)
  have u1 : ∀ i k, ¬ (i = 45 ∧ k = 4 * v + 3) → q8.1 i k = q7.1 i k := fun i k hk => by rw [h8, sF_at, if_neg hk]
  have u7 : q8.1 45 (4 * v + 3) = nI B := by rw [h8, sF_v]
  have u2 : q8.2 = q7.2 := by rw [h8]; rfl
  rw [p_X8_clear_eq, bw_bw]
  show pk2 (bw (bd (p_X8_build (47 + 3 * v) 140 141 (sF (sF (sF (sF (sF q8 30 5 0) 30 7 0) 30 10 0) 137 12 0) 137 13 0)) (fun r15 μ14 => p_X10_beginVariant_b87 FUEL (47 + 3 * v) r15 0 μ14)) KX) g Post
  rw [bwbd]
  have w : ∀ i k, (sF (sF (sF (sF (sF q8 30 5 0) 30 7 0) 30 10 0) 137 12 0) 137 13 0).1 i k = if i = 137 ∧ k = 13 then 0 else if i = 137 ∧ k = 12 then 0 else if i = 30 ∧ k = 10 then 0 else if i = 30 ∧ k = 7 then 0 else if i = 30 ∧ k = 5 then 0 else q8.1 i k := fun i k => by rw [sF_at, sF_at, sF_at, sF_at, sF_at]
  have w2 : (sF (sF (sF (sF (sF q8 30 5 0) 30 7 0) 30 10 0) 137 12 0) 137 13 0).2 = q8.2 := rfl
  generalize sF (sF (sF (sF (sF q8 30 5 0) 30 7 0) 30 10 0) 137 12 0) 137 13 0 = r at w w2
  have wo : ∀ i k, ¬ (i = 137 ∧ (k = 12 ∨ k = 13)) → ¬ (i = 30 ∧ (k = 5 ∨ k = 7 ∨ k = 10)) → r.1 i k = q8.1 i k := fun i k c1 c2 => by rw [w, if_neg (by omega), if_neg (by omega), if_neg (by omega), if_neg (by omega), if_neg (by omega)]
  refine hK r ⟨by rw [w2, u2, t2, n1, s2], ⟨by rw [wo 39 6 (by omega) (by omega), u1 39 6 (by omega), t1 39 6 (by omega)]; exact n2, fun k hk => by rw [wo 39 k (by omega) (by omega), u1 39 k (by omega), t1 39 k (by omega), n3 k hk, s1 39 k (by omega)]⟩, ⟨fun k => by rw [wo 42 k (by omega) (by omega), u1 42 k (by omega), t1 42 k (by omega), n4 k, s1 42 k (by omega)], fun k => by rw [wo 43 k (by omega) (by omega), u1 43 k (by omega), t1 43 k (by omega), n5 k, s1 43 k (by omega)]⟩, fun i k => by rw [w2, u2, t2, n6 i k, s2], ⟨⟨?_, ?_, ?_, ?_⟩, fun k c1 c2 c3 c4 => ?_⟩, ⟨by rw [wo 45 _ (by omega) (by omega)]; exact u7, fun k hk => by rw [wo 45 k (by omega) (by omega), u1 45 k (by omega), t1 45 k (by omega), n7 45 k (by decide) (by decide) (by decide), s1 45 k (by omega)]⟩, ⟨⟨?_, ?_, ?_⟩, fun k c1 c2 c3 => ?_⟩, fun i k c1 c2 c3 c4 c5 c6 => ?_⟩
  · rw [wo 137 7 (by omega) (by omega), u1 137 7 (by omega), t1 137 7 (by omega), n7 137 7 (by decide) (by decide) (by decide), s7, h1]
  · rw [wo 137 8 (by omega) (by omega), u1 137 8 (by omega), t7]
  · rw [w, if_neg (by omega), if_pos ⟨rfl, rfl⟩]
  · rw [w, if_pos ⟨rfl, rfl⟩]
  · rw [wo 137 k (by omega) (by omega), u1 137 k (by omega), t1 137 k (by omega), n7 137 k (by decide) (by decide) (by decide), s1 137 k (by omega)]
  · rw [w, if_neg (by omega), if_neg (by omega), if_neg (by omega), if_neg (by omega), if_pos ⟨rfl, rfl⟩]
  · rw [w, if_neg (by omega), if_neg (by omega), if_neg (by omega), if_pos ⟨rfl, rfl⟩]
  · rw [w, if_neg (by omega), if_neg (by omega), if_pos ⟨rfl, rfl⟩]
  · rw [wo 30 k (by omega) (by omega), u1 30 k (by omega), t1 30 k (by omega), n7 30 k (by decide) (by decide) (by decide), s1 30 k (by omega)]
  · rw [wo i k (by omega) (by omega), u1 i k (by omega), t1 i k (by omega), n7 i k c2 c3 c4, s1 i k (by omega)]
end

section
def Bz9 (v : Nat) (z r : Mem) : Prop := r.2 = z.2 ∧ ((r.1 0 69 = 1 ∧ r.1 0 65 = 0 ∧ r.1 0 66 = 0 ∧ r.1 0 67 = 0 ∧ r.1 0 68 = 0) ∧ r.1 0 111 = nI v ∧ r.1 0 90 = 0 ∧ r.1 0 92 = 0 ∧ r.1 0 93 = z.1 59 v ∧ r.1 0 58 = 0) ∧ (∀ k, k ≠ 69 → k ≠ 65 → k ≠ 66 → k ≠ 67 → k ≠ 68 → k ≠ 111 → k ≠ 90 → k ≠ 92 → k ≠ 93 → k ≠ 58 → r.1 0 k = z.1 0 k) ∧ r.1 62 v = z.1 0 87 ∧ ∀ i k, i ≠ 0 → ¬ (i = 62 ∧ k = v) → r.1 i k = z.1 i k
theorem m_beginV {α : Type} {F : Option α} {Post : α → Mem → Prop} {v : Nat} {z : Mem} {a1 : Int32} (h1 : a1 = nI v) (hv : v < 25) (hK : ∀ r, Bz9 v z r → pk2 F (p_X12_makeVariant_b61 FUEL a1 (z.1 59 v) (z.1 58 v - 1) r) Post) : pk2 F (p_X12_makeVariant a1 z) Post := by
  have ta : a1.toInt = (v : Int) := by rw [h1, ni_ti (by omega)]
  rw [p_X12_makeVariant_eq, p_X12_begin_eq]
  refine pk2_bwr (A := fun r => r = sF (sF (sF (sF (sF z 0 69 1) 0 65 0) 0 66 0) 0 67 0) 0 68 0) (pk_gd (fun _ => pk_bvs (pk_bvs (pk_bvs (pk_bvs (pk_bvs (pk_some rfl))))))) (fun r0 h0 => ?_)
  have w0 : ∀ i k, r0.1 i k = if i = 0 ∧ k = 68 then 0 else if i = 0 ∧ k = 67 then 0 else if i = 0 ∧ k = 66 then 0 else if i = 0 ∧ k = 65 then 0 else if i = 0 ∧ k = 69 then 1 else z.1 i k := fun i k => by rw [h0, sF_at, sF_at, sF_at, sF_at, sF_at]
  have w02 : r0.2 = z.2 := by rw [h0]; rfl
  refine pk2_bvr (pk2_bvr (pk2_bvr (pk2_gdr (fun _ => pk2_bvr (pk2_gdr (fun _ => pk2_bvr (pk2_gdr (fun _ => pk2_bvr (pk2_bvr (pk2_gdr (fun _ => pk2_bvr ?_)))))))))))
  rw [tn_of ta]
  have w3 : ∀ i k, (sF (sF (sF r0 0 111 a1) 0 90 0) 0 92 0).1 i k = if i = 0 ∧ k = 92 then 0 else if i = 0 ∧ k = 90 then 0 else if i = 0 ∧ k = 111 then a1 else r0.1 i k := fun i k => by rw [sF_at, sF_at, sF_at]
  have w32 : (sF (sF (sF r0 0 111 a1) 0 90 0) 0 92 0).2 = r0.2 := rfl
  generalize sF (sF (sF r0 0 111 a1) 0 90 0) 0 92 0 = r3 at w3 w32
  have w4 : ∀ i k, (sF r3 0 93 (r3.1 59 v)).1 i k = if i = 0 ∧ k = 93 then r3.1 59 v else r3.1 i k := fun i k => by rw [sF_at]
  have w42 : (sF r3 0 93 (r3.1 59 v)).2 = r3.2 := rfl
  generalize sF r3 0 93 (r3.1 59 v) = r4 at w4 w42
  have w5 : ∀ i k, (sF r4 62 v (r4.1 0 87)).1 i k = if i = 62 ∧ k = v then r4.1 0 87 else r4.1 i k := fun i k => by rw [sF_at]
  have w52 : (sF r4 62 v (r4.1 0 87)).2 = r4.2 := rfl
  generalize sF r4 62 v (r4.1 0 87) = r5 at w5 w52
  have w6 : ∀ i k, (sF r5 0 58 0).1 i k = if i = 0 ∧ k = 58 then 0 else r5.1 i k := fun i k => by rw [sF_at]
  have w62 : (sF r5 0 58 0).2 = r5.2 := rfl
  generalize sF r5 0 58 0 = r6 at w6 w62
  have oth : ∀ i k, i ≠ 0 → ¬ (i = 62 ∧ k = v) → r6.1 i k = z.1 i k := fun i k c1 c2 => by
    rw [w6, if_neg (by omega), w5, if_neg c2, w4, if_neg (by omega), w3, if_neg (by omega), if_neg (by omega), if_neg (by omega), w0, if_neg (by omega), if_neg (by omega), if_neg (by omega), if_neg (by omega), if_neg (by omega)]
  have o0 : ∀ k, k ≠ 58 → k ≠ 93 → k ≠ 92 → k ≠ 90 → k ≠ 111 → r6.1 0 k = r0.1 0 k := fun k c1 c2 c3 c4 c5 => by
    rw [w6, if_neg (by omega), w5, if_neg (by omega), w4, if_neg (by omega), w3, if_neg (by omega), if_neg (by omega), if_neg (by omega)]
  have e59 : r5.1 59 v = z.1 59 v := by
    have := oth 59 v (by decide) (by omega)
    rw [w6, if_neg (by omega)] at this; exact this
  have e58 : r6.1 58 v = z.1 58 v := oth 58 v (by decide) (by omega)
  have r359 : r3.1 59 v = z.1 59 v := by
    rw [w3, if_neg (by omega), if_neg (by omega), if_neg (by omega), w0, if_neg (by omega), if_neg (by omega), if_neg (by omega), if_neg (by omega), if_neg (by omega)]
  rw [e59, e58]
  refine hK r6 ⟨by rw [w62, w52, w42, w32, w02], ⟨⟨?_, ?_, ?_, ?_, ?_⟩, ?_, ?_, ?_, ?_, ?_⟩, fun k c1 c2 c3 c4 c5 c6 c7 c8 c9 c0 => ?_, ?_, oth⟩
  · rw [o0 69 (by decide) (by decide) (by decide) (by decide) (by decide), w0, if_neg (by omega), if_neg (by omega), if_neg (by omega), if_neg (by omega), if_pos ⟨rfl, rfl⟩]
  · rw [o0 65 (by decide) (by decide) (by decide) (by decide) (by decide), w0, if_neg (by omega), if_neg (by omega), if_neg (by omega), if_pos ⟨rfl, rfl⟩]
  · rw [o0 66 (by decide) (by decide) (by decide) (by decide) (by decide), w0, if_neg (by omega), if_neg (by omega), if_pos ⟨rfl, rfl⟩]
  · rw [o0 67 (by decide) (by decide) (by decide) (by decide) (by decide), w0, if_neg (by omega), if_pos ⟨rfl, rfl⟩]
  · rw [o0 68 (by decide) (by decide) (by decide) (by decide) (by decide), w0, if_pos ⟨rfl, rfl⟩]
  · rw [w6, if_neg (by omega), w5, if_neg (by omega), w4, if_neg (by omega), w3, if_neg (by omega), if_neg (by omega), if_pos ⟨rfl, rfl⟩, h1]
  · rw [w6, if_neg (by omega), w5, if_neg (by omega), w4, if_neg (by omega), w3, if_neg (by omega), if_pos ⟨rfl, rfl⟩]
  · rw [w6, if_neg (by omega), w5, if_neg (by omega), w4, if_neg (by omega), w3, if_pos ⟨rfl, rfl⟩]
  · rw [w6, if_neg (by omega), w5, if_neg (by omega), w4, if_pos ⟨rfl, rfl⟩, r359]
  · rw [w6, if_pos ⟨rfl, rfl⟩]
  · rw [o0 k c0 c9 c8 c7 c6, w0, if_neg (by omega), if_neg (by omega), if_neg (by omega), if_neg (by omega), if_neg (by omega)]
  · rw [w6, if_neg (by omega), w5, if_pos ⟨rfl, rfl⟩, w4, if_neg (by omega), w3, if_neg (by omega), if_neg (by omega), if_neg (by omega), w0, if_neg (by omega), if_neg (by omega), if_neg (by omega), if_neg (by omega), if_neg (by omega)]
def VB9 (v B : Nat) (q r : Mem) : Prop := r.2.2 = q.2.2 ∧ ((r.1 39 6).toInt = ((B + 1 : Nat) : Int) ∧ ∀ k, k ≠ 6 → r.1 39 k = q.1 39 k) ∧ ((∀ k, r.1 42 k = if k = B then -1 else q.1 42 k) ∧ ∀ k, r.1 43 k = if k = B then -1 else q.1 43 k) ∧ (∀ i k, i ≠ 31 → i ≠ 32 → i ≠ 35 → i ≠ 37 → i ≠ 141 → r.2.1 i k = if i = 44 ∧ k = B then 0 else q.2.1 i k) ∧ (∀ k, k ≠ 7 → k ≠ 8 → k ≠ 9 → k ≠ 12 → k ≠ 13 → r.1 137 k = q.1 137 k) ∧ (r.1 45 (4 * v + 3) = nI B ∧ ∀ k, k ≠ 4 * v + 3 → r.1 45 k = q.1 45 k) ∧ ∀ i k, i ≠ 30 → i ≠ 33 → i ≠ 34 → i ≠ 39 → i ≠ 42 → i ≠ 43 → i ≠ 45 → i ≠ 137 → r.1 i k = q.1 i k
def VZ9 (v : Nat) (z r : Mem) : Prop := (∀ k, k ≠ 56 → k ≠ 58 → k ≠ 65 → k ≠ 66 → k ≠ 67 → k ≠ 68 → k ≠ 69 → k ≠ 90 → k ≠ 92 → k ≠ 93 → k ≠ 111 → r.1 0 k = z.1 0 k) ∧ r.1 62 v = z.1 0 87 ∧ ∀ i k, i ≠ 0 → ¬ (30 ≤ i ∧ i ≤ 35) → ¬ (37 ≤ i ∧ i ≤ 39) → i ≠ 41 → ¬ (i = 62 ∧ k = v) → r.1 i k = z.1 i k
theorem Is7.cong2 {q z q2 z2 : Mem} {i p O O2 : Nat} (h : Is7 q z i p O) (c40 : ∀ k, q2.1 40 k = q.1 40 k) (c41 : ∀ k, q2.2.1 41 k = q.2.1 41 k) (zi : ∀ j k, j = 46 ∨ j = 47 ∨ j = 48 ∨ j = 51 ∨ j = 52 ∨ j = 53 ∨ j = 54 → z2.1 j k = z.1 j k) (hO : O ≤ O2) : Is7 q2 z2 i p O2 := by
  obtain ⟨b1, b2, b3, f, m, b4, b5, b6, b7⟩ := h
  have fo : ∀ j k : Nat, Op7 q z j k → Op7 q2 z2 j k := fun j k ho => ho.cong (c41 j) (zi 53 k (by omega)) (zi 54 k (by omega))
  refine ⟨by rw [c40, zi 46 p (by omega)]; exact b1, by rw [c40, zi 47 p (by omega)]; exact b2, by rw [c40, zi 48 p (by omega)]; exact b3, f, m, by rw [zi 51 p (by omega)]; exact b4, by rw [zi 52 p (by omega)]; exact b5, by omega, ?_⟩
  rw [zi 46 p (by omega), c40]
  rcases b7 with ⟨b7, b8, b9⟩ | ⟨b7, b8, b9, b10⟩
  · exact Or.inl ⟨b7, b8, fun k hk => fo _ _ (b9 k hk)⟩
  · exact Or.inr ⟨b7, b8, b9, fun k hk => fo _ _ (b10 k hk)⟩
theorem bl_nil9 {Bk : List Nat} {b : Nat} (h : ∀ x, x ∈ Bk → x ≠ b) : Bl7 Bk b = [] := by
  unfold Bl7
  refine List.filter_eq_nil_iff.mpr (fun i _ e => ?_)
  have e := of_decide_eq_true e
  exact h b (List.mem_of_getElem? e) rfl
theorem Ct9.cong2 {z z2 : Mem} {It : List Nat} {u : Nat} (h46 : ∀ k, z2.1 46 k = z.1 46 k) (h48 : ∀ k, z2.1 48 k = z.1 48 k) : Ct9 z2 It u = Ct9 z It u := by
  unfold Ct9
  rw [show z2.1 46 = z.1 46 from funext h46, show z2.1 48 = z.1 48 from funext h48]
theorem vs_w9 {P : Nat} {C : List Th3} {G : List Fn5} {v B : Nat} {It Bk : List Nat} {cl : Nat → Prop} {q z r s : Mem} {N : List Int32} (h : VS9 P C G v It Bk cl q z) (hv : (v : Int) < (q.1 39 2).toInt) (hB : (q.1 39 6).toInt = (B : Int)) (fx : VB9 v B q r) (fz : VZ9 v z s) (hx : r.1 137 7 = nI v ∧ r.1 137 8 = nI B ∧ r.1 137 12 = 0 ∧ r.1 137 13 = 0 ∧ r.1 30 7 = 0 ∧ r.1 30 10 = 0) (hz : s.1 0 69 = 1 ∧ (s.1 0 65).toInt = 1 ∧ s.1 0 66 = 0 ∧ s.1 0 67 = 0 ∧ s.1 0 68 = 0 ∧ s.1 0 111 = nI v ∧ s.1 0 90 = 0 ∧ s.1 0 92 = 0 ∧ s.1 0 93 = z.1 59 v) (hV : Vr7 r s 0 N) (hN : ∀ c, c ∈ N → isVa c = true) : W9 P C G v B (z.1 0 87).toNatClampNeg 0 0 N 1 0 0 r s It Bk cl := by
  have e0 : (0 : Int32).toInt = ((0 : Nat) : Int) := by decide
  obtain ⟨⟨t1, t2, t3, Pp, Oo, tP, tO, tI⟩, ⟨hl, hC, hBb, hcl, _⟩, ⟨k6, k68⟩, hP, hA, hbd, hsu, hq, ⟨u1, u2, u3⟩, hL, _, _, _⟩ := h
  obtain ⟨x1, ⟨x2, x2'⟩, ⟨x3, x3'⟩, x4, x5, ⟨x6, x6'⟩, x7⟩ := fx
  obtain ⟨z1, z2, z3⟩ := fz
  obtain ⟨a1, a2, a3, a4, a5, a6⟩ := hx
  obtain ⟨b1, b2, b3, b4, b5, b6, b7, b8, b9⟩ := hz
  have hA' := hA
  obtain ⟨V, hV1, hV2, hV24, hVa⟩ := hA'
  have hvV : v < V := by omega
  have hv24 : v < 24 := by omega
  have r41 : ∀ k, r.2.1 41 k = q.2.1 41 k := fun k => by rw [x4 41 k (by decide) (by decide) (by decide) (by decide) (by decide), if_neg (by omega)]
  have r40 : ∀ k, r.1 40 k = q.1 40 k := fun k => x7 40 k (by decide) (by decide) (by decide) (by decide) (by decide) (by decide) (by decide) (by decide)
  have zi : ∀ i k, 46 ≤ i → i ≤ 61 → s.1 i k = z.1 i k := fun i k c1 c2 => z3 i k (by omega) (by omega) (by omega) (by omega) (by omega)
  have nv : (nI v).toInt = (v : Int) := ni_ti (by omega)
  have hbn : ∀ x, x ∈ Bk → x ≠ B := fun x hx e => by have := hBb x hx; omega
  have hreg : r.1 45 (4 * v + 2) = s.1 0 93 := by
    rw [x6' _ (by omega), b9]
    obtain ⟨_, _, _, _, br⟩ := hVa v hvV
    have e1 : (1 : Int32).toInt = 1 := by decide
    have := br (by rw [sF_v, ti_sub (by rw [nv, e1]; omega) (by rw [nv, e1]; omega), nv, e1]; omega)
    rw [this, sF_i (by decide)]
  have hPa : Pa7 r s G := by
    refine ((hA.next (z := sF z 0 111 (nI v)) (by rw [sF_k (by decide), sF_k (by decide)]) (fun i k _ => by rw [sF_i (by omega), sF_i (by omega)]) ?_)).of (x2' 2 (by decide)) (fun i k c1 c2 => ⟨x7 i k (by omega) (by omega) (by omega) (by omega) (by omega) (by omega) (by omega) (by omega), by rw [x4 i k (by omega) (by omega) (by omega) (by omega) (by omega), if_neg (by omega)]⟩) (fun u => x6' _ (by omega)) ?_ (fun i k hi => ?_) (fun u _ => x6' _ (by omega)) ?_
    · rw [sF_v, sF_v]
      have e1 : (1 : Int32).toInt = 1 := by decide
      rw [ti_sub (by rw [nv, e1]; omega) (by rw [nv, e1]; omega), nv, e1]; omega
    · rw [z1 110 (by decide) (by decide) (by decide) (by decide) (by decide) (by decide) (by decide) (by decide) (by decide) (by decide) (by decide), sF_k (by decide)]
    · rw [z3 i k (by omega) (by omega) (by omega) (by omega) (by omega), sF_i (by omega)]
    · rw [b6, sF_v]
  refine ⟨⟨⟨⟨by rw [x2' 1 (by decide)]; exact t1, by rw [z1 89 (by decide) (by decide) (by decide) (by decide) (by decide) (by decide) (by decide) (by decide) (by decide) (by decide) (by decide)]; exact t2, t3, hreg, Pp, Oo, by rw [z1 87 (by decide) (by decide) (by decide) (by decide) (by decide) (by decide) (by decide) (by decide) (by decide) (by decide) (by decide)]; exact tP, by rw [z1 88 (by decide) (by decide) (by decide) (by decide) (by decide) (by decide) (by decide) (by decide) (by decide) (by decide) (by decide)]; exact tO, by rw [z2, tP]; omega, fun i p hi => ?_⟩, hl, ?_, ⟨by rw [x5 6 (by decide) (by decide) (by decide) (by decide) (by decide)]; exact k6, by rw [a1]; exact nv, by rw [a2, ni_ti (by omega)], by rw [x2' 2 (by decide)]; exact hv, hv24, by rw [x2]; omega⟩, fun hc => by have := hcl B hc; omega, ⟨b5, b1⟩, ?_⟩, ?_, ⟨by rw [a5]; exact e0, by rw [b3]; exact e0, fun k hk => absurd hk (by omega)⟩, hV, hN, ⟨by rw [a6]; exact e0, by rw [b4]; exact e0, by rw [b8]; exact e0, by omega⟩, ⟨by rw [a3]; exact e0, by rw [a4]; exact e0, by rw [b7]; exact e0⟩, by rw [b2]; rfl, ⟨?_, ?_, ?_⟩, fun k hk => ?_, by rw [b6, a1]⟩, ?_, hPa, fun x hx => by have := hcl x hx; omega, ?_, hsu.of x1, fun u hu => ?_⟩
  · obtain ⟨c1, c2, u, c3, c4, c5, c6⟩ := tI i p hi
    refine ⟨c1, c2.cong2 r40 r41 (fun j k hj => zi j k (by omega) (by omega)) (Nat.le_refl _), u, by rw [r40]; exact c3, by omega, ?_, fun hu => ?_⟩
    · rw [z3 62 u (by decide) (by omega) (by omega) (by decide) (by omega)]; exact c5
    · rw [z3 63 u (by decide) (by omega) (by omega) (by decide) (by omega)]; exact c6
  · intro b2 h2
    rw [x2] at h2
    by_cases e : b2 = B
    · rw [e, bl_nil9 hbn]
      refine ⟨fun _ => ⟨by rw [x3, if_pos rfl], by rw [x3', if_pos rfl]⟩, fun k i hk => by cases hk⟩
    · exact (hC b2 (by omega)).cong (by rw [x3, if_neg e]) (by rw [x3', if_neg e]) (fun i _ => r40 _)
  · rw [bl_nil9 hbn, z1 87 (by decide) (by decide) (by decide) (by decide) (by decide) (by decide) (by decide) (by decide) (by decide) (by decide) (by decide)]
    exact Sg7.nil
  · intro x hx
    have := hBb x hx
    rw [x2]; omega
  · rw [x2' 3 (by decide), z1 91 (by decide) (by decide) (by decide) (by decide) (by decide) (by decide) (by decide) (by decide) (by decide) (by decide) (by decide)]; exact u1
  · rw [x2' 4 (by decide), z1 96 (by decide) (by decide) (by decide) (by decide) (by decide) (by decide) (by decide) (by decide) (by decide) (by decide) (by decide)]; exact u2
  · rw [x2' 5 (by decide), z1 97 (by decide) (by decide) (by decide) (by decide) (by decide) (by decide) (by decide) (by decide) (by decide) (by decide) (by decide)]; exact u3
  · rw [x5 k (by omega) (by omega) (by omega) (by omega) (by omega), z3 29 k (by decide) (by omega) (by omega) (by decide) (by omega)]; exact hL k hk
  · exact hP.of (by rw [x1]) (fun i k c1 c2 => x7 i k (by omega) (by omega) (by omega) (by omega) (by omega) (by omega) (by omega) (by omega)) (fun k hk => z1 k (by omega) (by omega) (by omega) (by omega) (by omega) (by omega) (by omega) (by omega) (by omega) (by omega) (by omega)) (fun i k c1 c2 => z3 i k (by omega) (by omega) (by omega) (by omega) (by omega)) (bh_cong hP.2.2.2.2.2.2.2.2.2 (z1 18 (by decide) (by decide) (by decide) (by decide) (by decide) (by decide) (by decide) (by decide) (by decide) (by decide) (by decide)) (fun k => z3 9 k (by decide) (by omega) (by omega) (by decide) (by omega)) (fun k => z3 10 k (by decide) (by omega) (by omega) (by decide) (by omega)))
  · rw [x2, x2' 2 (by decide)]; omega
  · have := hq u hu
    rw [x2' 2 (by decide), x6' _ (by omega), Ct9.cong2 (fun k => zi 46 k (by omega) (by omega)) (fun k => zi 48 k (by omega) (by omega))]
    exact this
end

section
noncomputable def MV9 (a1 : Int32) : Mem → Option Mem := fun μ16 => (if (μ16.1 0 68) = 0 then bd (p_X12_gone μ16) (fun r20 μ19 => bd (p_X12_lift r20 μ19) (fun r22 μ21 => gd (inb a1 25) (bv (sF μ21 63 a1.toNatClampNeg (μ21.1 0 87)) (fun μ23 => gd (inb a1 25) (bv (sF μ23 64 a1.toNatClampNeg (μ23.1 0 88)) (fun μ24 => gd (inb r22 100000) (gd (inb (μ24.1 0 88) 4200) (bv (sF μ24 53 (μ24.1 0 88).toNatClampNeg (μ24.1 30 r22.toNatClampNeg)) (fun μ25 => gd (inb r22 100000) (gd (inb (μ25.1 0 88) 4200) (bv (sF μ25 54 (μ25.1 0 88).toNatClampNeg (μ25.1 31 r22.toNatClampNeg)) (fun μ26 => bv (sF μ26 0 88 ((μ26.1 0 88) + 1)) (fun μ27 => gd (inb a1 25) (bv (sF μ27 65 a1.toNatClampNeg (μ27.1 0 93)) (fun μ28 => some μ28))))))))))))))) else some μ16)
theorem ns8_map {F : Nat → Int64} {S : Nat → Bool} {L : Nat} (h : ∀ k, k < L → S k = decide (F k = 17179869184)) : ns8 ((List.range L).map F) = ((List.range' 0 L).filter S).length := by
  unfold ns8
  rw [List.filter_map, List.length_map, List.range_eq_range']
  refine congrArg List.length (List.filter_congr (fun k hk => ?_))
  have := List.mem_range'_1.mp hk
  exact (h k (by omega)).symm
theorem Xb9.vb {v B : Nat} {q qb q3 r : Mem} (hb : Bx9 v B q qb) (hx : Xb9 qb q3) (g1 : ∀ j k, ¬ (j = 137 ∧ k = 9) → r.1 j k = q3.1 j k) (g2 : r.2.2 = q3.2.2) (g3 : ∀ j k, j ≠ 37 → j ≠ 141 → r.2.1 j k = q3.2.1 j k) : VB9 v B q r := by
  obtain ⟨b1, ⟨b2, b2'⟩, ⟨b3, b3'⟩, b4, ⟨_, b5⟩, ⟨b6, b6'⟩, _, b8⟩ := hb
  obtain ⟨x1, x2, x3, x4⟩ := hx
  have k : ∀ i l, ¬ (i = 137 ∧ l = 9) → i ≠ 33 → i ≠ 34 → ¬ (i = 30 ∧ l = 5) → r.1 i l = qb.1 i l := fun i l c1 c2 c3 c4 => (g1 i l c1).trans (x2 i l c2 c3 c4)
  refine ⟨by rw [g2, x1, b1], ⟨by rw [k 39 6 (by omega) (by omega) (by omega) (by omega)]; exact b2, fun l hl => by rw [k 39 l (by omega) (by omega) (by omega) (by omega)]; exact b2' l hl⟩, ⟨fun l => by rw [k 42 l (by omega) (by omega) (by omega) (by omega)]; exact b3 l, fun l => by rw [k 43 l (by omega) (by omega) (by omega) (by omega)]; exact b3' l⟩, fun i l c1 c2 c3 c4 c5 => by rw [g3 i l c4 c5, x3 i l c1 c2 c3]; exact b4 i l, fun l c1 c2 c3 c4 c5 => by rw [k 137 l (by omega) (by omega) (by omega) (by omega)]; exact b5 l c1 c2 c4 c5, ⟨by rw [k 45 _ (by omega) (by omega) (by omega) (by omega)]; exact b6, fun l hl => by rw [k 45 l (by omega) (by omega) (by omega) (by omega)]; exact b6' l hl⟩, fun i l c1 c2 c3 c4 c5 c6 c7 c8 => by rw [k i l (by omega) c2 c3 (by omega)]; exact b8 i l c1 c4 c5 c6 c7 c8⟩
theorem vs_go {α : Type} {KX : Mem → Option α} {Post : α → Mem → Prop} {P : Nat} {C : List Th3} {G : List Fn5} {v : Nat} {It Bk : List Nat} {cl : Nat → Prop} {q z : Mem} {a1 : Int32} (h : VS9 P C G v It Bk cl q z) (hv : (v : Int) < (q.1 39 2).toInt) (h1 : a1 = nI v) (hgo : ∀ (q' z' : Mem) (f : Fn5) (G1 G2 : List Fn5) (B e2 : Nat), G = G1 ++ f :: G2 → (q.1 39 6).toInt = (B : Int) → W9 P C G v B (z.1 0 87).toNatClampNeg 0 0 f.2.1 1 0 0 q' z' It Bk cl → Cd6 (at5 f.2.2.1) (at5 C) 20 1 f.2.1 0 f.2.2.1.length f.2.2.2 e2 → C[e2]? = some (14, 0, 0) → f.2.2.1.length ≤ 80 → f.2.1.length ≤ 5 → Aw9 z' 0 1 (tot G2 + 0) (tot G2 + f.2.2.1.length) → (q'.1 137 9).toInt = (f.2.2.2 : Int) → VB9 v B q q' → VZ9 v z z' → (0 ≤ (q'.1 30 5).toInt ∧ (q'.1 30 5).toInt ≤ 200) → pk2 (KX q') (bw (p_X12_goAll_b0 FUEL z') (MV9 a1)) Post) : pk2 (bw (p_X10_beginVariant a1 q) KX) (p_X12_makeVariant a1 (sF z 0 56 0)) Post := by
  have e0 : (0 : Int32).toInt = ((0 : Nat) : Int) := by decide
  have h' := h
  obtain ⟨_, ⟨_, _, _, _, h0⟩, _, hPr, hA, hbd, _, _, _, _, _, _, hLv⟩ := h'
  have hA' := hA
  obtain ⟨V, hV1, hV2, hV24, hVa⟩ := hA'
  have hvV : v < V := by omega
  obtain ⟨B, hB⟩ : ∃ B : Nat, (q.1 39 6).toInt = (B : Int) := ⟨(q.1 39 6).toInt.toNat, by omega⟩
  have hIl : It.length ≤ 300 := h.1.2.2.1
  obtain ⟨⟨f', L, a1', a2, a3, a4, a5, a6, a8, a9, a7⟩, _, _, bw', br⟩ := hVa v hvV
  have s57 : ∀ i k, i ≠ 0 → (sF z 0 111 (nI v - 1)).1 i k = z.1 i k := fun i k hi => sF_i hi
  rw [s57 57 v (by decide)] at a1'
  rw [s57 58 v (by decide)] at a4
  rw [s57 2 f' (by decide), s57 3 f' (by decide)] at a3
  rw [s57 59 v (by decide)] at a8 a9
  have hPn : Pn5 z G := hPr.2.2.2.2.2.2.2.1
  have hKw : Kw (G.map fkey) := hPr.2.2.2.2.1
  obtain ⟨f, G1, G2, hG, hGl, c1, c2⟩ := fn_key hPn a2
  have hfG : f ∈ G := by rw [hG]; simp
  have kf : Kv (fkey f) := hKw.2 _ (List.mem_map.mpr ⟨f, hfG, rfl⟩)
  have hky : (q.1 (47 + 3 * v) 3).toInt = (ky (fkey f) : Int) := by rw [a3]; exact ky_w kf c1 c2
  have hn5 : f.2.1.length ≤ 5 := kf.2
  obtain ⟨hfL, ⟨_, hva⟩, hf80, e2, cd, he2⟩ := hPr.2.2.2.2.2.2.2.2.1 f hfG
  obtain ⟨wT, hvT⟩ := bw' f' L f.2.1.length (by rw [s57 57 v (by decide)]; exact a1') (by rw [s57 58 v (by decide)]; exact a4) (by rw [s57 3 f' (by decide)]; exact c2)
  have tl : ((List.range L).map (fun k => q.2.1 (48 + 3 * v) k)).length = L := by rw [List.length_map, List.length_range]
  have tk : ∀ k, k < L → Tk7 (q.2.1 (48 + 3 * v) k) (z.1 60 (210 * v + k)) (z.1 61 (210 * v + k)) := fun k hk => by
    have := a7 k hk
    rw [s57 60 _ (by decide), s57 61 _ (by decide)] at this; exact this
  have n60 : (fun k => decide ((sF z 0 111 (nI v - 1)).1 60 (210 * v + k) = 3)) = (fun k => decide (z.1 60 (210 * v + k) = 3)) := funext (fun k => by rw [s57 60 _ (by decide)])
  rw [n60] at a9
  have n59 : (z.1 59 v).toInt = (ns8 ((List.range L).map (fun k => q.2.1 (48 + 3 * v) k)) : Int) := by
    rw [a9, ns8_map (S := fun k => decide (z.1 60 (210 * v + k) = 3)), rng0]
    intro k hk
    exact decide_eq_decide.mpr (tk_st (tk k hk)).symm
  have h8 : ns8 ((List.range L).map (fun k => q.2.1 (48 + 3 * v) k)) ≤ 8 := by omega
  have hps : Ps9 (47 + 3 * v) := ps_v v (by omega)
  refine c_beginV h1 hV1 hvV hV24 hB (by omega) (fun qb hb => ?_)
  refine m_beginV h1 (by omega) (fun zb hzb => ?_)
  have y0 : ∀ i k, ¬ (i = 0 ∧ k = 56) → (sF z 0 56 0).1 i k = z.1 i k := fun i k hk => by rw [sF_at, if_neg hk]
  have y56 : (sF z 0 56 0).1 0 56 = 0 := sF_v
  have y2 : (sF z 0 56 0).2 = z.2 := rfl
  generalize sF z 0 56 0 = zh at hzb y0 y56 y2
  rw [y0 59 v (by omega), y0 58 v (by omega)]
  have hb' := hb
  obtain ⟨b1, ⟨b2, b2'⟩, ⟨b3, b3'⟩, b4, ⟨⟨b51, b52, b53, b54⟩, b5⟩, ⟨b6, b6'⟩, ⟨⟨b71, b72, b73⟩, b7⟩, b8⟩ := hb'
  have hzb' := hzb
  obtain ⟨w1, ⟨⟨w21, w22, w23, w24, w25⟩, w26, w27, w28, w29, w2a⟩, w3, w4, w5⟩ := hzb'
  have qk : ∀ k, qb.1 (47 + 3 * v) k = q.1 (47 + 3 * v) k := fun k => b8 _ _ (by omega) (by omega) (by omega) (by omega) (by omega) (by omega)
  have ql : ∀ k, qb.2.1 (47 + 3 * v + 1) k = q.2.1 (48 + 3 * v) k := fun k => by rw [b4, if_neg (by omega), show 47 + 3 * v + 1 = 48 + 3 * v by omega]
  have hqL : (qb.1 (47 + 3 * v) 2).toInt = (L : Int) := by rw [qk]; exact a6
  have hPy : Py9 (47 + 3 * v) ((List.range L).map (fun k => q.2.1 (48 + 3 * v) k)) qb := ⟨by rw [tl]; exact hqL, fun k t hk => by
    obtain ⟨_, e⟩ := rng_get hk
    rw [ql, e]⟩
  have zk : ∀ i k, 57 ≤ i → i ≤ 61 → zb.1 i k = z.1 i k := fun i k d1 d2 => by rw [w5 i k (by omega) (by omega), y0 i k (by omega)]
  have hQm : Qm9 (210 * v) ((List.range L).map (fun k => q.2.1 (48 + 3 * v) k)) zb := fun k t hk => by
    obtain ⟨hk2, e⟩ := rng_get hk
    rw [zk 60 _ (by decide) (by decide), zk 61 _ (by decide) (by decide), e]; exact tk k hk2
  have hlv : Lv9 qb := fun k hk => by rw [b4, if_neg (by omega)]; exact hLv.1 k hk
  have ta : a1.toInt = (v : Int) := by rw [h1, ni_ti (by omega)]
  rw [p_X8_build_eq, bd_bd]
  refine pk2_bdl (c_stars (pt := 47 + 3 * v) (L := L) hqL a5) ?_
  rintro r2 μ1 ⟨g1, g2⟩
  have g1 : μ1 = qb := g1
  have g2 : r2 = cn9 (fun k => decide (s_X0_kind (qb.2.1 (47 + 3 * v + 1) k) = 4)) 0 L 0 := g2
  have g2t : r2.toInt = (ns8 ((List.range L).map (fun k => q.2.1 (48 + 3 * v) k)) : Int) := by
    rw [g2, cn9_ti L 0 0 0 e0 (by omega), Nat.zero_add, ns8_map (S := fun k => decide (s_X0_kind (qb.2.1 (47 + 3 * v + 1) k) = 4))]
    intro k hk
    rw [ql, tk_kind (tk k hk)]
    have := tk_st (tk k hk)
    by_cases c : z.1 60 (210 * v + k) = 3
    · rw [if_pos c, decide_eq_true rfl, decide_eq_true (this.mpr c)]
    · rw [if_neg c]
      have n4 : ¬ z.1 60 (210 * v + k) = 4 := by
        rcases tk_cases (tk k hk) with ⟨a, _⟩ | ⟨a, _⟩ | ⟨l, hl, a, _⟩
        · rw [a]; decide
        · rw [a]; decide
        · rw [a]; rcases hl with e | e <;> subst e <;> decide
      rw [decide_eq_false n4, decide_eq_false (fun e => c (this.mp e))]
  rw [g1]
  refine pk2_bdbv ?_
  refine build2 (T := (List.range L).map (fun k => q.2.1 (48 + 3 * v) k)) (n := f.2.1.length) (s0 := 0) (u := v) (q0 := qb) (z0 := zb) hps (by omega) (by omega) ta (by rw [tl]; exact a5) hPy hQm hlv h8 (by omega) wT ?_ L FUEL FUEL 0 r2 _ _ _ 0 qb zb ⟨by rw [tl]; exact Nat.le_refl _, ?_, ?_, e0, by rw [w2a]; exact e0, ?_, ?_, ?_, fun j hj => absurd hj (by omega), Xb9.rf, ⟨by rw [b71]; decide, by rw [b71, tl]; exact Int.le_of_eq (by rw [e0]; omega)⟩, Zb9.rf⟩
  rotate_left
  · have e1 : (1 : Int32).toInt = 1 := by decide
    rw [ti_sub (by rw [hqL, e1]; omega) (by rw [hqL, e1]; omega), hqL, e1]
  · have e1 : (1 : Int32).toInt = 1 := by decide
    rw [ti_sub (by rw [a4, e1]; omega) (by rw [a4, e1]; omega), a4, e1]
  · have hd : ((List.range L).map (fun k => q.2.1 (48 + 3 * v) k)).drop L = [] := List.drop_eq_nil_of_le (by rw [tl]; exact Nat.le_refl _)
    rw [hd]; rfl
  · have hd : ((List.range L).map (fun k => q.2.1 (48 + 3 * v) k)).take L = (List.range L).map (fun k => q.2.1 (48 + 3 * v) k) := List.take_of_length_le (by rw [tl]; exact Nat.le_refl _)
    rw [hd]; exact g2t
  · have hd : ((List.range L).map (fun k => q.2.1 (48 + 3 * v) k)).take L = (List.range L).map (fun k => q.2.1 (48 + 3 * v) k) := List.take_of_length_le (by rw [tl]; exact Nat.le_refl _)
    rw [hd]; exact n59
  intro q3 z3 a4' h4 hBp fx3 h5 h5' fz3 h58
  rw [c_imin8 h4 hn5 ps_140.2]
  refine pk2_bdl (c_syms hn5 h4 h4 f.2.1.length FUEL 0 0 q3 (by omega) (by omega) e0 rfl rfl (fun _ _ _ => rfl) (fun k hk => absurd hk (by omega))) ?_
  rintro r15 q4 ⟨s1, s2, s3, s4, s5⟩
  have s1 : r15 = a4' := s1
  have s2 : q4.1 = q3.1 := s2
  have s3 : q4.2.2 = q3.2.2 := s3
  have s4 : ∀ j k, j ≠ 141 → q4.2.1 j k = q3.2.1 j k := s4
  have s5 : ∀ k, k < f.2.1.length → q4.2.1 141 k = q3.2.1 35 (f.2.1.length - 1 - k) := s5
  have x10 : q3.1 30 10 = 0 := by rw [fx3.2.1 30 10 (by decide) (by decide) (by omega)]; exact b73
  have q4k : ∀ i k, i ≠ 30 → i ≠ 33 → i ≠ 34 → q4.1 i k = qb.1 i k := fun i k d1 d2 d3 => by rw [s2, fx3.2.1 i k d2 d3 (by omega)]
  have hP9 : P = 2 ∨ P = 9 := hPr.1
  have hsel : sel 2 (q4.2.2 137 5) = P := by rw [s3, fx3.1, b1]; exact hPr.2.1
  have q4q : ∀ i k, 2 ≤ i → i ≤ 15 → q4.1 i k = q.1 i k := fun i k d1 d2 => by rw [q4k i k (by omega) (by omega) (by omega)]; exact b8 i k (by omega) (by omega) (by omega) (by omega) (by omega) (by omega)
  have hKt : Kt P (G.map fkey) q4 := Kt.of hPr.2.2.2.2.2.1 (fun i k hi => q4q i k (by omega) (by omega))
  have hFs : Fs5 P G q4 := hPr.2.2.2.2.2.2.1.cong (fun k _ => q4q _ k (by omega) (by omega)) (fun k _ => q4q _ k (by omega) (by omega)) (fun g _ => q4q _ _ (by omega) (by omega))
  refine pk2_bwl (c_bindV (n := f.2.1.length) hn5 (by rw [s1]; exact h4) (by rw [s2, x10]; exact e0) hsel hG hKw hKt hFs (by rw [q4k _ _ (by omega) (by omega) (by omega), qk]; exact hky) f.2.1.length FUEL 0 0 q4 (by omega) (by omega) e0 rfl rfl (fun _ _ _ => rfl) (fun k hk => absurd hk (by omega))) ?_
  rintro q5 ⟨p1, p2, p3, p4, p5⟩
  have vb : VB9 v B q q5 := Xb9.vb hb fx3 (fun j k hjk => by rw [p1 j k hjk, s2]) (by rw [p3, s3]) (fun j k d1 d2 => by rw [p4 j k d1, s4 j k d2])
  have g35 : Gs7 q3 q5 := gs_same (by rw [p1 30 5 (by omega), s2]) (fun k => by rw [p4 31 k (by decide), s4 31 k (by decide)]) (fun k => by rw [p4 32 k (by decide), s4 32 k (by decide)]) (fun k => by rw [p1 33 k (by omega), s2]) (fun k => by rw [p1 34 k (by omega), s2])
  have z57 : (z3.1 57 a1.toNatClampNeg).toInt = (G2.length : Int) := by rw [tn_of ta, fz3.2.1 57 v (by decide) (by omega), zk 57 v (by decide) (by decide), a1', hGl]
  have hz9 : ∀ i k, 2 ≤ i → i ≤ 9 → z3.1 i k = z.1 i k := fun i k d1 d2 => by rw [fz3.2.1 i k (by omega) (by omega), w5 i k (by omega) (by omega), y0 i k (by omega)]
  have hz0 : ∀ k, k = 17 ∨ k = 18 → z3.1 0 k = z.1 0 k := fun k hk => by rw [fz3.2.2.1 k (by omega) (by omega), w3 k (by omega) (by omega) (by omega) (by omega) (by omega) (by omega) (by omega) (by omega) (by omega) (by omega), y0 0 k (by omega)]
  have hPn3 : Pn5 z3 G := hPn.of hz0 hz9
  refine m_argsV (q := q5) (n := f.2.1.length) hG hPn3 hva z57 rfl hn5 (fun j hj => ?_) h58 (fun z4 r1 r2' r3 r4 => ?_)
  · obtain ⟨x, d, x1, x2⟩ := hBp j hj
    refine ⟨x, _, d, x1, ?_, hvT j hj⟩
    rw [p5 j hj, s5 j hj]
    exact x2.gr g35 Gh7.rf
  have z65 : (z4.1 0 65).toInt = ((0 : Nat) : Int) := by rw [r2' 0 65 (by decide) (by omega), fz3.2.2.1 65 (by decide) (by decide), w22]; exact e0
  refine pk2_gdr (fun _ => pk2_bwr (m_push 0 _ 0 z65) (fun z5 h5z => ?_))
  obtain ⟨h5z, _⟩ := h5z
  rw [p_X12_goAll_eq]
  have k0 : ∀ k, k ≠ 65 → z5.1 0 k = z4.1 0 k := fun k hk => by rw [h5z, sF_k hk, sF_i (by decide), sF_i (by decide), sF_i (by decide)]
  have ki : ∀ i k, i ≠ 0 → ¬ (37 ≤ i ∧ i ≤ 39) → z5.1 i k = z4.1 i k := fun i k d1 d2 => by rw [h5z, sF_i d1, sF_i (by omega), sF_i (by omega), sF_i (by omega)]
  have e1 : (1 : Int32).toInt = 1 := by decide
  have k65 : (z5.1 0 65).toInt = 1 := by
    rw [h5z, sF_v, ti_add (by rw [z65, e1]; omega) (by rw [z65, e1]; omega), z65, e1]; rfl
  have zz0 : ∀ k, k ≠ 65 → k ≠ 56 → k ≠ 58 → z5.1 0 k = zb.1 0 k := fun k d1 d2 d3 => by rw [k0 k d1, r2' 0 k (by decide) (by omega), fz3.2.2.1 k d2 d3]
  have zzi : ∀ i k, i ≠ 0 → ¬ (37 ≤ i ∧ i ≤ 39) → ¬ (30 ≤ i ∧ i ≤ 35) → i ≠ 41 → z5.1 i k = zb.1 i k := fun i k d1 d2 d3 d4 => by rw [ki i k d1 d2, r2' i k d4 (by omega), fz3.2.1 i k d1 d3]
  have vz : VZ9 v z z5 := ⟨fun k d1 d2 d3 d4 d5 d6 d7 d8 d9 da db => by rw [zz0 k d3 d1 d2, w3 k d7 d3 d4 d5 d6 db d8 d9 da d2, y0 0 k (by omega)], by rw [zzi 62 v (by decide) (by omega) (by omega) (by decide), w4, y0 0 87 (by omega)], fun i k d1 d2 d3 d4 d5 => by rw [zzi i k d1 d3 d2 d4, w5 i k d1 d5, y0 i k (by omega)]⟩
  have hVr : Vr7 q5 z5 0 f.2.1 := r3.of Gs7.rf (gh_same (k0 56 (by decide)) (fun i k d1 d2 => ki i k (by omega) (by omega))) (fun _ _ => rfl) (fun a ha => ki 41 _ (by decide) (by omega))
  have pk137 : ∀ k, k ≠ 9 → q5.1 137 k = qb.1 137 k := fun k hk => by rw [p1 137 k (by omega), q4k 137 k (by decide) (by decide) (by decide)]
  have pk30 : ∀ k, k ≠ 5 → q5.1 30 k = qb.1 30 k := fun k hk => by rw [p1 30 k (by omega), s2, fx3.2.1 30 k (by decide) (by decide) (by omega)]
  have W := vs_w9 h hv hB vb vz ⟨by rw [pk137 7 (by decide)]; exact b51, by rw [pk137 8 (by decide)]; exact b52, by rw [pk137 12 (by decide)]; exact b53, by rw [pk137 13 (by decide)]; exact b54, by rw [pk30 7 (by decide)]; exact b72, by rw [pk30 10 (by decide)]; exact b73⟩ ⟨by rw [zz0 69 (by decide) (by decide) (by decide)]; exact w21, k65, by rw [zz0 66 (by decide) (by decide) (by decide)]; exact w23, by rw [zz0 67 (by decide) (by decide) (by decide)]; exact w24, by rw [zz0 68 (by decide) (by decide) (by decide)]; exact w25, by rw [zz0 111 (by decide) (by decide) (by decide)]; exact w26, by rw [zz0 90 (by decide) (by decide) (by decide)]; exact w27, by rw [zz0 92 (by decide) (by decide) (by decide)]; exact w28, by rw [zz0 93 (by decide) (by decide) (by decide), w29, y0 59 v (by omega)]⟩ hVr hva
  have hFf : Fn9 G f.2.2.1 (tot G2) := ⟨f, G1, G2, hG, rfl, rfl⟩
  refine hgo q5 z5 f G1 G2 B e2 hG hB W cd he2 hf80 hn5 ⟨tot G2 + 0, rfl, cd_sh (W.t9 hFf) cd, ?_, ?_⟩ p2 vb vz ?_
  · rw [h5z, sF_i (by decide), sF_i (by decide), sF_i (by decide), sF_v]
  · rw [h5z, sF_i (by decide), sF_i (by decide), sF_v]; exact r4
  · have : q5.1 30 5 = q3.1 30 5 := by rw [p1 30 5 (by omega), s2]
    rw [this, tl] at *
    omega
end

section
theorem kb_patternOf (a : Int32) (μ : Mem) : pk (p_X5_patternOf a μ) (fun r => r.2 = μ) := by
  rw [p_X5_patternOf_eq]; exact pk_gd (fun _ => pk_some rfl)
theorem kb_setVariant (a b c : Int32) (μ : Mem) : pk (p_X5_setVariant a b c μ) (Kb8 μ) := by
  rw [p_X5_setVariant_eq]
  exact pk_ite (fun _ => pk_some ⟨rfl, rfl⟩) (fun _ => pk_ite (fun _ => pk_some ⟨rfl, rfl⟩) (fun _ => pk_gd (fun _ => pk_bvs (pk_some ⟨by rw [sF_i (by decide)], rfl⟩))))
theorem kb_clear (μ : Mem) : pk (p_X8_clear μ) (Kb8 μ) := by
  rw [p_X8_clear_eq]
  exact pk_bvs (pk_bvs (pk_bvs (pk_some ⟨by rw [sF_i (by decide), sF_i (by decide), sF_i (by decide)], rfl⟩)))
theorem kb_isPair (a : Int64) (μ : Mem) : pk (p_X8_isPair a μ) (fun r => r.2 = μ) := by
  rw [p_X8_isPair_eq]
  exact pk_ite (fun _ => pk_ite (fun _ => pk_some rfl) (fun _ => pk_ite (fun _ => pk_some rfl) (fun _ => pk_some rfl))) (fun _ => pk_some rfl)
theorem kb_weightOf (a : Int64) (μ : Mem) : pk (p_X8_weightOf a μ) (fun r => r.2 = μ) := by
  rw [p_X8_weightOf_eq]
  refine pk_bd (kb_isPair a μ) ?_
  rintro r2 μ1 e
  have e : μ1 = μ := e
  rw [e]
  exact pk_ite (fun _ => pk_some rfl) (fun _ => pk_gd (fun _ => pk_some rfl))
theorem kb_deepOf (a : Int64) (μ : Mem) : pk (p_X8_deepOf a μ) (fun r => r.2 = μ) := by
  rw [p_X8_deepOf_eq]
  refine pk_bd (kb_isPair a μ) ?_
  rintro r2 μ1 e
  have e : μ1 = μ := e
  rw [e]
  exact pk_ite (fun _ => pk_some rfl) (fun _ => pk_gd (fun _ => pk_some rfl))
theorem kb_pair (a b : Int64) (μ : Mem) : pk (p_X8_pair a b μ) (fun r => Kb8 μ r.2) := by
  rw [p_X8_pair_eq]
  refine pk_ite (fun _ => ?_) (fun _ => pk_some ⟨rfl, rfl⟩)
  refine pk_gd (fun _ => pk_bvy (fun m2 h2 => pk_gd (fun _ => pk_bvy (fun m3 h3 => ?_))))
  have k3 : Kb8 μ m3 := by rw [h3, h2]; exact ⟨rfl, rfl⟩
  refine pk_bd (kb_weightOf a m3) ?_
  rintro r5 m4 e4
  have e4 : m4 = m3 := e4
  rw [e4]
  refine pk_bd (kb_weightOf b m3) ?_
  rintro r7 m6 e6
  have e6 : m6 = m3 := e6
  rw [e6]
  refine pk_gd (fun _ => pk_bvy (fun m8 h8 => ?_))
  have k8 : Kb8 μ m8 := k3.tr (by rw [h8]; exact ⟨by rw [sF_i (by decide)], rfl⟩)
  refine pk_bd (kb_deepOf a m8) ?_
  rintro r10 m9 e9
  have e9 : m9 = m8 := e9
  rw [e9]
  refine pk_bd (kb_deepOf b m8) ?_
  rintro r12 m11 e11
  have e11 : m11 = m8 := e11
  rw [e11]
  refine pk_gd (fun _ => pk_bvs (pk_bvs (pk_some ?_)))
  exact k8.tr ⟨by rw [sF_i (by decide), sF_i (by decide)], rfl⟩
theorem kb_stars4 : ∀ (n a0 : Nat) (a1 a2 : Int32) (μ : Mem), pk (p_X2_stars_b4 n a0 a1 a2 μ) (fun r => r.2 = μ) := by
  intro n
  induction n with
  | zero => intro a0 a1 a2 μ r e; rw [p_X2_stars_b4_z] at e; cases e
  | succ n ih =>
    intro a0 a1 a2 μ
    rw [p_X2_stars_b4_s]
    refine pk_ite (fun _ => pk_some rfl) (fun _ => pk_gd (fun _ => pk_ite (fun _ => pk_bvs ?_) (fun _ => ?_)))
    · rw [p_X2_stars_b28_eq]; exact pk_bvs (ih _ _ _ _)
    · rw [p_X2_stars_b28_eq]; exact pk_bvs (ih _ _ _ _)
theorem kb_stars (a0 : Nat) (μ : Mem) : pk (p_X2_stars a0 μ) (fun r => r.2 = μ) := by
  rw [p_X2_stars_eq]; exact kb_stars4 _ _ _ _ _
theorem kb_b148 : ∀ (n a3 : Nat) (a4 a6 a7 : Int32) (μ : Mem), pk (p_X8_build_b148 n a3 a4 a6 a7 μ) (fun r => Kb8 μ r.2) := by
  intro n
  induction n with
  | zero => intro a3 a4 a6 a7 μ r e; rw [p_X8_build_b148_z] at e; cases e
  | succ n ih =>
    intro a3 a4 a6 a7 μ
    rw [p_X8_build_b148_s]
    refine pk_ite (fun _ => pk_some ⟨rfl, rfl⟩) (fun _ => pk_gd (fun _ => pk_gd (fun _ => pk_bvy (fun m7 h7 => pk_bvs (pk_mono (ih _ _ _ _ m7) (fun r hr => ?_))))))
    have k7 : Kb8 μ m7 := by rw [h7]; exact ⟨rfl, rfl⟩
    exact k7.tr hr
theorem kb_b130 {K : Nat → Nat → Nat → Int32 → Int32 → Int32 → Mem → Option (Int32 × Mem)} {μ : Mem} (hK : ∀ a1 a2 a3 a4 a5 a6 m, Kb8 μ m → pk (K a1 a2 a3 a4 a5 a6 m) (fun r => Kb8 μ r.2)) (a1 a2 a3 : Nat) (a4 a5 a6 : Int32) (m : Mem) (hm : Kb8 μ m) : pk (p_X8_build_b130 K a1 a2 a3 a4 a5 a6 m) (fun r => Kb8 μ r.2) := by
  rw [p_X8_build_b130_eq]; exact pk_bvs (hK _ _ _ _ _ _ _ hm)
theorem kb_b108 {K : Nat → Nat → Nat → Int32 → Int32 → Int32 → Mem → Option (Int32 × Mem)} {μ : Mem} (hK : ∀ a1 a2 a3 a4 a5 a6 m, Kb8 μ m → pk (K a1 a2 a3 a4 a5 a6 m) (fun r => Kb8 μ r.2)) (a1 a2 a3 : Nat) (a4 a5 a6 : Int32) (a7 : Int64) (m : Mem) (hm : Kb8 μ m) : pk (p_X8_build_b108 K a1 a2 a3 a4 a5 a6 a7 m) (fun r => Kb8 μ r.2) := by
  rw [p_X8_build_b108_eq]
  refine pk_ite (fun _ => kb_b130 hK _ _ _ _ _ _ _ hm) (fun _ => pk_gd (fun _ => pk_bvy (fun m14 h14 => pk_bvs (kb_b130 hK _ _ _ _ _ _ _ ?_))))
  exact hm.tr (by rw [h14]; exact ⟨rfl, rfl⟩)
theorem kb_b17 : ∀ (n : Nat) (μ : Mem) (a1 a2 a3 : Nat) (a4 a5 a6 : Int32) (m : Mem), Kb8 μ m → pk (p_X8_build_b17 n a1 a2 a3 a4 a5 a6 m) (fun r => Kb8 μ r.2) := by
  intro n
  induction n with
  | zero => intro μ a1 a2 a3 a4 a5 a6 m _ r e; rw [p_X8_build_b17_z] at e; cases e
  | succ n ih =>
    intro μ a1 a2 a3 a4 a5 a6 m hm
    have b108 := fun a1 a2 a3 a4 a5 a6 a7 m hm => kb_b108 (K := p_X8_build_b17 n) (ih μ) a1 a2 a3 a4 a5 a6 a7 m hm
    rw [p_X8_build_b17_s]
    refine pk_ite (fun _ => pk_bvs (pk_mono (kb_b148 _ _ _ _ _ m) (fun r hr => hm.tr hr))) (fun _ => pk_gd (fun _ => pk_bvs (pk_ite (fun _ => pk_bvs (pk_ite (fun _ => ?_) (fun _ => pk_ite (fun _ => ?_) (fun _ => pk_gd (fun _ => ?_))))) (fun _ => pk_ite (fun _ => pk_ite (fun _ => b108 _ _ _ _ _ _ _ _ hm) (fun _ => pk_bvs (pk_gd (fun _ => pk_gd (fun _ => pk_bd (kb_pair _ _ m) (fun r μ18 hr => b108 _ _ _ _ _ _ _ _ (hm.tr hr))))))) (fun _ => b108 _ _ _ _ _ _ _ _ hm)))))
    · rw [p_X8_build_b62_eq, p_X8_build_b63_eq]; exact b108 _ _ _ _ _ _ _ _ hm
    · rw [p_X8_build_b62_eq, p_X8_build_b63_eq]; exact b108 _ _ _ _ _ _ _ _ hm
    · rw [p_X8_build_b63_eq]; exact b108 _ _ _ _ _ _ _ _ hm
theorem kb_build (a1 a2 a3 : Nat) (μ : Mem) : pk (p_X8_build a1 a2 a3 μ) (fun r => Kb8 μ r.2) := by
  rw [p_X8_build_eq]
  refine pk_bd (kb_stars a1 μ) ?_
  rintro r2 m e
  have e : m = μ := e
  rw [e]
  exact pk_bvs (kb_b17 _ μ _ _ _ _ _ _ μ ⟨rfl, rfl⟩)
theorem kb_setVar (a : Int32) (v : Int64) (μ : Mem) : pk (p_X8_setVar a v μ) (Kb8 μ) := by
  rw [p_X8_setVar_eq]
  exact pk_bvs (pk_ite (fun _ => pk_some ⟨rfl, rfl⟩) (fun _ => pk_ite (fun _ => pk_some ⟨rfl, rfl⟩) (fun _ => pk_gd (fun _ => pk_bvs (pk_some ⟨rfl, rfl⟩)))))
theorem kb_startOf (a0 : Nat) (a1 : Int32) (μ : Mem) : pk (p_X3_startOf a0 a1 μ) (fun r => r.2 = μ) := by
  rw [p_X3_startOf_eq]
  exact pk_ite (fun _ => pk_some rfl) (fun _ => pk_ite (fun _ => pk_some rfl) (fun _ => pk_gd (fun _ => pk_ite (fun _ => pk_some rfl) (fun _ => pk_gd (fun _ => pk_ite (fun _ => pk_gd (fun _ => pk_gd (fun _ => pk_some rfl))) (fun _ => pk_some rfl))))))
theorem kb_b87 : ∀ (n a2 : Nat) (a3 a4 : Int32) (μ m : Mem), Kb8 μ m → pk (p_X10_beginVariant_b87 n a2 a3 a4 m) (Kb8 μ) := by
  intro n
  induction n with
  | zero => intro a2 a3 a4 μ m _ r e; rw [p_X10_beginVariant_b87_z] at e; cases e
  | succ n ih =>
    intro a2 a3 a4 μ m hm
    rw [p_X10_beginVariant_b87_s]
    refine pk_ite (fun _ => pk_bd (kb_startOf _ _ m) ?_) (fun _ => pk_gd (fun _ => pk_bw (kb_setVar _ _ m) (fun m20 h20 => pk_bvs (ih _ _ _ _ _ (hm.tr h20)))))
    rintro r18 m17 e
    have e : m17 = m := e
    rw [e]
    exact pk_bvs (pk_some (hm.tr ⟨by rw [sF_k (by decide)], rfl⟩))
theorem kb_beginV (a1 : Int32) (μ : Mem) : pk (p_X10_beginVariant a1 μ) (Kb8 μ) := by
  rw [p_X10_beginVariant_eq]
  refine pk_bvy (fun m1 h1 => ?_)
  have k1 : Kb8 μ m1 := by rw [h1]; exact ⟨by rw [sF_k (by decide)], rfl⟩
  refine pk_ite (fun _ => pk_bd (kb_patternOf a1 m1) ?_) (fun _ => pk_some k1)
  rintro r4 m3 e3
  have e3 : m3 = m1 := e3
  rw [e3]
  refine pk_bd (c_addBlock_any m1) (fun r6 m5 h5 => pk_bvy (fun m7 h7 => ?_))
  have k7 : Kb8 μ m7 := (k1.tr h5).tr (by rw [h7]; exact ⟨by rw [sF_k (by decide)], rfl⟩)
  refine pk_bw (kb_setVariant _ _ _ m7) (fun m8 h8 => pk_bw (kb_clear m8) (fun m10 h10 => pk_bvy (fun m12 h12 => pk_bvy (fun m13 h13 => ?_))))
  have k13 : Kb8 μ m13 := ((k7.tr h8).tr h10).tr (by rw [h13, h12]; exact ⟨by rw [sF_k (by decide), sF_k (by decide)], rfl⟩)
  exact pk_bd (kb_build _ _ _ m13) (fun r15 m14 h14 => kb_b87 _ _ _ _ _ _ (k13.tr h14))
end

section
theorem Vd9.gw {q z q2 z2 : Mem} {It Bk It2 Bk2 : List Nat} {cl cl2 : Nat → Prop} {u b B0 : Nat} (h : Vd9 q z It Bk cl u) (g : Gw8 b B0 q z It Bk cl q2 z2 It2 Bk2 cl2) (hb : ∀ bu : Nat, (q.1 45 (4 * u + 3)).toInt = (bu : Int) → (bu : Int) < (q.1 39 6).toInt → bu ≠ b ∧ bu < B0) (c2 : q2.1 45 (4 * u + 2) = q.1 45 (4 * u + 2)) (c3 : q2.1 45 (4 * u + 3) = q.1 45 (4 * u + 3)) (c396 : (q.1 39 6).toInt ≤ (q2.1 39 6).toInt) (z62 : ∀ i, 62 ≤ i → i ≤ 65 → z2.1 i u = z.1 i u) (h87 : 0 ≤ (z2.1 0 87).toInt) (h88 : 0 ≤ (z2.1 0 88).toInt) : Vd9 q2 z2 It2 Bk2 cl2 u := by
  obtain ⟨bu, o, m, bt, d1, d2, d3, ⟨d4, d5, d6⟩, d7, d8, d9, e1, e2, e3, e4⟩ := h
  obtain ⟨n1, n2⟩ := hb bu d1 d2
  obtain ⟨g1, ⟨g2, g2'⟩, g3, g4, g5, g6⟩ := g
  have t87 : ∀ {x y : Int32}, x.toNatClampNeg ≤ y.toNatClampNeg → 0 ≤ y.toInt → x.toInt ≤ y.toInt := fun {x y} h1 h2 => by
    have a : x.toNatClampNeg = x.toInt.toNat := rfl
    have b : y.toNatClampNeg = y.toInt.toNat := rfl
    omega
  have l87 := t87 g2 h87
  have l88 := t87 g2' h88
  have to : o < (z.1 0 88).toNatClampNeg := by
    have a : (z.1 0 88).toNatClampNeg = (z.1 0 88).toInt.toNat := rfl
    omega
  have tp : (z.1 63 u).toNatClampNeg ≤ (z.1 0 87).toNatClampNeg := cl_le d6
  refine ⟨bu, o, m, bt, by rw [c3]; exact d1, by omega, ?_, ⟨?_, ?_, ?_⟩, ?_, ?_, by omega, e1, ?_, ?_, ?_⟩
  · rw [z62 62 (by decide) (by decide), z62 63 (by decide) (by decide)]
    exact g3 bu _ _ n1 n2 tp d3
  · rw [z62 62 (by decide) (by decide)]; exact d4
  · rw [z62 62 (by decide) (by decide), z62 63 (by decide) (by decide)]; exact d5
  · rw [z62 63 (by decide) (by decide)]; omega
  · rw [c2, z62 65 (by decide) (by decide)]; exact d7
  · rw [z62 64 (by decide) (by decide)]; exact d8
  · rw [(g4 bu n2).2 n1]; exact e2
  · rw [g6 53 o (by omega) to]; exact e3
  · rw [g6 54 o (by omega) to]; exact e4
theorem Cv9.gw {q z q2 z2 : Mem} {It Bk It2 Bk2 : List Nat} {cl cl2 : Nat → Prop} {b B0 : Nat} (h : Cv9 z It) (hI : ∀ p, p ∈ It → p < (z.1 0 87).toNatClampNeg) (g : Gw8 b B0 q z It Bk cl q2 z2 It2 Bk2 cl2) : Cv9 z2 It2 := by
  obtain ⟨h1, h2, h3⟩ := h
  obtain ⟨⟨E, F, e1, e2, e3, e4, e5, e6⟩, ⟨g2, g2'⟩, _, _, g5, g6⟩ := g
  refine ⟨?_, fun p hp => ?_, fun p hp => ?_⟩
  · rw [e1]
    refine List.nodup_append.mpr ⟨h1, e4, fun x hx y hy e => ?_⟩
    have := hI x hx
    have := e5 y hy
    omega
  · rw [e1] at hp
    rcases List.mem_append.mp hp with x | x
    · rw [g5 46 p (by decide) (by decide) (hI p x)]; exact h2 p x
    · exact (e5 p x).2.2
  · rcases Nat.lt_or_ge p (z.1 0 87).toNatClampNeg with x | x
    · rw [g5 46 p (by decide) (by decide) x]
      rcases h3 p x with y | y | y
      · exact Or.inl y
      · exact Or.inr (Or.inl y)
      · exact Or.inr (Or.inr (by rw [e1]; exact List.mem_append.mpr (Or.inl y)))
    · rcases e6 p x hp with y | y | y
      · exact Or.inl y
      · exact Or.inr (Or.inl y)
      · exact Or.inr (Or.inr (by rw [e1]; exact List.mem_append.mpr (Or.inr y)))
theorem gw_cells {q z q2 z2 : Mem} {It Bk : List Nat} {cl : Nat → Prop} {b B0 : Nat} (hc : ¬ cl b) (c40 : ∀ k, q2.1 40 k = q.1 40 k) (c44 : ∀ k, k ≠ b → q2.2.1 44 k = q.2.1 44 k) (l87 : z2.1 0 87 = z.1 0 87) (l88 : (z.1 0 88).toNatClampNeg ≤ (z2.1 0 88).toNatClampNeg) (zi : ∀ i k, 46 ≤ i → i ≤ 52 → z2.1 i k = z.1 i k) (zo : ∀ i k, i = 53 ∨ i = 54 → k < (z.1 0 88).toNatClampNeg → z2.1 i k = z.1 i k) : Gw8 b B0 q z It Bk cl q2 z2 It Bk cl ∧ ∀ a p, Sf8 q z It Bk cl b a p → Sf8 q2 z2 It Bk cl b a p := by
  have sf : ∀ b2 a p, Sf8 q z It Bk cl b2 a p → Sf8 q2 z2 It Bk cl b2 a p := by
    intro b2 a p h
    unfold Sf8 at h ⊢
    refine h.cong (fun _ _ h => h) (fun i p _ => ⟨c40 _, c40 _⟩) (fun x hx => ⟨rfl, c44 x (fun e => hc (by rw [← e]; exact hx)), hx⟩) (fun f hf => ⟨zo 53 f (Or.inl rfl) hf, zo 54 f (Or.inr rfl) hf⟩) l88 (fun p _ => ⟨zi 46 p (by decide) (by decide), zi 49 p (by decide) (by decide), zi 50 p (by decide) (by decide), zi 51 p (by decide) (by decide)⟩)
  exact ⟨⟨⟨[], [], by simp, by simp, by simp, List.nodup_nil, (by simp), fun p a b => by rw [l87] at b; omega⟩, ⟨by rw [l87]; exact Nat.le_refl _, l88⟩, fun b2 a p _ _ _ h => sf b2 a p h, fun x _ => ⟨Iff.rfl, fun hx => c44 x hx⟩, fun i k a1 a2 _ => zi i k a1 a2, fun i k a1 a2 => zo i k a1 a2⟩, fun a p h => sf b a p h⟩
theorem Is7.cong3 {q z q2 z2 : Mem} {i p O O2 : Nat} (h : Is7 q z i p O) (c40 : ∀ k, q2.1 40 k = q.1 40 k) (c41 : ∀ k, q2.2.1 41 k = q.2.1 41 k) (zi : ∀ j k, j = 46 ∨ j = 47 ∨ j = 48 ∨ j = 51 ∨ j = 52 → z2.1 j k = z.1 j k) (zo : ∀ j k, j = 53 ∨ j = 54 → k < O → z2.1 j k = z.1 j k) (hO : O ≤ O2) : Is7 q2 z2 i p O2 := by
  obtain ⟨b1, b2, b3, f, m, b4, b5, b6, b7⟩ := h
  have fo : ∀ j k : Nat, k < O → Op7 q z j k → Op7 q2 z2 j k := fun j k hk ho => ho.cong (c41 j) (zo 53 k (by omega) hk) (zo 54 k (by omega) hk)
  refine ⟨by rw [c40, zi 46 p (by omega)]; exact b1, by rw [c40, zi 47 p (by omega)]; exact b2, by rw [c40, zi 48 p (by omega)]; exact b3, f, m, by rw [zi 51 p (by omega)]; exact b4, by rw [zi 52 p (by omega)]; exact b5, by omega, ?_⟩
  rw [zi 46 p (by omega), c40]
  rcases b7 with ⟨b7, b8, b9⟩ | ⟨b7, b8, b9, b10⟩
  · exact Or.inl ⟨b7, b8, fun k hk => fo _ _ (by omega) (b9 k hk)⟩
  · exact Or.inr ⟨b7, b8, b9, fun k hk => fo _ _ (by omega) (b10 k hk)⟩
def Ze9 (v O y : Nat) (z r : Mem) : Prop := r.2 = z.2 ∧ (r.1 63 v = z.1 0 87 ∧ r.1 64 v = z.1 0 88 ∧ r.1 65 v = z.1 0 93) ∧ (r.1 53 O = z.1 30 y ∧ r.1 54 O = z.1 31 y) ∧ r.1 0 88 = z.1 0 88 + 1 ∧ ∀ i k, ¬ ((i = 63 ∨ i = 64 ∨ i = 65) ∧ k = v) → ¬ ((i = 53 ∨ i = 54) ∧ k = O) → ¬ (i = 0 ∧ k = 88) → r.1 i k = z.1 i k
theorem vs_end {P : Nat} {C : List Th3} {G : List Fn5} {v B y O : Nat} {It Bk It2 Bk2 It3 Bk3 : List Nat} {cl cl2 : Nat → Prop} {q0 z0 q' z' q z μ5 z19 q7 z7 q9 z28 : Mem} {N : List Int32} {x : Int64} (h : VS9 P C G v It Bk cl q0 z0) (hv : (v : Int) < (q0.1 39 2).toInt) (hB : (q0.1 39 6).toInt = (B : Int)) (vb : VB9 v B q0 q') (vz : VZ9 v z0 z') (W : W9 P C G v B (z0.1 0 87).toNatClampNeg 1 0 N 0 0 0 q z It2 Bk2 cl2) (F : F9 v B (q'.1 39 6).toNatClampNeg 0 0 N.length 0 0 q' z' It Bk cl q z It2 Bk2 cl2) (m51 : ∀ i k, ¬ (i = 137 ∧ k = 9) → ¬ (i = 30 ∧ k = 7) → μ5.1 i k = q.1 i k) (m52 : μ5.2 = q.2) (z191 : ∀ i k, ¬ (i = 0 ∧ k = 66) → z19.1 i k = z.1 i k) (z192 : z19.2 = z.2) (R7 : Re7 q7 z7 It3 Bk3 cl2 v B (z0.1 0 87).toNatClampNeg) (G7 : Gl8 B μ5 z19 It2 Bk2 cl2 q7 z7 It3 Bk3 cl2) (V7 : Va7 q7 z7 x y 1 0) (fx : Fx7 v μ5 q7) (fm : Fm7 (z19.1 0 87).toNatClampNeg (z19.1 0 88).toNatClampNeg z19 z7) (hq9 : q9 = sL q7 44 B x) (hO : (z7.1 0 88).toInt = (O : Int)) (hO2 : O < 4200) (hz : Ze9 v O y z7 z28) : VS9 P C G (v + 1) It3 Bk3 cl2 q9 z28 := by
  have e1 : (1 : Int32).toInt = 1 := by decide
  have h' := h
  obtain ⟨⟨_, _, _, P0, O0, tP0, tO0, tI0⟩, ⟨_, _, _, hcl0, _⟩, _, _, _, _, _, _, _, _, hVd0, hCv0, hLv0⟩ := h'
  obtain ⟨vb1, ⟨vb2, vb2'⟩, _, vb4, _, ⟨vb6, vb6'⟩, vb7⟩ := vb
  obtain ⟨vz1, vz2, vz3⟩ := vz
  obtain ⟨S, hPr, hPa, hcl2, hbd, hsu, hcq⟩ := W
  obtain ⟨fxr, fx1, fx39, fx45, fxl⟩ := fx
  obtain ⟨fmr, fm0, fmi, fmg, fm87, fm88⟩ := fm
  obtain ⟨y1, ⟨y2, y3, y4⟩, ⟨y5, y6⟩, y7, y8⟩ := hz
  have R7' := R7
  obtain ⟨⟨t1, t2, t3, t4, Pp, Oo, tP, tO, tb, tI⟩, hl, hC, ⟨s1, s2, s3, s4, s5, s6⟩, hncl, ⟨r68, r69⟩, hS⟩ := R7'
  have eO : Oo = O := by omega
  subst eO
  have c1 : ∀ i k, i ≠ 39 → i ≠ 40 → i ≠ 42 → i ≠ 43 → i ≠ 45 → ¬ (i = 137 ∧ k = 9) → ¬ (i = 30 ∧ k = 7) → q9.1 i k = q.1 i k := fun i k a1 a2 a3 a4 a5 a6 a7 => by rw [hq9, sL_1, fx1 i k a1 a2 a3 a4 a5, m51 i k a6 a7]
  have c39 : ∀ k, k ≠ 1 → q9.1 39 k = q.1 39 k := fun k hk => by rw [hq9, sL_1, fx39 k hk, m51 39 k (by omega) (by omega)]
  have c45 : ∀ k, k ≠ 4 * v + 2 → q9.1 45 k = q.1 45 k := fun k hk => by rw [hq9, sL_1, fx45 k hk, m51 45 k (by omega) (by omega)]
  have c2 : ∀ i k, i ≠ 41 → ¬ (i = 44 ∧ k = B) → q9.2.1 i k = q.2.1 i k := fun i k a1 a2 => by rw [hq9, sL_at, if_neg a2, fxl i k a1, m52]
  have cr : q9.2.2 = q.2.2 := by rw [hq9, sL_3, fxr, m52]
  have d1 : ∀ k, k ≠ 56 → k ≠ 66 → k ≠ 87 → k ≠ 88 → k ≠ 89 → k ≠ 93 → z28.1 0 k = z.1 0 k := fun k a1 a2 a3 a4 a5 a6 => by rw [y8 0 k (by omega) (by omega) (by omega), fm0 k a1 a3 a4 a5 a6, z191 0 k (by omega)]
  have g1 : Gw8 B B q0 z0 It Bk cl q' z' It Bk cl := (gw_cells (fun hc => by have := hcl0 B hc; omega) (fun k => vb7 40 k (by decide) (by decide) (by decide) (by decide) (by decide) (by decide) (by decide) (by decide)) (fun k hk => by rw [vb4 44 k (by decide) (by decide) (by decide) (by decide) (by decide), if_neg (by omega)]) (vz1 87 (by decide) (by decide) (by decide) (by decide) (by decide) (by decide) (by decide) (by decide) (by decide) (by decide) (by decide)) (by rw [vz1 88 (by decide) (by decide) (by decide) (by decide) (by decide) (by decide) (by decide) (by decide) (by decide) (by decide) (by decide)]; exact Nat.le_refl _) (fun i k a1 a2 => vz3 i k (by omega) (by omega) (by omega) (by omega) (by omega)) (fun i k a1 _ => vz3 i k (by omega) (by omega) (by omega) (by omega) (by omega))).1
  have tB : (q'.1 39 6).toNatClampNeg = B + 1 := tn_of vb2
  have g2 := g1.tr F.1 (by rw [tB]; omega)
  have g3 : Gw8 B B q z It2 Bk2 cl2 μ5 z19 It2 Bk2 cl2 := Gw8.same ⟨fun k => m51 40 k (by omega) (by omega), fun k => by rw [m52], ⟨z191 0 87 (by omega), z191 0 88 (by omega)⟩, fun i k a1 a2 => z191 i k (by omega)⟩
  have g4 := (g2.tr g3 (Nat.le_refl _)).tr (G7.1 B) (Nat.le_refl _)
  have t88 : (z7.1 0 88).toNatClampNeg = Oo := tn_of tO
  have k88 : (z28.1 0 88).toInt = ((Oo + 1 : Nat) : Int) := by rw [y7, ti_add (by omega) (by omega), tO, e1]; omega
  have k87 : z28.1 0 87 = z7.1 0 87 := y8 0 87 (by omega) (by omega) (by omega)
  have gE := gw_cells (q := q7) (z := z7) (q2 := q9) (z2 := z28) (It := It3) (Bk := Bk3) (cl := cl2) (b := B) (B0 := B) hncl (fun k => by rw [hq9, sL_1]) (fun k hk => by rw [hq9, sL_at, if_neg (by omega)]) k87 (by rw [t88, tn_of k88]; omega) (fun i k a1 a2 => y8 i k (by omega) (by omega) (by omega)) (fun i k a1 a2 => y8 i k (by omega) (by rw [t88] at a2; omega) (by omega))
  have g5 := g4.tr gE.1 (Nat.le_refl _)
  have hlen : It2.length ≤ It3.length := by
    obtain ⟨⟨E, _, e, _⟩, _⟩ := G7.1 0
    rw [e, List.length_append]; omega
  have l396 : (q9.1 39 6).toInt = (q.1 39 6).toInt := by rw [c39 6 (by decide)]
  have q396 : (B : Int) + 1 ≤ (q.1 39 6).toInt := by
    have := F.2.2.2.2.1.1.2
    rw [tB] at this
    have a : (q.1 39 6).toNatClampNeg = (q.1 39 6).toInt.toNat := rfl
    omega
  have V0 : v < 24 := s5
  have v2 : (q'.1 39 2).toInt = (q0.1 39 2).toInt := by rw [vb2' 2 (by decide)]
  have k45 : ∀ j : Nat, j < 4 * v + 4 → j % 4 ≠ 1 → j ≠ 4 * v + 2 → q.1 45 j = q'.1 45 j := fun j a1 a2 a3 => F.2.2.2.2.1.2.1 j (by omega) a2 a3
  have z62o : ∀ i k, 62 ≤ i → i ≤ 65 → z7.1 i k = z'.1 i k := fun i k a1 a2 => by rw [fmi i k (by omega) (by omega) (by omega) (by omega) (by omega) (by omega), z191 i k (by omega), F.2.2.2.2.2 i k a1 a2]
  have zv62 : z28.1 62 v = z0.1 0 87 := by rw [y8 62 v (by omega) (by omega) (by omega), z62o 62 v (by decide) (by decide), vz2]
  have hvv : ∀ u, u < v → ∀ i, 62 ≤ i → i ≤ 65 → z28.1 i u = z0.1 i u := fun u hu i a1 a2 => by rw [y8 i u (by omega) (by omega) (by omega), z62o i u a1 a2, vz3 i u (by omega) (by omega) (by omega) (by omega) (by omega)]
  refine ⟨⟨by rw [hq9, sL_1]; exact t1, by rw [y8 0 89 (by omega) (by omega) (by omega)]; exact t2, t3, Pp, Oo + 1, by rw [k87]; exact tP, k88, fun i p hi => ?_⟩, ⟨hl, fun b2 h2 => ?_, ?_, fun x hx => by rw [l396]; exact hcl2 x hx, by omega, by rw [c39 2 (by decide)]; have := F.2.2.2.2.1.1.1; omega⟩, ⟨by rw [hq9, sL_1]; exact s1, by rw [y8 0 68 (by omega) (by omega) (by omega)]; exact r68⟩, ?_, ?_, ?_, hsu.of cr, ?_, ⟨?_, ?_, ?_⟩, ?_, fun u hu => ?_, Cv9.gw hCv0 (fun p hp => ?_) g5, fun k hk => ?_, ?_⟩
  · obtain ⟨i1, i2, u, i3, i4, i5, i6⟩ := tI i p hi
    refine ⟨i1, i2.cong3 (fun k => by rw [hq9, sL_1]) (fun k => by rw [hq9, sL_at, if_neg (by omega)]) (fun j k hj => y8 j k (by omega) (by omega) (by omega)) (fun j k hj hk => y8 j k (by omega) (by omega) (by omega)) (by omega), u, by rw [hq9, sL_1]; exact i3, by omega, by rw [y8 62 u (by omega) (by omega) (by omega)]; exact i5, ?_⟩
    by_cases e : u = v
    · rw [e, y2, tP]; omega
    · rw [y8 63 u (by omega) (by omega) (by omega)]; exact i6 (by omega)
  · have := hC b2 (by rw [hq9, sL_1] at h2; exact h2)
    exact this.cong (by rw [hq9, sL_1]) (by rw [hq9, sL_1]) (fun i _ => by rw [hq9, sL_1])
  · have hBb2 := S.2.1
    have hb5 : Bb7 μ5 Bk2 := fun x hx => by rw [m51 39 6 (by omega) (by omega)]; exact hBb2 x hx
    have := bb_gl hb5 G7.1 (by rw [m51 39 6 (by omega) (by omega)]; omega)
    intro x hx
    have := this x hx
    rw [l396, ← m51 39 6 (by omega) (by omega)]; exact this
  · have zk2 : ∀ i k, 2 ≤ i → i ≤ 10 → z28.1 i k = z.1 i k := fun i k a1 a2 => by rw [y8 i k (by omega) (by omega) (by omega), fmi i k (by omega) (by omega) (by omega) (by omega) (by omega) (by omega), z191 i k (by omega)]
    exact hPr.of (by rw [cr]) (fun i k a1 a2 => c1 i k (by omega) (by omega) (by omega) (by omega) (by omega) (by omega) (by omega)) (fun k hk => d1 k (by omega) (by omega) (by omega) (by omega) (by omega) (by omega)) (fun i k a1 a2 => zk2 i k a1 (by omega)) (bh_cong hPr.2.2.2.2.2.2.2.2.2 (d1 18 (by decide) (by decide) (by decide) (by decide) (by decide) (by decide)) (fun k => zk2 9 k (by decide) (by decide)) (fun k => zk2 10 k (by decide) (by decide)))
  · have nv : (nI v).toInt = (v : Int) := ni_ti (by omega)
    have z111 : z.1 0 111 = nI v := by
      have := S.v111
      exact ti_eq.mpr (by rw [this, nv])
    have e2 : nI (v + 1) - 1 = nI v := ti_eq.mpr (by rw [ti_sub (by rw [ni_ti (by omega), e1]; omega) (by rw [ni_ti (by omega), e1]; omega), ni_ti (by omega), nv, e1]; omega)
    rw [e2]
    have zk : ∀ i k, i = 2 ∨ i = 3 ∨ i = 57 ∨ i = 58 ∨ i = 59 ∨ i = 60 ∨ i = 61 ∨ i = 66 → z28.1 i k = z.1 i k := fun i k hi => by rw [y8 i k (by omega) (by omega) (by omega), fmi i k (by omega) (by omega) (by omega) (by omega) (by omega) (by omega), z191 i k (by omega)]
    exact hPa.of (c39 2 (by decide)) (fun i k a1 a2 => ⟨c1 i k (by omega) (by omega) (by omega) (by omega) (by omega) (by omega) (by omega), c2 i k (by omega) (by omega)⟩) (fun u => c45 _ (by omega)) (by rw [sF_k (by decide)]; exact d1 110 (by decide) (by decide) (by decide) (by decide) (by decide) (by decide)) (fun i k hi => by rw [sF_i (by omega)]; exact zk i k hi) (fun u hu => c45 _ (by rw [z111, nv] at hu; omega)) (by rw [sF_v, z111])
  · rw [l396, c39 2 (by decide)]; omega
  · intro u hu
    have hI : ∀ p, p ∈ It2 → p < (z19.1 0 87).toNatClampNeg := fun p hp => by rw [z191 0 87 (by omega)]; exact S.1.ilt p hp
    have cg := ct_grow (G7.1 0) hI G7.2 u
    have c19 : Ct9 z19 It2 u = Ct9 z It2 u := Ct9.cong2 (fun k => z191 46 k (by omega)) (fun k => z191 48 k (by omega))
    have c28 : Ct9 z28 It3 u = Ct9 z7 It3 u := Ct9.cong2 (fun k => y8 46 k (by omega) (by omega) (by omega)) (fun k => y8 48 k (by omega) (by omega) (by omega))
    rw [c39 2 (by decide), c45 _ (by omega), c28, cg, c19]
    exact hcq u hu
  · rw [c39 3 (by decide), d1 91 (by decide) (by decide) (by decide) (by decide) (by decide) (by decide)]; exact S.2.2.2.2.2.2.2.2.1.1
  · rw [c39 4 (by decide), d1 96 (by decide) (by decide) (by decide) (by decide) (by decide) (by decide)]; exact S.2.2.2.2.2.2.2.2.1.2.1
  · rw [c39 5 (by decide), d1 97 (by decide) (by decide) (by decide) (by decide) (by decide) (by decide)]; exact S.2.2.2.2.2.2.2.2.1.2.2
  · intro k hk
    have := S.2.2.2.2.2.2.2.2.2.1 k hk
    rw [c1 137 k (by decide) (by decide) (by decide) (by decide) (by decide) (by omega) (by omega), y8 29 k (by omega) (by omega) (by omega), fmi 29 k (by decide) (by omega) (by omega) (by omega) (by decide) (by decide), z191 29 k (by omega)]
    exact this
  · by_cases e : u = v
    · subst e
      obtain ⟨m, bt, hm, w1, w2, w3⟩ := va_num V7
      have b45 : (q9.1 45 (4 * u + 3)).toInt = (B : Int) := by rw [c45 _ (by omega), k45 _ (by omega) (by omega) (by omega), vb6, ni_ti (by omega)]
      refine ⟨B, Oo, m, bt, b45, by omega, ?_, ⟨?_, ?_, ?_⟩, ?_, by rw [y3]; exact tO, by omega, hm, by rw [hq9, sL_at, if_pos ⟨rfl, rfl⟩]; exact w1, by rw [y5]; exact w2, by rw [y6]; exact w3⟩
      · rw [zv62, y2]
        exact gE.2 _ _ (by unfold Sf8; rw [tn_of tP] at *; exact hS)
      · rw [zv62, tP0]; omega
      · rw [zv62, y2]
        have := g4.2.1.1
        have a : (z0.1 0 87).toNatClampNeg = P0 := tn_of tP0
        have b : (z7.1 0 87).toNatClampNeg = Pp := tn_of tP
        omega
      · rw [y2, k87]; exact Int.le_refl _
      · rw [hq9, sL_1, y4]; exact t4
    · refine (hVd0 u (by omega)).gw g5 (fun bu hb1 hb2 => ⟨by omega, by omega⟩) ?_ ?_ (by omega) (fun i a1 a2 => hvv u (by omega) i a1 a2) (by rw [k87, tP]; omega) (by rw [k88]; omega)
      · rw [c45 _ (by omega), k45 _ (by omega) (by omega) (by omega), vb6' _ (by omega)]
      · rw [c45 _ (by omega), k45 _ (by omega) (by omega) (by omega), vb6' _ (by omega)]
  · obtain ⟨i, hi⟩ := List.mem_iff_getElem?.mp hp
    rw [tn_of tP0]; exact (tI0 i p hi).1
  · rw [c2 140 k (by decide) (by omega), F.2.1.2.2.2.2.2.2 k, vb4 140 k (by decide) (by decide) (by decide) (by decide) (by decide), if_neg (by omega)]
    exact hLv0.1 k hk
  · obtain ⟨_, oa, ob, oc, od⟩ := hLv0
    refine ⟨fun _ => ?_, fun u hu => ?_, fun _ => ?_, fun e => absurd e (by omega)⟩
    · by_cases e : v = 0
      · subst e
        rw [zv62]; exact od rfl
      · rw [hvv 0 (by omega) 62 (by decide) (by decide)]; exact oa (by omega)
    · by_cases e : u + 1 = v
      · rw [e, zv62, hvv u (by omega) 63 (by decide) (by decide)]
        have := oc (by omega)
        rw [show v - 1 = u by omega] at this
        exact this.symm
      · rw [hvv (u + 1) (by omega) 62 (by decide) (by decide), hvv u (by omega) 63 (by decide) (by decide)]
        exact ob u (by omega)
    · rw [show v + 1 - 1 = v by omega, y2, k87]
end

section
theorem bw_bd9 {β γ : Type} (x : Option (γ × Mem)) (k : γ → Mem → Option Mem) (K : Mem → Option β) : bw (bd x k) K = bd x (fun a μ => bw (k a μ) K) := by
  cases x with
  | none => rfl
  | some r => rfl
theorem pk_pk2 {α β : Type} {f : Option Mem} {k : Mem → Option α} {g : Option β} {P : α → β → Prop} (h : pk2 (bw f k) g P) : pk f (fun q => pk2 (k q) g P) := fun q e a s e1 e2 => h a s (by rw [e]; exact e1) e2
theorem pk2_gs {α : Type} {F : Option α} {g : Option Mem} {P : α → Mem → Prop} {Z : Mem → Prop} (hg : pk g Z) (h : ∀ z, Z z → pk2 F (some z) P) : pk2 F g P := fun a s e e2 => h s (hg s e2) a s e rfl
noncomputable def MVe (a1 r22 : Int32) (μ21 : Mem) : Option Mem := gd (inb a1 25) (bv (sF μ21 63 a1.toNatClampNeg (μ21.1 0 87)) (fun μ23 => gd (inb a1 25) (bv (sF μ23 64 a1.toNatClampNeg (μ23.1 0 88)) (fun μ24 => gd (inb r22 100000) (gd (inb (μ24.1 0 88) 4200) (bv (sF μ24 53 (μ24.1 0 88).toNatClampNeg (μ24.1 30 r22.toNatClampNeg)) (fun μ25 => gd (inb r22 100000) (gd (inb (μ25.1 0 88) 4200) (bv (sF μ25 54 (μ25.1 0 88).toNatClampNeg (μ25.1 31 r22.toNatClampNeg)) (fun μ26 => bv (sF μ26 0 88 ((μ26.1 0 88) + 1)) (fun μ27 => gd (inb a1 25) (bv (sF μ27 65 a1.toNatClampNeg (μ27.1 0 93)) (fun μ28 => some μ28)))))))))))))
theorem m_endV {v O y : Nat} {a1 r22 : Int32} {z : Mem} (ha : a1.toInt = (v : Int)) (hr : r22.toInt = (y : Int)) (hO : (z.1 0 88).toInt = (O : Int)) : pk (MVe a1 r22 z) (fun r => Ze9 v O y z r ∧ O < 4200) := by
  unfold MVe
  rw [tn_of ha, tn_of hr]
  refine pk_gd (fun _ => pk_bvy (fun m1 h1 => pk_gd (fun _ => pk_bvy (fun m2 h2 => pk_gd (fun _ => pk_gd (fun gO => ?_))))))
  have k2 : ∀ i k, ¬ ((i = 63 ∨ i = 64) ∧ k = v) → m2.1 i k = z.1 i k := fun i k c => by rw [h2, sF_at, if_neg (by omega), h1, sF_at, if_neg (by omega)]
  have k263 : m2.1 63 v = z.1 0 87 := by rw [h2, sF_i (by decide), h1, sF_v]
  have k264 : m2.1 64 v = z.1 0 88 := by rw [h2, sF_v, h1, sF_i (by decide)]
  have k22 : m2.2 = z.2 := by rw [h2, h1]; rfl
  have k88 : m2.1 0 88 = z.1 0 88 := k2 0 88 (by omega)
  have gO := inb_iff.mp gO
  rw [k88, hO] at gO
  rw [k88, tn_of hO, k2 30 y (by omega)]
  refine pk_bvy (fun m3 h3 => pk_gd (fun _ => pk_gd (fun _ => ?_)))
  have k3 : ∀ i k, ¬ (i = 53 ∧ k = O) → m3.1 i k = m2.1 i k := fun i k c => by rw [h3, sF_at, if_neg c]
  rw [k3 0 88 (by omega), k88, tn_of hO, k3 31 y (by omega), k2 31 y (by omega)]
  refine pk_bvy (fun m4 h4 => pk_bvy (fun m5 h5 => pk_gd (fun _ => pk_bvs (pk_some ?_))))
  have k4 : ∀ i k, ¬ (i = 54 ∧ k = O) → m4.1 i k = m3.1 i k := fun i k c => by rw [h4, sF_at, if_neg c]
  have k5 : ∀ i k, ¬ (i = 0 ∧ k = 88) → m5.1 i k = m4.1 i k := fun i k c => by rw [h5, sF_at, if_neg c]
  have all : ∀ i k, ¬ (i = 0 ∧ k = 88) → ¬ ((i = 53 ∨ i = 54) ∧ k = O) → m5.1 i k = m2.1 i k := fun i k c1 c2 => by rw [k5 i k c1, k4 i k (by omega), k3 i k (by omega)]
  refine ⟨⟨?_, ⟨?_, ?_, ?_⟩, ⟨?_, ?_⟩, ?_, fun i k c1 c2 c3 => ?_⟩, by omega⟩
  · show m5.2 = _
    rw [h5, h4, h3]; exact k22
  · rw [sF_i (by decide), all 63 v (by omega) (by omega)]; exact k263
  · rw [sF_i (by decide), all 64 v (by omega) (by omega)]; exact k264
  · rw [sF_v, all 0 93 (by omega) (by omega), k2 0 93 (by omega)]
  · rw [sF_i (by decide), k5 53 O (by omega), k4 53 O (by omega), h3, sF_v]
  · rw [sF_i (by decide), k5 54 O (by omega), h4, sF_v]
  · rw [sF_i (by decide), h5, sF_v, k4 0 88 (by omega), k3 0 88 (by omega), k88]
  · rw [sF_at, if_neg (by omega), all i k c3 c2, k2 i k (by omega)]
theorem m_endB {a1 r22 : Int32} {z : Mem} : pk (MVe a1 r22 z) (fun r => r.1 0 68 = z.1 0 68) := by
  unfold MVe
  refine pk_gd (fun _ => pk_bvy (fun m1 h1 => pk_gd (fun _ => pk_bvy (fun m2 h2 => pk_gd (fun _ => pk_gd (fun _ => pk_bvy (fun m3 h3 => pk_gd (fun _ => pk_gd (fun _ => pk_bvy (fun m4 h4 => pk_bvy (fun m5 h5 => pk_gd (fun _ => pk_bvs (pk_some ?_)))))))))))))
  rw [sF_i (by decide), h5, sF_k (by decide), h4, sF_i (by decide), h3, sF_i (by decide), h2, sF_i (by decide), h1, sF_i (by decide)]
theorem vs_ret {Post : Int32 × Mem → Mem → Prop} {P : Nat} {C : List Th3} {G : List Fn5} {v B e2 n fu : Nat} {It Bk It2 Bk2 : List Nat} {cl cl2 : Nat → Prop} {q0 z0 q' z' q z : Mem} {N : List Int32} {a1 aV : Int32} (h : VS9 P C G v It Bk cl q0 z0) (hv : (v : Int) < (q0.1 39 2).toInt) (hB : (q0.1 39 6).toInt = (B : Int)) (vb : VB9 v B q0 q') (vz : VZ9 v z0 z') (W : W9 P C G v B (z0.1 0 87).toNatClampNeg 1 0 N 0 0 0 q z It2 Bk2 cl2) (F : F9 v B (q'.1 39 6).toNatClampNeg 0 0 N.length 0 0 q' z' It Bk cl q z It2 Bk2 cl2) (he2 : C[e2]? = some (14, 0, 0)) (hpc : (q.1 137 9).toInt = (e2 : Int)) (ha1 : a1.toInt < 1000000) (hV : aV = nI v) (next : ∀ (q9 z28 : Mem) (It3 Bk3 : List Nat) (cl3 : Nat → Prop) (m : Nat), VS9 P C G (v + 1) It3 Bk3 cl3 q9 z28 → q9.1 39 3 = q.1 39 3 → pk2 (bw (p_X10_beginVariant (nI (v + 1)) q9) (fun r => p_X11_specialise_b17 m (a1 + 1) r)) (some z28) Post) (bad : ∀ (q z : Mem) (a2 : Int32) (n : Nat) (cd : Int32), q.1 137 6 = cd → z.1 0 68 = cd → cd ≠ 0 → pk2 (p_X11_specialise_b17 n a2 q) (some z) Post) : pk2 (p_X11_specialise_b17 n a1 q) (bw (p_X12_goAll_b0 fu z) (MV9 aV)) Post := by
  have e0 : (0 : Int32).toInt = ((0 : Nat) : Int) := by decide
  have e1 : (1 : Int32).toInt = 1 := by decide
  have hR := W.1.1
  obtain ⟨_, _, _, ⟨s1, s2, s3, s4, s5, s6⟩, _, ⟨r68, r69⟩, _⟩ := hR
  obtain ⟨k7, k66, hk⟩ := W.1.2.2.1
  obtain ⟨x, w, d, v1, v2, v3⟩ := hk 0 (by omega)
  have h10 : (q.1 30 10).toInt = ((0 : Nat) : Int) := W.1.2.2.2.2.2.1.1
  have ta : aV.toInt = (v : Int) := by rw [hV, ni_ti (by omega)]
  cases fu with
  | zero => rw [p_X12_goAll_b0_z]; intro a b _ e; cases e
  | succ fu =>
  rw [p_X12_goAll_b0_s, if_pos (by rw [ti_le, W.x65, e0]; exact Int.le_refl _)]
  show pk2 _ (MV9 aV z) Post
  have hMV : MV9 aV z = bd (p_X12_gone z) (fun r20 μ19 => bd (p_X12_lift r20 μ19) (fun r22 μ21 => MVe aV r22 μ21)) := by
    unfold MV9 MVe
    rw [if_pos r68]
  rw [hMV]
  refine lx_step (A := fun q2 => ∀ m, n = m + 1 → pk2 (p_X11_specialise_b17 m (a1 + 1) q2) (bd (p_X12_gone z) (fun r20 μ19 => bd (p_X12_lift r20 μ19) (fun r22 μ21 => MVe aV r22 μ21))) Post) s1 (by rw [s2]; exact s4) ha1 ?_ (fun m q2 e hq => hq m e)
  refine W.step he2 hpc ?_
  have p1 : ∀ i k, ¬ (i = 137 ∧ k = 9) → (sF q 137 9 (q.1 137 9 + 1)).1 i k = q.1 i k := fun i k hk => by rw [sF_at, if_neg hk]
  have p2 : (sF q 137 9 (q.1 137 9 + 1)).2 = q.2 := rfl
  generalize sF q 137 9 (q.1 137 9 + 1) = qa at p1 p2
  show pk (bw (p_X10_goBack qa) (fun μ66 => some μ66)) _
  rw [bw_id]
  cases n with
  | zero => exact fun r _ m e => absurd e (by omega)
  | succ n =>
  refine pk_mono (P := fun q2 => pk2 (p_X11_specialise_b17 n (a1 + 1) q2) (bd (p_X12_gone z) (fun r20 μ19 => bd (p_X12_lift r20 μ19) (fun r22 μ21 => MVe aV r22 μ21))) Post) (pk_pk2 (k := fun q2 => p_X11_specialise_b17 n (a1 + 1) q2) ?_) (fun q2 hq m e => by
    have : m = n := by omega
    rw [this]; exact hq)
  rw [p_X10_goBack_eq, p_X8_closeFrame_eq, if_neg (by rw [ti_le, p1 30 10 (by omega), h10, e1]; omega)]
  show pk2 (bw (if (sF qa 137 9 (-1)).1 137 9 = -1 then bd (p_X8_pop (sF qa 137 9 (-1))) (fun r6 μ5 => bd (pr_X10_lift 50 r6 0 μ5) (fun r8 μ7 => bw (p_X5_endBlock ((sF qa 137 9 (-1)).1 137 8) r8 μ7) (fun μ9 => bw (p_X10_beginVariant ((μ9.1 137 7) + 1) μ9) (fun μ11 => some μ11)))) else some (sF qa 137 9 (-1))) (fun q2 => p_X11_specialise_b17 n (a1 + 1) q2)) _ Post
  rw [sF_v, if_pos rfl, bw_bd9]
  have b1 : ∀ i k, ¬ (i = 137 ∧ k = 9) → (sF qa 137 9 (-1)).1 i k = q.1 i k := fun i k hk => by rw [sF_at, if_neg hk, p1 i k hk]
  have b2 : (sF qa 137 9 (-1)).2 = q.2 := p2
  generalize sF qa 137 9 (-1) = qb at b1 b2
  refine pk2_bdvl (c_pop (h := 0) (by rw [b1 30 7 (by omega)]; exact k7)) (pk2_bdvr (m_gone (n := 0) k66) ?_)
  rw [b2, bw_bd9]
  have m51 : ∀ i k, ¬ (i = 137 ∧ k = 9) → ¬ (i = 30 ∧ k = 7) → (sF qb 30 7 (qb.1 30 7 - 1)).1 i k = q.1 i k := fun i k c1 c2 => by rw [sF_at, if_neg c2, b1 i k c1]
  have m52 : (sF qb 30 7 (qb.1 30 7 - 1)).2 = q.2 := b2
  generalize sF qb 30 7 (qb.1 30 7 - 1) = μ5 at m51 m52
  have z191 : ∀ i k, ¬ (i = 0 ∧ k = 66) → (sF z 0 66 (z.1 0 66 - 1)).1 i k = z.1 i k := fun i k c => by rw [sF_at, if_neg c]
  have z192 : (sF z 0 66 (z.1 0 66 - 1)).2 = z.2 := rfl
  generalize sF z 0 66 (z.1 0 66 - 1) = z19 at z191 z192
  have R5 : Re7 μ5 z19 It2 Bk2 cl2 v B (z0.1 0 87).toNatClampNeg := W.1.1.of (fun i k _ => m51 i k (by omega) (by omega)) (fun k _ => m51 137 k (by omega) (by omega)) (fun i k _ => by rw [m52]) (fun k _ => z191 0 k (by omega)) (fun i k _ _ _ _ => z191 i k (by omega))
  have V5 : Va7 μ5 z19 (q.2.1 36 0) x w d := v2.gr (gs_same (m51 30 5 (by omega) (by omega)) (fun k => by rw [m52]) (fun k => by rw [m52]) (fun k => m51 33 k (by omega) (by omega)) (fun k => m51 34 k (by omega) (by omega))) (gh_same (z191 0 56 (by omega)) (fun i k _ _ => z191 i k (by omega)))
  refine pk2_bd2 (lift_both R5 V5 v3 v1 e0) (fun r8 μ7 r22 μ21 hL => ?_)
  rcases hL with ⟨It3, Bk3, y, R7, G7, V7, hy, fx, fm⟩ | ⟨l1, l2, l3⟩
  · have R7 : Re7 μ7 μ21 It3 Bk3 cl2 v B (z0.1 0 87).toNatClampNeg := R7
    have G7 : Gl8 B μ5 z19 It2 Bk2 cl2 μ7 μ21 It3 Bk3 cl2 := G7
    have V7 : Va7 μ7 μ21 r8 y 1 0 := V7
    have hy : r22.toInt = (y : Int) := hy
    have fx : Fx7 v μ5 μ7 := fx
    have fm : Fm7 (z19.1 0 87).toNatClampNeg (z19.1 0 88).toNatClampNeg z19 μ21 := fm
    obtain ⟨O, hO⟩ : ∃ O : Nat, (μ21.1 0 88).toInt = (O : Int) := by
      obtain ⟨⟨_, _, _, _, _, O, _, hO, _⟩, _⟩ := R7
      exact ⟨O, hO⟩
    have k8 : (qb.1 137 8).toInt = (B : Int) := by rw [b1 137 8 (by omega)]; exact s3
    have hBl : (B : Int) < (μ7.1 39 6).toInt := R7.2.2.2.1.2.2.2.2.2
    rw [bw_bw]
    refine pk2_bwl (c_endBlock r8 k8 hBl) (fun q9 hq9 => ?_)
    have k7' : (q9.1 137 7) + 1 = nI (v + 1) := by
      have a : (q9.1 137 7).toInt = (v : Int) := by rw [hq9, sL_1]; exact R7.2.2.2.1.2.1
      exact ti_eq.mpr (by rw [ti_add (by omega) (by omega), a, e1, ni_ti (by omega)]; omega)
    rw [k7', bw_id]
    refine pk2_gs (m_endV (v := v) (O := O) (y := y) ta hy hO) (fun z28 hz => ?_)
    obtain ⟨hz, hO2⟩ := hz
    refine next q9 z28 It3 Bk3 cl2 n (vs_end h hv hB vb vz W F m51 m52 z191 z192 R7 G7 V7 fx fm hq9 hO hO2 hz) ?_
    rw [hq9, sL_1, fx.2.2.1 3 (by decide), m51 39 3 (by omega) (by omega)]
  · have l1 : μ7.1 137 6 = -2 := l1
    have l2 : μ21.1 0 68 = -2 := l2
    rw [bw_bw]
    refine pk2_bwl (c_endBlock_any _ _ μ7) (fun q9 hq9 => ?_)
    rw [bw_id]
    refine pk2_bwl (kb_beginV _ q9) (fun qe hqe => ?_)
    refine pk2_gs m_endB (fun z28 hz => ?_)
    exact bad qe z28 (a1 + 1) n (-2) (by rw [hqe.1, hq9.1]; exact l1) (by rw [hz]; exact l2) (by decide)
end
