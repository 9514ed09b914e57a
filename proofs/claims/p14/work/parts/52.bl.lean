/-! BUILDING OF ROWS -/
def BS (μ : Mem) (be : Nat → Int) (c N : Nat) (V : Nat → Prop) (p : Nat) (l : List Nat) : Prop := HI μ ∧ Bu μ l ∧ (∀ x, x ∈ l → Vl μ V x) ∧ Bl μ be c N p l
theorem bs_leaf {μ q : Mem} {be : Nat → Int} {c N : Nat} {V : Nat → Prop} {p x : Nat} {l : List Nat} (h : BS μ be c N V (p + 1) l) (hb : be p = 0) (g : Gr μ q) (hH : HI q) (hB : Bu q (x :: l)) (hv : Vl q V x) (hw : iv q 33 x ≤ (c : Int)) : BS q be c N V p (x :: l) := by
  obtain ⟨h1, h2, h3, h4⟩ := h
  refine ⟨hH, hB, fun y hy => ?_, p + 1, Sh.cons (k := 0) hb Sh.nil Sh.nil, ?_, h4.gr g (fun y hy => (h3 y hy).lt)⟩
  · rcases List.mem_cons.mp hy with e | hy
    · rw [e]; exact hv
    · exact (h3 y hy).gr g
  · have : ((c : Int) * (((p + 1 : Nat) : Int) - (p : Int))) = (c : Int) := by
      have : ((p + 1 : Nat) : Int) - (p : Int) = 1 := by omega
      rw [this, Int.mul_one]
    rw [this]; exact hw
theorem bs_pair {μ q : Mem} {be : Nat → Int} {c N : Nat} {V : Nat → Prop} {p x y m1 m2 : Nat} {l : List Nat} (hc : 1 ≤ c) (hb : be p = 2) (s1 : Sh be 1 (p + 1) m1) (s2 : Sh be 1 m1 m2) (wx : iv μ 33 x ≤ (c : Int) * ((m1 : Int) - ((p + 1 : Nat) : Int))) (wy : iv μ 33 y ≤ (c : Int) * ((m2 : Int) - (m1 : Int))) (hl : Bl μ be c N m2 l) (hv : ∀ z, z ∈ x :: y :: l → Vl μ V z)
    (g : Gr μ q) (hH : HI q) (n : nv q 56 = nv μ 56 + 1) (s : iv q 30 (nv μ 56) = 2) (hx : iv q 31 (nv μ 56) = (x : Int)) (hy : iv q 32 (nv μ 56) = (y : Int)) (w : iv q 33 (nv μ 56) = 1 + iv μ 33 x + iv μ 33 y) (hB : Bu q (nv μ 56 :: l)) : BS q be c N V p (nv μ 56 :: l) := by
  have l1 := s1.le
  have l2 := s2.le
  refine ⟨hH, hB, fun z hz => ?_, m2, Sh.cons (k := 2) hb (s1.app s2) Sh.nil, ?_, hl.gr g (fun z hz => (hv z (by simp [hz])).lt)⟩
  · rcases List.mem_cons.mp hz with e | hz
    · rw [e]; exact Vl.pair (by omega) s hx hy ((hv x (by simp)).gr g) ((hv y (by simp)).gr g)
    · exact (hv z (by simp [hz])).gr g
  · rw [w]
    have hc1 : (1 : Int) ≤ (c : Int) := by omega
    have e1 : (c : Int) * ((m2 : Int) - (p : Int)) = (c : Int) + (c : Int) * ((m1 : Int) - ((p + 1 : Nat) : Int)) + (c : Int) * ((m2 : Int) - (m1 : Int)) := by
      have e : ((p + 1 : Nat) : Int) = (p : Int) + 1 := by omega
      rw [e, Int.mul_sub, Int.mul_sub, Int.mul_sub, Int.mul_add, Int.mul_one]; omega
    rw [e1]; omega
theorem Bl.wt {μ : Mem} {be : Nat → Int} {c N : Nat} : ∀ {l : List Nat} {p : Nat}, Bl μ be c N p l → ∀ x, x ∈ l → iv μ 33 x ≤ (c : Int) * (N : Int) := by
  intro l
  induction l with
  | nil => intro p _ x hx; exact absurd hx (by simp)
  | cons y l ih =>
    intro p h x hx
    obtain ⟨m, h1, h2, h3⟩ := h
    rcases List.mem_cons.mp hx with e | hx
    · rw [e]
      refine Int.le_trans h2 (Int.mul_le_mul_of_nonneg_left ?_ (by omega))
      have := h3.le
      omega
    · exact ih h3 x hx
/-- the leaves: told values, in their row -/
def LA (μ : Mem) (n : Nat) : Prop := ∃ l : List Nat, l.length = n ∧ Lst (iv μ 36) 0 l ∧ ∀ x, x ∈ l → Vl μ (fun _ => False) x ∧ iv μ 33 x ≤ 30
def frBL : List (Nat × Nat × Nat) := frBN ++ [(1, 36, 0)]
theorem nat_sub1 {a : Int32} {p : Nat} (h : a.toInt = (p : Int)) : (a + (-1)).toInt = (p : Int) - 1 := by
  have e : (-1 : Int32).toInt = -1 := by decide
  have := ti_hi a
  rw [ti_add (by omega) (by omega), e, h]; omega
theorem k_buildLeaves_b40 (μ0 : Mem) (n : Nat) (hn : n ≤ 8) : ∀ (m : Nat) (a1 : Int32) (l1 l2 : List Nat) (μ : Mem), IM μ → HI μ → nv μ 47 = n → a1.toInt = (l1.length : Int) → l1.length + l2.length = n → n + 1 ≤ m + l1.length → Lst (iv μ 36) 0 l1 → Bu μ l2 → (∀ x, x ∈ l1 ++ l2 → Vl μ (fun _ => False) x ∧ iv μ 33 x ≤ 30) → Fr frBL true μ0 μ → ok (p_X12_buildLeaves_b40 m a1 μ) (fun q => IM q ∧ HI q ∧ Fr frBL true μ0 q ∧ nv q 56 = nv μ 56 ∧ LA q n) := by
  intro m
  have e1 : (1 : Int32).toInt = 1 := by decide
  induction m with
  | zero => intro a1 l1 l2 μ _ _ _ _ h1 h2; omega
  | succ m ih =>
    intro a1 l1 l2 μ hI hH h47 ha hlen hm hL hB hv hF
    rw [p_X12_buildLeaves_b40_s]
    have g47 := rgm_0_47 hI
    have n47 := ti_nat (a := μ.1 0 47) (by omega)
    have hn47 : nv μ 47 = (μ.1 0 47).toNatClampNeg := rfl
    refine ok_ite (fun hle => ?_) (fun hle => ?_)
    · rw [ti_le] at hle
      have : l2 = [] := List.length_eq_zero_iff.mp (by omega)
      subst this
      exact ok_some ⟨hI, hH, hF, rfl, l1, by simp at hlen; exact hlen, hL, by simpa using hv⟩
    · rw [ti_le] at hle
      cases l2 with
      | nil => simp at hlen; omega
      | cons x l2 =>
        refine ok_bd (t_unbuild hI hB) ?_
        rintro r μ5 ⟨hr, hI5, hF5, hB5⟩
        have hx := hv x (by simp)
        have hxl := hx.1.lt
        have ehp := hp_nv hI
        have g56 := rgm_0_56 hI
        have ea : a1.toNatClampNeg = l1.length := tn_of ha
        simp at hlen
        refine ok_gd (inb_iff.mpr (by omega)) (ok_bv (fun μ7 em7 => ok_bv (fun v8 ev8 => ?_)))
        rw [ea] at em7
        have hr : r.toInt = (x : Int) := hr
        have hI7 : IM μ7 := by rw [em7]; exact IM_F hI5 (rpm_36 (by rw [hr]; omega))
        have hF57 : Fr [(0, 0, 58), (1, 36, 0)] true μ μ7 := by
          rw [em7]; exact Fr.puta (Fr.mono hF5 (by decide +kernel) (fun h => h)) (by decide +kernel)
        obtain ⟨n7, a7⟩ := hF57.heq (by decide +kernel)
        have hG7 := hF57.gr (by decide +kernel)
        have e36 : ∀ i, iv μ7 36 i = if i = l1.length then (x : Int) else iv μ 36 i := by
          intro i
          have hm : iv μ5 36 i = iv μ 36 i := congrArg Int32.toInt (hF5.1 36 i (by simp [hit]))
          unfold iv
          rw [em7, sF_1, if_pos rfl]
          split
          · exact hr
          · exact hm
        refine ok_mono (ih v8 (l1 ++ [x]) l2 μ7 hI7 (hH.fr hF57 (by decide +kernel)) ?_ ?_ (by simp; omega) (by simp; omega) ?_ ?_ ?_ (hF.trans (Fr.mono hF57 (by decide +kernel) (fun h => h)))) ?_
        · unfold nv; rw [hF57.1 0 47 (by decide +kernel)]; exact h47
        · rw [ev8, ti_add (by omega) (by omega), e1, ha]; simp
        · refine Lst.snoc (hL.cong (fun j _ hj => ?_)) ?_
          · rw [e36, if_neg (by omega)]
          · rw [e36, if_pos (by omega)]
        · refine hB5.fr (L := [(1, 36, 0)]) (b := true) ?_ (by decide +kernel) (fun k => by simp [hit])
          rw [em7]; exact Fr.puta Fr.rf (by decide +kernel)
        · intro y hy
          have hy2 : y ∈ l1 ++ x :: l2 := by simpa using hy
          have h9 := hv y hy2
          exact ⟨h9.1.gr hG7, by rw [(a7 y).2.2.2]; exact h9.2⟩
        · rintro q ⟨q1, q2, q3, q4, q5⟩
          exact ⟨q1, q2, q3, by rw [q4]; exact n7, q5⟩
theorem k_buildLeaves (μ : Mem) (hI : IM μ) (hH : HI μ) (hW : VW μ) (hh : nv μ 56 + 30 < 100000) : ok (p_X12_buildLeaves μ) (fun q => IM q ∧ HI q ∧ Fr frBL true μ q ∧ nv q 56 ≤ nv μ 56 + 30 ∧ LA q (nv μ 47)) := by
  rw [p_X12_buildLeaves_eq]
  have e0 : (0 : Int32).toInt = 0 := by decide
  have e1 : (1 : Int32).toInt = 1 := by decide
  have e2 : (2 : Int32).toInt = 2 := by decide
  obtain ⟨W1, W2⟩ := hW
  have g46 := rgm_0_46 hI
  have n46 := ti_nat (a := μ.1 0 46) (by omega)
  have hn46 : nv μ 46 = (μ.1 0 46).toNatClampNeg := rfl
  have g47 := rgm_0_47 hI
  have n47 := ti_nat (a := μ.1 0 47) (by omega)
  have hn47 : nv μ 47 = (μ.1 0 47).toNatClampNeg := rfl
  refine ok_bv (fun μ1 em1 => ok_bv (fun v2 ev2 => ?_))
  have hI1 : IM μ1 := by rw [em1]; exact IM_F hI (rpm_0_58 (by rw [e0]; omega))
  have hF1 : Fr [(0, 0, 58)] true μ μ1 := by rw [em1]; exact Fr.put Fr.rf (by decide +kernel)
  have loop : ∀ (m : Nat) (a1 : Int32) (p : Nat) (l : List Nat) (μ2 : Mem), IM μ2 → a1.toInt = (p : Int) - 1 → p ≤ nv μ 46 → p < m → Fr frBL true μ μ2 → nv μ2 56 + p ≤ nv μ 56 + nv μ 46 → BS μ2 (bp (iv μ 27)) 1 (nv μ 46) (fun _ => False) p l → ok (p_X12_buildLeaves_b12 m a1 μ2) (fun q => IM q ∧ HI q ∧ Fr frBL true μ q ∧ nv q 56 ≤ nv μ 56 + 30 ∧ LA q (nv μ 47)) := by
    intro m
    induction m with
    | zero => intro a1 p l μ2 _ _ _ h; omega
    | succ m ih =>
      intro a1 p l μ2 hI2 ha hp hm hF2 hh2 hS
      rw [p_X12_buildLeaves_b12_s]
      have x27 : ∀ i, iv μ2 27 i = iv μ 27 i := fun i => congrArg Int32.toInt (hF2.1 27 i (by simp [frBL, frBN, frB, frN, hit]))
      refine ok_ite (fun hlt => ?_) (fun hlt => ?_)
      · rw [ti_lt] at hlt
        have : p = 0 := by omega
        subst this
        have hlen := hS.2.2.2.len W1
        have h47 : nv μ2 47 = nv μ 47 := by unfold nv; rw [hF2.1 0 47 (by decide +kernel)]
        refine ok_mono (k_buildLeaves_b40 μ (nv μ 47) (by omega) FUEL 0 [] l μ2 hI2 hS.1 h47 e0 (by simp [hlen]) (by show _ ≤ 10000000000 + _; omega) trivial hS.2.1 (fun x hx => ⟨hS.2.2.1 x (by simpa using hx), ?_⟩) hF2) ?_
        · have := hS.2.2.2.wt x (by simpa using hx)
          omega
        · rintro q ⟨q1, q2, q3, q4, q5⟩
          exact ⟨q1, q2, q3, by omega, q5⟩
      · rw [ti_lt] at hlt
        obtain ⟨p, rfl⟩ : ∃ p', p = p' + 1 := ⟨p - 1, by omega⟩
        have ea : a1.toNatClampNeg = p := tn_of (by omega)
        have hb : inb a1 30 = true := inb_iff.mpr (by omega)
        have hs := W2 p (by omega)
        rw [ea]
        have hsv : (μ2.1 27 p).toInt = iv μ 27 p := x27 p
        have next : ∀ (l2 : List Nat) (μ9 : Mem), IM μ9 → Fr frBN true μ2 μ9 → nv μ9 56 = nv μ2 56 + 1 → BS μ9 (bp (iv μ 27)) 1 (nv μ 46) (fun _ => False) p l2 → ok (bv (a1 + (-1)) (fun v11 => p_X12_buildLeaves_b12 m v11 μ9)) (fun q => IM q ∧ HI q ∧ Fr frBL true μ q ∧ nv q 56 ≤ nv μ 56 + 30 ∧ LA q (nv μ 47)) := by
          intro l2 μ9 hI9 hF9 n9 hS9
          refine ok_bv (fun v11 ev11 => ih v11 p l2 μ9 hI9 ?_ (by omega) (by omega) (hF2.trans (Fr.mono hF9 (by decide +kernel) (fun h => h))) (by omega) hS9)
          rw [ev11]; exact nat_sub1 (by omega)
        refine ok_gd hb (ok_gd hb ?_)
        by_cases e : iv μ 27 p = 2
        · obtain ⟨K, ee, z, k1, k2, k3, k4⟩ := sh_ahead W1 (p := p) (by omega)
          have hbe : bp (iv μ 27) p = 2 := by unfold bp; rw [if_pos e]
          have hK : K = 2 := by omega
          subst hK
          obtain ⟨x, y, l2, m1, m2, rfl, s1, s2, wx, wy, hl2, hm2⟩ := hS.2.2.2.two k2 k3
          have hwx := hS.2.2.2.wt x (by simp)
          have hwy := hS.2.2.2.wt y (by simp)
          refine ok_bw (t_buildOne_p hI2 hS.1 hS.2.1 (by rw [hsv]; exact e) (by omega) (hS.2.2.1 x (by simp)).lt (hS.2.2.1 y (by simp)).lt (by omega)) ?_
          rintro μ9 ⟨q1, q2, q3, q4, q5, q6, q7, q8, q9, q10⟩
          exact next _ μ9 q1 q2 q5 (bs_pair (by omega) hbe s1 s2 wx wy hl2 hS.2.2.1 q4 q3 q5 q6 q7 q8 q9 q10)
        · have hbe : bp (iv μ 27) p = 0 := by unfold bp; rw [if_neg e]
          have hlen := hS.2.1.len hI2
          have hle := hS.2.2.2.le
          refine ok_bw (t_buildOne_n hI2 hS.1 hS.2.1 (by rw [hsv]; omega) (by omega) (by omega)) ?_
          rintro μ9 ⟨q1, q2, q3, q4, q5, q6, q7, q8, q9⟩
          rw [hsv] at q6
          refine next _ μ9 q1 q2 q5 (bs_leaf hS hbe q4 q3 q9 (Vl.leaf (by omega) (by omega) (fun h => by omega)) (by omega))
  refine loop FUEL v2 (nv μ 46) [] μ1 hI1 ?_ (Nat.le_refl _) (by show _ < 10000000000; omega) (Fr.mono hF1 (by decide +kernel) (fun h => h)) ?_ ⟨hH.fr hF1 (by decide +kernel), ⟨by rw [em1, sF_v]; exact e0, trivial⟩, fun x hx => absurd hx (by simp), rfl⟩
  · have : μ1.1 0 46 = μ.1 0 46 := by rw [em1]; rfl
    rw [ev2, this, ti_sub (by omega) (by omega), e1]; omega
  · rw [(hF1.heq (by decide +kernel)).1]; exact Nat.le_refl _
