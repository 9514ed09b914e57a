/-! A VARIANT IS MADE: its arguments are built -/
theorem c3_mono (s : Nat → Int) {n q : Nat} (h : n ≤ q) : c3 s n ≤ c3 s q := by
  induction q with
  | zero => have : n = 0 := by omega
            subst this; exact Nat.le_refl _
  | succ q ih =>
    by_cases e : n = q + 1
    · rw [e]; exact Nat.le_refl _
    · refine Nat.le_trans (ih (by omega)) ?_
      show _ ≤ c3 s q + _
      omega
theorem Bl.w40 {μ : Mem} {be : Nat → Int} {N : Nat} : ∀ {l : List Nat} {p n : Nat}, Bl μ be 1 N p l → Sw be n p N → ∀ x, x ∈ l → iv μ 33 x ≤ 40 := by
  intro l
  induction l with
  | nil => intro p n _ _ x hx; exact absurd hx (by simp)
  | cons y l ih =>
    intro p n h s x hx
    obtain ⟨m, h1, h2, h3⟩ := h
    cases n with
    | zero => have s : p = N := s; have := h1.le; have := h3.le; omega
    | succ n =>
      obtain ⟨m2, s1, s2, s3⟩ := s
      have := h1.det _ s1
      subst this
      rcases List.mem_cons.mp hx with e | hx
      · rw [e]; omega
      · exact ih h3 s3 x hx
set_option maxHeartbeats 2000000 in
theorem mv_build {μ : Mem} {Q : Mem → Prop} {v n k : Nat} {a1 : Int32} (ha1 : a1.toInt = (v : Int)) (hv : v < 25) (hn : n ≤ 200) (hI : IM μ) (h56 : nv μ 56 = 0) (h58 : μ.1 0 58 = 0) (hW : Sw (bp (fun p => iv μ 60 (210 * v + p))) k 0 n) (hs : ∀ p, p < n → 0 ≤ iv μ 60 (210 * v + p) ∧ iv μ 60 (210 * v + p) ≤ 3) {V : Nat → Prop} (hV : ∀ u : Nat, u < c3 (fun p => iv μ 60 (210 * v + p)) n → V u)
    (hK : ∀ (μ2 : Mem) (l : List Nat), IM μ2 → HI μ2 → Fr frBN true μ μ2 → nv μ2 56 ≤ 200 → Bu μ2 l → (∀ x, x ∈ l → Gd μ2 V x) → l.length = k → ok (gd (inb a1 25) (bv (μ2.1 57 a1.toNatClampNeg) (fun v12 => p_X12_makeVariant_b137 FUEL a1 v12 0 μ2))) Q)
    {a2 a3 : Int32} (h2 : a2.toInt = (c3 (fun p => iv μ 60 (210 * v + p)) n : Int)) (h3 : a3.toInt = (n : Int) - 1) : ok (p_X12_makeVariant_b61 FUEL a1 a2 a3 μ) Q := by
  have e0 : (0 : Int32).toInt = 0 := by decide
  have e1 : (1 : Int32).toInt = 1 := by decide
  have e3 : (3 : Int32).toInt = 3 := by decide
  have e210 : (210 : Int32).toInt = 210 := by decide
  generalize hrow : (fun p => iv μ 60 (210 * v + p)) = row at hW hV h2
  have hrw : ∀ p, iv μ 60 (210 * v + p) = row p := fun p => by rw [← hrow]
  have loop : ∀ (m : Nat) (a2 a3 : Int32) (p : Nat) (l : List Nat) (μ2 : Mem), IM μ2 → a3.toInt = (p : Int) - 1 → a2.toInt = (c3 row p : Int) → p ≤ n → p < m → Fr frBN true μ μ2 → nv μ2 56 + p ≤ n → BS μ2 (bp row) 1 n V p l → ok (p_X12_makeVariant_b61 m a1 a2 a3 μ2) Q := by
    intro m
    induction m with
    | zero => intro a2 a3 p l μ2 _ _ _ _ h; omega
    | succ m ih =>
      intro a2 a3 p l μ2 hI2 h3 h2 hp hm F2 hh hS
      rw [p_X12_makeVariant_b61_s]
      refine ok_ite (fun hlt => ?_) (fun hlt => ?_)
      · rw [ti_lt, e0] at hlt
        have : p = 0 := by omega
        subst this
        exact hK μ2 l hI2 hS.1 F2 (by omega) hS.2.1 (fun x hx => ⟨hS.2.2.1 x hx, hS.2.2.2.w40 hW x hx⟩) (hS.2.2.2.len hW.sh)
      · rw [ti_lt, e0] at hlt
        obtain ⟨p, rfl⟩ : ∃ p', p = p' + 1 := ⟨p - 1, by omega⟩
        have t210 : ((210 : Int32) * a1).toInt = 210 * (v : Int) := by rw [ti_mul (by rw [e210, ha1]; omega) (by rw [e210, ha1]; omega), e210, ha1]
        have tix : ((210 : Int32) * a1 + a3).toInt = ((210 * v + p : Nat) : Int) := by rw [ti_add (by omega) (by omega), t210, h3]; omega
        have nix : ((210 : Int32) * a1 + a3).toNatClampNeg = 210 * v + p := tn_of tix
        have bix : inb ((210 : Int32) * a1 + a3) 5250 = true := inb_iff.mpr (by omega)
        refine ok_gd bix (ok_bv (fun v33 ev33 => ?_))
        rw [nix] at ev33
        have t33 : v33.toInt = row p := by
          rw [ev33, ← hrw]; exact F2.a (c := 60) (by decide) _
        have hsp := hs p (by omega)
        rw [hrw] at hsp
        have hc3 : c3 row (p + 1) = c3 row p + (if row p = 3 then 1 else 0) := rfl
        have hcl := c3_le row p
        -- one is built
        have next : ∀ (a2' k0 : Int32), a2'.toInt = (c3 row p : Int) → (row p = 3 → k0.toInt = (c3 row p : Int)) → ok (p_X12_makeVariant_b118 (p_X12_makeVariant_b61 m) a1 a2' a3 k0 v33 μ2) Q := by
          intro a2' k0 h2' h0'
          rw [p_X12_makeVariant_b118_eq]
          have go : ∀ (l2 : List Nat) (μ9 : Mem), IM μ9 → Fr frBN true μ2 μ9 → nv μ9 56 = nv μ2 56 + 1 → BS μ9 (bp row) 1 n V p l2 → ok (bv (a3 + (-1)) (fun v39 => p_X12_makeVariant_b61 m a1 a2' v39 μ9)) Q := by
            intro l2 μ9 hI9 hF9 n9 hS9
            refine ok_bv (fun v39 ev39 => ih a2' v39 p l2 μ9 hI9 ?_ h2' (by omega) (by omega) (F2.trans hF9) (by omega) hS9)
            rw [ev39]; exact nat_sub1 (by omega)
          by_cases e : row p = 2
          · obtain ⟨K, ee, z, k1, k2, k3, k4⟩ := sh_ahead hW.sh (p := p) (by omega)
            have hbe : bp row p = 2 := by unfold bp; rw [if_pos e]
            have hKe : K = 2 := by omega
            subst hKe
            obtain ⟨x, y, l2, m1, m2, rfl, s1, s2, wx, wy, hl2, hm2⟩ := hS.2.2.2.two k2 k3
            have hwx := hS.2.2.2.wt x (by simp)
            have hwy := hS.2.2.2.wt y (by simp)
            refine ok_bw (t_buildOne_p hI2 hS.1 hS.2.1 (by rw [t33]; exact e) (by omega) (hS.2.2.1 x (by simp)).lt (hS.2.2.1 y (by simp)).lt (by omega)) ?_
            rintro μ9 ⟨q1, q2, q3, q4, q5, q6, q7, q8, q9, q10⟩
            exact go _ μ9 q1 q2 q5 (bs_pair (by omega) hbe s1 s2 wx wy hl2 hS.2.2.1 q4 q3 q5 q6 q7 q8 q9 q10)
          · have hbe : bp row p = 0 := by unfold bp; rw [if_neg e]
            have hle := hS.2.2.2.le
            refine ok_bw (t_buildOne_n hI2 hS.1 hS.2.1 (by rw [t33]; omega) (by omega) (by omega)) ?_
            rintro μ9 ⟨q1, q2, q3, q4, q5, q6, q7, q8, q9⟩
            rw [t33] at q6
            refine go _ μ9 q1 q2 q5 (bs_leaf hS hbe q4 q3 q9 (Vl.leaf (by omega) (by omega) (fun h => ?_)) (by omega))
            have hr3 : row p = 3 := by omega
            rw [q7, h0' hr3]
            refine ⟨by omega, hV _ ?_⟩
            have := c3_mono row (n := p + 1) (q := n) hp
            rw [hc3, if_pos hr3] at this
            show c3 row p < _
            omega
        refine ok_ite (fun h33 => ?_) (fun h33 => ?_)
        · have hr3 : row p = 3 := by rw [← t33, h33]; exact e3
          rw [if_pos hr3] at hc3
          rw [p_X12_makeVariant_b91_eq]
          refine ok_bv (fun v35 ev35 => ?_)
          have t35 : v35.toInt = (c3 row p : Int) := by rw [ev35, ti_sub (by omega) (by omega), e1]; omega
          rw [if_pos h33]
          exact next v35 v35 t35 (fun _ => t35)
        · have hr3 : row p ≠ 3 := fun h => h33 (ti_eq.mpr (by rw [t33, h, e3]))
          rw [if_neg hr3] at hc3
          rw [p_X12_makeVariant_b91_eq]
          refine ok_bv (fun v35 ev35 => ?_)
          have t35 : v35.toInt = (c3 row p : Int) := by rw [ev35, ti_sub (by omega) (by omega), e0]; omega
          rw [if_neg h33]
          exact ok_gd bix (next v35 _ t35 (fun h => absurd h hr3))
  refine loop FUEL a2 a3 n [] μ hI h3 h2 (Nat.le_refl _) (by show _ < 10000000000; omega) Fr.rf (by omega) ⟨fun k hk => by omega, ⟨by rw [h58]; exact e0, trivial⟩, fun x hx => absurd hx (by simp), rfl⟩
