/-! THE TASK'S ARGUMENTS -/
def frBT : List (Nat × Nat × Nat) := frBN ++ [(1, 45, 0)]
/-- the arguments at hand -/
def GA (μ : Mem) (V : Nat → Prop) (w : Int) (l : List Nat) : Prop := Lst (iv μ 45) 0 l ∧ ∀ x, x ∈ l → Vl μ V x ∧ iv μ 33 x ≤ w
theorem k_buildTask_b84 (μ0 : Mem) (V : Nat → Prop) (w : Int) (n : Nat) (hn : n ≤ 5) : ∀ (m : Nat) (a1 : Int32) (l1 l2 : List Nat) (μ : Mem), IM μ → HI μ → nv μ 43 = n → a1.toInt = (l1.length : Int) → l1.length + l2.length = n → n + 1 ≤ m + l1.length → Lst (iv μ 45) 0 l1 → Bu μ l2 → (∀ x, x ∈ l1 ++ l2 → Vl μ V x ∧ iv μ 33 x ≤ w) → Fr frBT true μ0 μ → ok (p_X12_buildTask_b84 m a1 μ) (fun q => IM q ∧ HI q ∧ Fr frBT true μ0 q ∧ nv q 56 = nv μ 56 ∧ Gr μ q ∧ (l1 ++ l2).length = n ∧ GA q V w (l1 ++ l2)) := by
  intro m
  have e1 : (1 : Int32).toInt = 1 := by decide
  induction m with
  | zero => intro a1 l1 l2 μ _ _ _ _ h1 h2; omega
  | succ m ih =>
    intro a1 l1 l2 μ hI hH h47 ha hlen hm hL hB hv hF
    rw [p_X12_buildTask_b84_s]
    have g47 := rgm_0_43 hI
    have n47 := ti_nat (a := μ.1 0 43) (by omega)
    have hn47 : nv μ 43 = (μ.1 0 43).toNatClampNeg := rfl
    refine ok_ite (fun hle => ?_) (fun hle => ?_)
    · rw [ti_le] at hle
      have : l2 = [] := List.length_eq_zero_iff.mp (by omega)
      subst this
      simp at hlen hv
      refine ok_some ⟨hI, hH, hF, rfl, Gr.rf, by simp [hlen], ?_⟩
      rw [List.append_nil]; exact ⟨hL, hv⟩
    · rw [ti_le] at hle
      cases l2 with
      | nil => simp at hlen; omega
      | cons x l2 =>
        refine ok_bd (t_unbuild hI hB) ?_
        rintro r μ5 ⟨hr, hI5, hF5, hB5⟩
        have hx := hv x (by simp)
        have hxl := hx.1.lt
        have ehp := hp_nv hI
        have g56 := rgm_0_56 hI
        have ea : a1.toNatClampNeg = l1.length := tn_of ha
        simp at hlen
        refine ok_gd (inb_iff.mpr (by omega)) (ok_bv (fun μ7 em7 => ok_bv (fun v8 ev8 => ?_)))
        rw [ea] at em7
        have hr : r.toInt = (x : Int) := hr
        have hI7 : IM μ7 := by rw [em7]; exact IM_F hI5 (rpm_45 (by rw [hr]; omega))
        have hF57 : Fr [(0, 0, 58), (1, 45, 0)] true μ μ7 := by
          rw [em7]; exact Fr.puta (Fr.mono hF5 (by decide +kernel) (fun h => h)) (by decide +kernel)
        obtain ⟨n7, a7⟩ := hF57.heq (by decide +kernel)
        have hG7 := hF57.gr (by decide +kernel)
        have e36 : ∀ i, iv μ7 45 i = if i = l1.length then (x : Int) else iv μ 45 i := by
          intro i
          have hm : iv μ5 45 i = iv μ 45 i := congrArg Int32.toInt (hF5.1 45 i (by simp [hit]))
          unfold iv
          rw [em7, sF_1, if_pos rfl]
          split
          · exact hr
          · exact hm
        have eap : l1 ++ x :: l2 = (l1 ++ [x]) ++ l2 := by simp
        rw [eap]
        refine ok_mono (ih v8 (l1 ++ [x]) l2 μ7 hI7 (hH.fr hF57 (by decide +kernel)) ?_ ?_ (by simp; omega) (by simp; omega) ?_ ?_ ?_ (hF.trans (Fr.mono hF57 (by decide +kernel) (fun h => h)))) ?_
        · unfold nv; rw [hF57.1 0 43 (by decide +kernel)]; exact h47
        · rw [ev8, ti_add (by omega) (by omega), e1, ha]; simp
        · refine Lst.snoc (hL.cong (fun j _ hj => ?_)) ?_
          · rw [e36, if_neg (by omega)]
          · rw [e36, if_pos (by omega)]
        · refine hB5.fr (L := [(1, 45, 0)]) (b := true) ?_ (by decide +kernel) (fun k => by simp [hit])
          rw [em7]; exact Fr.puta Fr.rf (by decide +kernel)
        · intro y hy
          have hy2 : y ∈ l1 ++ x :: l2 := by simpa using hy
          have h9 := hv y hy2
          exact ⟨h9.1.gr hG7, by rw [(a7 y).2.2.2]; exact h9.2⟩
        · rintro q ⟨q1, q2, q3, q4, q5, q6, q7⟩
          exact ⟨q1, q2, q3, by rw [q4]; exact n7, hG7.tr q5, q6, q7⟩
theorem LA.gr {μ μ' : Mem} {n : Nat} (h : LA μ n) (g : Gr μ μ') (e : ∀ i, iv μ' 36 i = iv μ 36 i) : LA μ' n := by
  obtain ⟨l, h1, h2, h3⟩ := h
  refine ⟨l, h1, h2.cong (fun j _ _ => e j), fun x hx => ⟨(h3 x hx).1.gr g, ?_⟩⟩
  rw [(g.2 x (h3 x hx).1.lt).2.2.2]; exact (h3 x hx).2
theorem k_buildTask (a1 : Int32) (V : Nat → Prop) (c : Nat) (hc : 1 ≤ c ∧ c ≤ 31) (μ : Mem) (hI : IM μ) (hH : HI μ) (hW : TW μ) (hh : nv μ 56 + 30 < 100000) (h0 : a1 = 0 → ∀ r, r < nv μ 45 → V r) (h1 : a1 ≠ 0 → LA μ (nv μ 45) ∧ c = 31) :
    ok (p_X12_buildTask a1 μ) (fun q => IM q ∧ HI q ∧ Fr frBT true μ q ∧ nv q 56 ≤ nv μ 56 + 30 ∧ ∃ l, l.length = nv μ 43 ∧ GA q V ((c : Int) * 30) l ∧ (a1 = 0 → Ss q l = nv μ 45)) := by
  rw [p_X12_buildTask_eq]
  have e0 : (0 : Int32).toInt = 0 := by decide
  have e1 : (1 : Int32).toInt = 1 := by decide
  have e3 : (3 : Int32).toInt = 3 := by decide
  have em : (-1 : Int32).toInt = -1 := by decide
  obtain ⟨W1, W2, W3⟩ := hW
  have g44 := rgm_0_44 hI
  have n44 := ti_nat (a := μ.1 0 44) (by omega)
  have hn44 : nv μ 44 = (μ.1 0 44).toNatClampNeg := rfl
  have g43 := rgm_0_43 hI
  have n43 := ti_nat (a := μ.1 0 43) (by omega)
  have hn43 : nv μ 43 = (μ.1 0 43).toNatClampNeg := rfl
  have g45 := rgm_0_45 hI
  have n45 := ti_nat (a := μ.1 0 45) (by omega)
  have hn45 : nv μ 45 = (μ.1 0 45).toNatClampNeg := rfl
  refine ok_bv (fun v1 ev1 => ok_bv (fun μ1 em1 => ok_bv (fun v2 ev2 => ?_)))
  have hI1 : IM μ1 := by rw [em1]; exact IM_F hI (rpm_0_58 (by rw [e0]; omega))
  have hF1 : Fr [(0, 0, 58)] true μ μ1 := by rw [em1]; exact Fr.put Fr.rf (by decide +kernel)
  have loop : ∀ (m : Nat) (a2 a3 : Int32) (p : Nat) (l : List Nat) (μ2 : Mem), IM μ2 → a3.toInt = (p : Int) - 1 → a2.toInt = (c3 (iv μ 25) p : Int) → p ≤ nv μ 44 → p < m → Fr frBT true μ μ2 → Gr μ μ2 → nv μ2 56 + p ≤ nv μ 56 + nv μ 44 → BS μ2 (bp (iv μ 25)) c (nv μ 44) V p l → (a1 = 0 → Ss μ2 l + c3 (iv μ 25) p = c3 (iv μ 25) (nv μ 44)) → ok (p_X12_buildTask_b17 m a1 a2 a3 μ2) (fun q => IM q ∧ HI q ∧ Fr frBT true μ q ∧ nv q 56 ≤ nv μ 56 + 30 ∧ ∃ l, l.length = nv μ 43 ∧ GA q V ((c : Int) * 30) l ∧ (a1 = 0 → Ss q l = nv μ 45)) := by
    intro m
    induction m with
    | zero => intro a2 a3 p l μ2 _ _ _ _ h; omega
    | succ m ih =>
      intro a2 a3 p l μ2 hI2 ha ha2 hp hm hF2 hG2 hh2 hS hSs
      rw [p_X12_buildTask_b17_s]
      have x25 : ∀ i, iv μ2 25 i = iv μ 25 i := fun i => congrArg Int32.toInt (hF2.1 25 i (by simp [frBT, frBN, frB, frN, hit]))
      have x36 : ∀ i, iv μ2 36 i = iv μ 36 i := fun i => congrArg Int32.toInt (hF2.1 36 i (by simp [frBT, frBN, frB, frN, hit]))
      refine ok_ite (fun hlt => ?_) (fun hlt => ?_)
      · rw [ti_lt] at hlt
        have : p = 0 := by omega
        subst this
        have hlen := hS.2.2.2.len W1
        have h47 : nv μ2 43 = nv μ 43 := by unfold nv; rw [hF2.1 0 43 (by decide +kernel)]
        refine ok_mono (k_buildTask_b84 μ V ((c : Int) * 30) (nv μ 43) (by omega) FUEL 0 [] l μ2 hI2 hS.1 h47 e0 (by simp [hlen]) (by show _ ≤ 10000000000 + _; omega) trivial hS.2.1 (fun x hx => ⟨hS.2.2.1 x (by simpa using hx), ?_⟩) hF2) ?_
        · refine Int.le_trans (hS.2.2.2.wt x (by simpa using hx)) (Int.mul_le_mul_of_nonneg_left (by omega) (by omega))
        · rintro q ⟨q1, q2, q3, q4, q5, q6, q7⟩
          refine ⟨q1, q2, q3, by omega, l, by simpa using q6, by simpa using q7, fun h => ?_⟩
          have h9 := hSs h
          rw [Ss.gr hS.1 q5 (fun x hx => (hS.2.2.1 x hx).lt)]
          show Ss μ2 l = _
          have : c3 (iv μ 25) 0 = 0 := rfl
          omega
      · rw [ti_lt] at hlt
        obtain ⟨p, rfl⟩ : ∃ p', p = p' + 1 := ⟨p - 1, by omega⟩
        have ea : a3.toNatClampNeg = p := tn_of (by omega)
        have hb : inb a3 30 = true := inb_iff.mpr (by omega)
        have hs := W2 p (by omega)
        rw [ea]
        have hsv : (μ2.1 25 p).toInt = iv μ 25 p := x25 p
        have hc3 : c3 (iv μ 25) (p + 1) = c3 (iv μ 25) p + (if iv μ 25 p = 3 then 1 else 0) := rfl
        have hlt : ∀ x, x ∈ l → x < nv μ2 56 := fun x hx => (hS.2.2.1 x hx).lt
        -- one step on
        have next : ∀ (a2' : Int32) (l2 : List Nat) (μ9 : Mem), IM μ9 → a2'.toInt = (c3 (iv μ 25) p : Int) → Fr frBN true μ2 μ9 → Gr μ2 μ9 → nv μ9 56 ≤ nv μ2 56 + 1 → BS μ9 (bp (iv μ 25)) c (nv μ 44) V p l2 → (a1 = 0 → Ss μ9 l2 + c3 (iv μ 25) p = c3 (iv μ 25) (nv μ 44)) → ok (p_X12_buildTask_b76 (p_X12_buildTask_b17 m) a1 a2' a3 μ9) (fun q => IM q ∧ HI q ∧ Fr frBT true μ q ∧ nv q 56 ≤ nv μ 56 + 30 ∧ ∃ l, l.length = nv μ 43 ∧ GA q V ((c : Int) * 30) l ∧ (a1 = 0 → Ss q l = nv μ 45)) := by
          intro a2' l2 μ9 hI9 h9 hF9 hG9 n9 hS9 hSs9
          rw [p_X12_buildTask_b76_eq]
          refine ok_bv (fun v11 ev11 => ih a2' v11 p l2 μ9 hI9 ?_ h9 (by omega) (by omega) (hF2.trans (Fr.mono hF9 (by decide +kernel) (fun h => h))) (hG2.tr hG9) (by omega) hS9 hSs9)
          rw [ev11]; exact nat_sub1 (by omega)
        have hlen := hS.2.1.len hI2
        have hle := hS.2.2.2.le
        -- a node that is there is built
        have b73 : ∀ (a2' r : Int32) (x : Nat) (μ9 : Mem), IM μ9 → HI μ9 → a2'.toInt = (c3 (iv μ 25) p : Int) → r.toInt = (x : Int) → Fr frN true μ2 μ9 → Gr μ2 μ9 → nv μ9 56 ≤ nv μ2 56 + 1 → Vl μ9 V x → iv μ9 33 x ≤ (c : Int) → bp (iv μ 25) p = 0 → (a1 = 0 → St μ9 x + Ss μ2 l + c3 (iv μ 25) p = c3 (iv μ 25) (nv μ 44)) → ok (p_X12_buildTask_b73 (p_X12_buildTask_b17 m) a1 a2' a3 r μ9) (fun q => IM q ∧ HI q ∧ Fr frBT true μ q ∧ nv q 56 ≤ nv μ 56 + 30 ∧ ∃ l, l.length = nv μ 43 ∧ GA q V ((c : Int) * 30) l ∧ (a1 = 0 → Ss q l = nv μ 45)) := by
          intro a2' r x μ9 hI9 hH9 h9 hr hF9 hG9 n9 hv hw hbe hst
          rw [p_X12_buildTask_b73_eq]
          have hB9 : Bu μ9 l := hS.2.1.fr hF9 (by decide +kernel) (fun k => by simp [frN, hit])
          have hxl := hv.lt
          refine ok_bw (t_build hI9 hB9 hr (by omega) (by omega)) ?_
          rintro μ10 ⟨hI10, hF10, hB10⟩
          obtain ⟨n10, a10⟩ := hF10.heq (by decide +kernel)
          have hG10 := hF10.gr (by decide +kernel)
          refine next a2' (x :: l) μ10 hI10 h9 ((Fr.mono hF9 (by decide +kernel) (fun h => h)).trans (Fr.mono hF10 (by decide +kernel) (fun h => h))) (hG9.tr hG10) (by omega) (bs_leaf hS hbe (hG9.tr hG10) (hH9.fr hF10 (by decide +kernel)) hB10 (hv.gr hG10) (by rw [(a10 x).2.2.2]; exact hw)) (fun h => ?_)
          show St μ10 x + Ss μ10 l + _ = _
          rw [St.gr hH9 hG10 (x + 1) x (Nat.lt_succ_self _) hxl, Ss.gr hS.1 (hG9.tr hG10) hlt]
          exact hst h
        refine ok_gd hb (ok_ite (fun h3 => ok_bv (fun v11 ev11 => ?_)) (fun h3 => ok_gd hb (ok_gd hb ?_)))
        · have e3p : iv μ 25 p = 3 := by rw [← hsv, h3]; exact e3
          have hbe : bp (iv μ 25) p = 0 := by unfold bp; rw [if_neg (by omega)]
          rw [if_pos e3p] at hc3
          have hcl := c3_le (iv μ 25) p
          have t11 : v11.toInt = (c3 (iv μ 25) p : Int) := by rw [ev11, ti_add (by omega) (by omega), em]; omega
          have hm3 : ∀ (n q : Nat), n ≤ q → c3 (iv μ 25) n ≤ c3 (iv μ 25) q := by
            intro n q h
            induction q with
            | zero => have : n = 0 := by omega
                      subst this; exact Nat.le_refl _
            | succ q ih =>
              by_cases e : n = q + 1
              · rw [e]; exact Nat.le_refl _
              · refine Nat.le_trans (ih (by omega)) ?_
                show _ ≤ c3 (iv μ 25) q + _
                omega
          have hlt3 : c3 (iv μ 25) p < nv μ 45 := by
            have := hm3 (p + 1) (nv μ 44) hp
            omega
          refine ok_ite (fun h0a => ?_) (fun h0a => ?_)
          · refine ok_bd (t_node hI2 hS.1 (s := 3) (b := v11) (by decide) (by omega)) ?_
            rintro r μ9 ⟨hr, hI9, hF9, hH9, hG9, n9, s9, b9, w9⟩
            have s9 : iv μ9 30 (nv μ2 56) = 3 := by have h := s9; rw [e3] at h; exact h
            have n9 : nv μ9 56 = nv μ2 56 + 1 := n9
            have w9 : iv μ9 33 (nv μ2 56) = 1 := w9
            have b9 : iv μ9 31 (nv μ2 56) = v11.toInt := b9
            refine b73 v11 r (nv μ2 56) μ9 hI9 hH9 t11 hr hF9 hG9 (by omega) (Vl.leaf (by omega) (by omega) (fun _ => ?_)) (by omega) hbe (fun h => ?_)
            · rw [b9, t11]
              exact ⟨by omega, h0 h0a _ (by show (c3 (iv μ 25) p) < _; exact hlt3)⟩
            · rw [St.leaf (by omega), if_pos s9]
              have := hSs h
              omega
          · obtain ⟨hla, hc31⟩ := h1 h0a
            have hla2 := hla.gr hG2 x36
            obtain ⟨la, l1, l2, l3⟩ := hla2
            obtain ⟨x, hx, hxe⟩ := l2.get (c3 (iv μ 25) p) (by omega)
            rw [Nat.zero_add] at hxe
            have e11 : v11.toNatClampNeg = c3 (iv μ 25) p := tn_of t11
            have h8 := l3 x hx
            rw [e11]
            refine ok_gd (inb_iff.mpr (by omega)) (b73 v11 _ x μ2 hI2 hS.1 t11 hxe Fr.rf Gr.rf (by omega) (h8.1.mono (fun u h => h.elim)) (by omega) hbe (fun h => absurd h h0a))
        · have h3p : iv μ 25 p ≠ 3 := fun h => h3 (ti_eq.mpr (by rw [hsv, e3]; exact h))
          rw [if_neg h3p] at hc3
          have ha2' : a2.toInt = (c3 (iv μ 25) p : Int) := by omega
          by_cases e : iv μ 25 p = 2
          · obtain ⟨K, ee, z, k1, k2, k3, k4⟩ := sh_ahead W1 (p := p) (by omega)
            have hbe : bp (iv μ 25) p = 2 := by unfold bp; rw [if_pos e]
            have hK : K = 2 := by omega
            subst hK
            obtain ⟨x, y, l2, m1, m2, rfl, s1, s2, wx, wy, hl2, hm2⟩ := hS.2.2.2.two k2 k3
            have hwx := hS.2.2.2.wt x (by simp)
            have hwy := hS.2.2.2.wt y (by simp)
            have hcn : (c : Int) * (nv μ 44 : Int) ≤ 930 := by
              refine Int.le_trans (Int.mul_le_mul (c := 31) (d := 30) (by omega) (by omega) (by omega) (by omega)) (by omega)
            refine ok_bw (t_buildOne_p hI2 hS.1 hS.2.1 (by rw [hsv]; exact e) (by omega) (hS.2.2.1 x (by simp)).lt (hS.2.2.1 y (by simp)).lt (by omega)) ?_
            rintro μ9 ⟨q1, q2, q3, q4, q5, q6, q7, q8, q9, q10⟩
            refine next a2 _ μ9 q1 ha2' q2 q4 (by omega) (bs_pair hc.1 hbe s1 s2 wx wy hl2 hS.2.2.1 q4 q3 q5 q6 q7 q8 q9 q10) (fun h => ?_)
            show St μ9 (nv μ2 56) + Ss μ9 l2 + _ = _
            rw [St.pair q3 (by omega) q6 q7 q8, St.gr hS.1 q4 (x + 1) x (Nat.lt_succ_self _) (hlt x (by simp)), St.gr hS.1 q4 (y + 1) y (Nat.lt_succ_self _) (hlt y (by simp)), Ss.gr hS.1 q4 (fun z hz => hlt z (by simp [hz]))]
            have h9 := hSs h
            have h8 : Ss μ2 (x :: y :: l2) = St μ2 x + (St μ2 y + Ss μ2 l2) := rfl
            omega
          · have hbe : bp (iv μ 25) p = 0 := by unfold bp; rw [if_neg e]
            refine ok_bw (t_buildOne_n hI2 hS.1 hS.2.1 (by rw [hsv]; omega) (by omega) (by omega)) ?_
            rintro μ9 ⟨q1, q2, q3, q4, q5, q6, q7, q8, q9⟩
            rw [hsv] at q6
            refine next a2 _ μ9 q1 ha2' q2 q4 (by omega) (bs_leaf hS hbe q4 q3 q9 (Vl.leaf (by omega) (by omega) (fun h => by omega)) (by omega)) (fun h => ?_)
            show St μ9 (nv μ2 56) + Ss μ9 l + _ = _
            rw [St.leaf (by omega), if_neg (by omega), Ss.gr hS.1 q4 hlt]
            have h9 := hSs h
            omega
  refine loop FUEL v1 v2 (nv μ 44) [] μ1 hI1 ?_ ?_ (Nat.le_refl _) (by show _ < 10000000000; omega) (Fr.mono hF1 (by decide +kernel) (fun h => h)) (hF1.gr (by decide +kernel)) ?_ ⟨hH.fr hF1 (by decide +kernel), ⟨by rw [em1, sF_v]; exact e0, trivial⟩, fun x hx => absurd hx (by simp), rfl⟩ (fun _ => by show 0 + _ = _; omega)
  · have : μ1.1 0 44 = μ.1 0 44 := by rw [em1]; rfl
    rw [ev2, this, ti_sub (by omega) (by omega), e1]; omega
  · rw [ev1, W3]; omega
  · rw [(hF1.heq (by decide +kernel)).1]; exact Nat.le_refl _
