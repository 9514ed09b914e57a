/-! ITEMS, AS LETTERS -/
def Ip (μ : Mem) (OB i : Nat) : Prop := ∃ o : Nat, iv μ 51 i = (o : Int) ∧ 0 ≤ iv μ 46 i ∧ iv μ 46 i ≤ 14 ∧ (iv μ 46 i ≠ 9 → iv μ 46 i ≠ 11 → iv μ 46 i ≠ 12 → o < OB) ∧ (iv μ 46 i = 0 → o + 1 < OB) ∧ ((iv μ 46 i = 10 ∨ iv μ 46 i = 11) → 0 ≤ iv μ 52 i ∧ iv μ 52 i ≤ 8 ∧ ∀ k : Nat, (k : Int) < iv μ 52 i → o + k < OB)
theorem Pl.ip {μ : Mem} {OB NV : Nat} {V : Nat → Prop} {i : Nat} (h : Pl μ OB NV V i) : Ip μ OB i := by
  obtain ⟨p1, p2, p3, o, p4, p5⟩ := h
  refine ⟨o, p4, ?_⟩
  rcases p5 with ⟨k7, hO⟩ | k12 | ⟨k9, _⟩ | ⟨k8, _, _, hO⟩ | ⟨k1, k5, hO⟩ | ⟨k0, hO, hO2, h52⟩ | ⟨k11, v, q1, q2, q3, q4⟩
  · have := hO.1
    exact ⟨by omega, by omega, fun _ _ _ => this, fun h => by omega, fun h => by omega⟩
  · exact ⟨by omega, by omega, fun _ _ h => absurd k12 h, fun h => by omega, fun h => by omega⟩
  · exact ⟨by omega, by omega, fun h _ _ => absurd k9 h, fun h => by omega, fun h => by omega⟩
  · have := hO.1
    exact ⟨by omega, by omega, fun _ _ _ => this, fun h => by omega, fun h => by omega⟩
  · have := hO.1
    exact ⟨by omega, by omega, fun _ _ _ => this, fun h => by omega, fun h => by omega⟩
  · have := hO.1
    have h2 := hO2.1
    refine ⟨by omega, by omega, fun _ _ _ => this, fun h => h2, fun h => ⟨p2, p3, fun k hk => ?_⟩⟩
    rw [h52] at hk; omega
  · exact ⟨by omega, by omega, fun _ h _ => absurd k11 h, fun h => by omega, fun h => ⟨p2, p3, fun k hk => (q4 k hk).1⟩⟩
theorem Mk.ip {μ : Mem} {OB p : Nat} {V : Nat → Prop} {k : Int} {i : Nat} (h : Mk μ OB V k p i) (hk : k = 13 ∨ k = 14) : Ip μ OB i := by
  obtain ⟨h1, h2, o, h3, h4⟩ := h
  have := h4.1
  exact ⟨o, h3, by omega, by omega, fun _ _ _ => this, fun h => by omega, fun h => by omega⟩
theorem Ifx.ip {μ : Mem} {OB : Nat} {V : Nat → Prop} {i : Nat} (h : Ifx μ OB V i) : Ip μ OB i := by
  obtain ⟨h1, o, h3, h4⟩ := h
  have := h4.1
  exact ⟨o, h3, by omega, by omega, fun _ _ _ => this, fun h => by omega, fun h => by omega⟩
theorem Blo.ip {μ : Mem} {OB NV : Nat} {V0 V : Nat → Prop} {b p : Nat} (h : Blo μ OB NV V0 b V p) : ∀ i, b ≤ i → i < p → Ip μ OB i := by
  refine Blo.ind (M := fun V0 b V p => ∀ i, b ≤ i → i < p → Ip μ OB i) ?_ ?_ ?_ h
  · intro V b i h1 h2; omega
  · intro V0 b V p _ ih hp i h1 h2
    by_cases e : i = p
    · rw [e]; exact hp.ip
    · exact ih i h1 (by omega)
  · intro V0 b V p Va e Vb n _ ih hi hr _ ih2 hx hl _ ih3 hy hn i h1 h2
    by_cases e1 : i < p
    · exact ih i h1 e1
    · by_cases e2 : i = p
      · rw [e2]; exact hi.ip
      · by_cases e3 : i < e
        · exact ih2 i (by omega) e3
        · by_cases e4 : i = e
          · rw [e4]; exact hx.ip (Or.inl rfl)
          · by_cases e5 : i < n
            · exact ih3 i (by omega) e5
            · rw [show i = n by omega]; exact hy.ip (Or.inr rfl)
/-- letters of an item at most -/
def lc (k : Int) : Nat := if k = 13 then 14 else if k = 14 then 14 else if k = 6 then 27 else 132
theorem lc_ad : Ad lc 14 132 := by
  refine ⟨rfl, rfl, by decide, fun k h1 h2 h3 => ?_⟩
  unfold lc
  rw [if_neg h2, if_neg h3, if_neg h1]; omega
theorem k_putList {μs : Mem} {i o m : Nat} {a1 a2 a3 : Int32} (ha : a1.toInt = (i : Int)) (hi : i < 960) (h3 : a3.toInt = (o : Int)) (h52 : iv μs 52 i = (m : Int)) (hm : m ≤ 8) (ho : ∀ k, k < m → o + k < 4200) (hB : nv μs 139 + 131 ≤ 50000) {μ : Mem} {j : Nat} (h : Lt μs j μ) (hj : j ≤ 13) : ok (p_X12_putList a1 a2 a3 μ) (Lt μs (j + 118)) := by
  have e0 : (0 : Int32).toInt = 0 := by decide
  have e1 : (1 : Int32).toInt = 1 := by decide
  have b1 : inb a1 960 = true := inb_iff.mpr (by omega)
  have loop : ∀ (n k j2 : Nat) (a4 : Int32) (q : Mem), a4.toInt = (k : Int) → k ≤ m → m < n + k → Lt μs j2 q → j2 ≤ j + 13 + 13 * k → ok (p_X12_putList_b42 n a1 a2 a3 a4 q) (Lt μs (j + 118)) := by
    intro n
    induction n with
    | zero => intro k j2 a4 q _ h1 h2; omega
    | succ n ih =>
      intro k j2 a4 q h4 hk hn hq hj2
      rw [p_X12_putList_b42_s, tn_of ha]
      have k52 : (q.1 52 i).toInt = (m : Int) := by
        have := hq.2.1.a (c := 52) (by decide +kernel) i
        show iv q 52 i = _
        rw [this, h52]
      have b64 : k < m → ∀ (z : Mem) (j3 : Nat), Lt μs j3 z → j3 ≤ j + 13 + 13 * k + 1 → ok (p_X12_putList_b64 (p_X12_putList_b42 n) a1 a2 a3 a4 z) (Lt μs (j + 118)) := by
        intro hkm z j3 hz hj3
        rw [p_X12_putList_b64_eq]
        have := ho k hkm
        have t34 : (a3 + a4).toInt = ((o + k : Nat) : Int) := by rw [ti_add (by omega) (by omega), h3, h4]; omega
        exact ls_opd hz (by omega) (by omega) (fun y hy => ok_bv (fun v14 e14 => ih (k + 1) (j3 + 12) v14 y (by rw [e14, ti_add (by omega) (by omega), e1, h4]; omega) (by omega) (by omega) hy (by omega)))
      refine ok_gd b1 (ok_ite (fun hle => ok_ite (fun _ => ?_) (fun _ => ?_)) (fun hle => ?_))
      · exact ls_put hq (by omega) (fun z hz => ok_some (hz.mono (by omega)))
      · exact ls_put hq (by omega) (fun z hz => ok_some (hz.mono (by omega)))
      · rw [ti_le] at hle
        exact ok_ite (fun _ => b64 (by omega) q j2 hq (by omega)) (fun _ => ls_put hq (by omega) (fun z hz => b64 (by omega) z (j2 + 1) hz (by omega)))
  have b36 : ∀ (k0 : Int32) (q : Mem) (j2 : Nat), Lt μs j2 q → j2 ≤ j + 12 → ok (p_X12_putList_b36 a1 a2 a3 k0 q) (Lt μs (j + 118)) := by
    intro k0 q j2 hq hj2
    rw [p_X12_putList_b36_eq]
    exact ls_put hq (by omega) (fun z hz => loop FUEL 0 (j2 + 1) 0 z e0 (by omega) (by show m < 10000000000 + 0; omega) hz (by omega))
  have b22 : ∀ (q : Mem) (j2 : Nat), Lt μs j2 q → j2 ≤ j + 12 → ok (p_X12_putList_b22 a1 a2 a3 q) (Lt μs (j + 118)) := by
    intro q j2 hq hj2
    rw [p_X12_putList_b22_eq]
    exact ok_ite (fun _ => b36 91 q j2 hq hj2) (fun _ => b36 40 q j2 hq hj2)
  rw [p_X12_putList_eq]
  refine ok_ite (fun _ => ?_) (fun _ => b22 μ j h (by omega))
  exact ls_put h (by omega) (fun z hz => ok_gd b1 (ls_num hz (by omega) (fun y hy => b22 y (j + 1 + 11) hy (by omega))))
theorem k_putRest {μs : Mem} {i o : Nat} {a1 a2 a3 : Int32} (ha : a1.toInt = (i : Int)) (hi : i < 960) (h2 : a2.toInt = iv μs 46 i) (h3 : a3.toInt = (o : Int)) (hk : iv μs 46 i ≠ 13 ∧ iv μs 46 i ≠ 14 ∧ iv μs 46 i ≠ 6) {OB : Nat} (hp : Ip μs OB i) (ho : iv μs 51 i = (o : Int)) (hOB : OB ≤ 4200) (hB : nv μs 139 + 131 ≤ 50000) {μ : Mem} {j : Nat} (h : Lt μs j μ) (hj : j ≤ 13) : ok (p_X12_putRest a1 a2 a3 μ) (Lt μs (j + 118)) := by
  have e0 : (0 : Int32).toInt = 0 := by decide
  have e1 : (1 : Int32).toInt = 1 := by decide
  have e6 : (6 : Int32).toInt = 6 := by decide
  have e7 : (7 : Int32).toInt = 7 := by decide
  have e8 : (8 : Int32).toInt = 8 := by decide
  have e10 : (10 : Int32).toInt = 10 := by decide
  have e12 : (12 : Int32).toInt = 12 := by decide
  have b1 : inb a1 960 = true := inb_iff.mpr (by omega)
  obtain ⟨o', p1, p2, p3, p4, p5, p6⟩ := hp
  have hoo : o' = o := by omega
  subst hoo
  rw [p_X12_putRest_eq]
  have b105 : ∀ k0 : Int32, 8 ≤ iv μs 46 i → iv μs 46 i < 10 → ok (p_X12_putRest_b105 a1 a2 a3 k0 μ) (Lt μs (j + 118)) := by
    intro k0 l1 l2
    rw [p_X12_putRest_b105_eq]
    refine ls_put h (by omega) (fun q hq => ok_gd b1 (ls_put hq (by omega) (fun z hz => ok_ite (fun h8 => ?_) (fun _ => ok_some (hz.mono (by omega))))))
    rw [ti_eq, e8, h2] at h8
    have := p4 (by omega) (by omega) (by omega)
    exact ls_opd hz (by omega) (by omega) (fun y hy => ok_some (hy.mono (by omega)))
  refine ok_ite (fun h0 => ?_) (fun h0 => ok_ite (fun h6 => ok_ite (fun h7 => ?_) (fun h7 => ok_ite (fun h10 => ok_ite (fun h12 => ?_) (fun h12 => ?_)) (fun h10 => ok_ite (fun h8 => ?_) (fun h8 => ?_)))) (fun h6 => ?_))
  · rw [ti_eq, e0, h2] at h0
    have := p5 h0
    have t3 : (a3 + 1).toInt = ((o' + 1 : Nat) : Int) := by rw [ti_add (by omega) (by omega), e1, h3]; omega
    exact ls_put h (by omega) (fun q hq => ls_opd hq (by omega) (by omega) (fun q hq => ok_gd b1 (ls_put hq (by omega) (fun q hq => ls_opd hq (by omega) (by omega) (fun q hq => ls_put hq (by omega) (fun q hq => ok_some (hq.mono (by omega))))))))
  · rw [ti_eq, e7, h2] at h7
    have := p4 (by omega) (by omega) (by omega)
    exact ls_put h (by omega) (fun q hq => ls_opd hq (by omega) (by omega) (fun q hq => ok_some (hq.mono (by omega))))
  · exact ls_put h (by omega) (fun q hq => ok_some (hq.mono (by omega)))
  · rw [ti_le, e10, h2] at h10
    rw [ti_eq, e12, h2] at h12
    obtain ⟨m1, m2, m3⟩ := p6 (by omega)
    exact ok_bw (k_putList (m := (iv μs 52 i).toNat) ha hi h3 (by omega) (by omega) (fun k hk => by have := m3 k (by omega); omega) hB h hj) (fun q hq => ok_some hq)
  · rw [ti_eq, e8, h2] at h8
    exact b105 38 (by omega) (by omega)
  · rw [ti_eq, e8, h2] at h8
    rw [ti_le, e10, h2] at h10
    rw [ti_eq, e7, h2] at h7
    rw [ti_le, e6, h2] at h6
    exact b105 95 (by omega) (by omega)
  · rw [ti_le, e6, h2] at h6
    have := p4 (by omega) (by omega) (by omega)
    exact ls_put h (by omega) (fun q hq => ls_opd hq (by omega) (by omega) (fun q hq => ok_some (hq.mono (by omega))))
theorem k_putItem {μs : Mem} {i : Nat} {a1 : Int32} (ha : a1.toInt = (i : Int)) (hi : i < 960) (hI : IM μs) {OB : Nat} (hp : Ip μs OB i) (hOB : OB ≤ 4200) (hB : nv μs 139 + 132 ≤ 50000) : ok (p_X12_putItem a1 μs) (Lt μs (lc (iv μs 46 i))) := by
  have e6 : (6 : Int32).toInt = 6 := by decide
  have e7 : (7 : Int32).toInt = 7 := by decide
  have e13 : (13 : Int32).toInt = 13 := by decide
  have e14 : (14 : Int32).toInt = 14 := by decide
  have b1 : inb a1 960 = true := inb_iff.mpr (by omega)
  have hp' := hp
  obtain ⟨o, p1, p2, p3, p4, p5, p6⟩ := hp'
  have h0 := Lt.rf hI
  rw [p_X12_putItem_eq, tn_of ha]
  refine ok_gd b1 (ok_bv (fun v1 ev1 => ok_gd b1 (ok_bv (fun v2 ev2 => ?_))))
  have t1 : v1.toInt = iv μs 46 i := by rw [ev1]; rfl
  have t2 : v2.toInt = (o : Int) := by rw [ev2]; exact p1
  have b26 : (iv μs 46 i = 13 ∨ iv μs 46 i = 14) → ok (p_X12_putItem_b26 v1 v2 μs) (Lt μs (lc (iv μs 46 i))) := by
    intro hk
    have hl : lc (iv μs 46 i) = 14 := by rcases hk with hk | hk <;> rw [hk] <;> rfl
    have := p4 (by omega) (by omega) (by omega)
    rw [hl, p_X12_putItem_b26_eq]
    exact ls_opd h0 (by omega) (by omega) (fun q hq => ls_put hq (by omega) (fun q hq => ok_ite (fun _ => ls_put hq (by omega) (fun q hq => ok_some (hq.mono (by omega)))) (fun _ => ls_put hq (by omega) (fun q hq => ok_some (hq.mono (by omega))))))
  have b78 : ∀ (q : Mem) (j : Nat), Lt μs j q → j ≤ 13 → iv μs 46 i ≠ 13 → iv μs 46 i ≠ 14 → ok (p_X12_putItem_b78 a1 v1 v2 q) (Lt μs (lc (iv μs 46 i))) := by
    intro q j hq hj k13 k14
    rw [p_X12_putItem_b78_eq]
    refine ok_ite (fun h6 => ?_) (fun h6 => ?_)
    · rw [ti_eq, e6, t1] at h6
      have hl : lc (iv μs 46 i) = 27 := by rw [h6]; rfl
      have := p4 (by omega) (by omega) (by omega)
      rw [hl]
      exact ls_put hq (by omega) (fun q hq => ls_opd hq (by omega) (by omega) (fun q hq => ls_put hq (by omega) (fun q hq => ok_some (hq.mono (by omega)))))
    · rw [ti_eq, e6, t1] at h6
      have hl : lc (iv μs 46 i) = 132 := by unfold lc; rw [if_neg k13, if_neg k14, if_neg h6]
      rw [hl]
      exact ok_bw (k_putRest ha hi t1 t2 ⟨k13, k14, h6⟩ hp p1 hOB (by omega) hq hj) (fun z hz => ls_put hz (by omega) (fun y hy => ok_some (hy.mono (by omega))))
  refine ok_ite (fun h13 => ?_) (fun h13 => ok_ite (fun h14 => ?_) (fun h14 => ?_))
  · rw [ti_eq, e13, t1] at h13
    exact b26 (Or.inl h13)
  · rw [ti_eq, e14, t1] at h14
    exact b26 (Or.inr h14)
  · rw [ti_eq, e13, t1] at h13
    rw [ti_eq, e14, t1] at h14
    refine ok_ite (fun _ => b78 μs 0 h0 (by omega) h13 h14) (fun _ => ok_gd b1 ?_)
    exact ls_one h0 (by omega) (fun q hq => ls_put hq (by omega) (fun q hq => b78 q (0 + 12 + 1) hq (by omega) h13 h14))
