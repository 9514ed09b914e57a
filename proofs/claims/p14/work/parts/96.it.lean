/-! AN ITEM, WHOLE -/
theorem ok_imp {α : Type} {o : Option α} {P Q : α → Prop} (hq : ∀ r, P r → Q r) (h : ok o P) : ok o Q := ok_mono h hq
set_option maxHeartbeats 2000000 in
theorem rx_item {μ0 μ : Mem} {w i ks : Nat} {c : Int} {V : Nat → Prop} {G : List Rf} {T : Nat} (hI0 : IM μ0) (hS : SV μ0 ks) (hRB : RB μ0) (h : Rx μ0 μ w c i V G T) (hlt : (i : Int) < iv μ0 63 w) {a1 : Int32} (ha : a1.toInt = (i : Int)) : ok (p_X12_runItem a1 μ) (Ry μ0 T) := by
  have h' := h
  obtain ⟨r1, r2, r3, r4, r5, r6, r7, r8, r9, r10, r11, r12, r13, r14, r15, r16, r17, r18⟩ := h'
  obtain ⟨hw, E, en, e63, e64, hE, hRn⟩ := r10
  have hiE : i < E := by omega
  have g87 := rgm_0_87 hI0
  have m87 := ti_nat (a := μ0.1 0 87) (by omega)
  have en87 : nv μ0 87 = (μ0.1 0 87).toNatClampNeg := rfl
  have hi : i < nv μ0 87 := by omega
  have b1 : inb a1 960 = true := inb_iff.mpr (by omega)
  have g88 := rgm_0_88 hI0
  have m88 := ti_nat (a := μ0.1 0 88) (by omega)
  have en88 : nv μ0 88 = (μ0.1 0 88).toNatClampNeg := rfl
  rw [p_X12_runItem_eq, tn_of ha]
  refine ok_gd b1 (ok_bv (fun v1 ev => ok_gd b1 ?_))
  have h46 : (μ.1 46 i).toInt = iv μ0 46 i := r3.a (by decide +kernel) i
  have h51 : v1.toInt = iv μ0 51 i := by rw [ev]; exact r3.a (by decide +kernel) i
  have kne : ∀ (n : Int32) (m : Int), n.toInt = m → iv μ0 46 i ≠ m → ¬ μ.1 46 i = n := fun n m h1 h2 h3 => h2 (by rw [← h46, h3, h1])
  have keq : ∀ (n : Int32) (m : Int), n.toInt = m → iv μ0 46 i = m → μ.1 46 i = n := fun n m h1 h2 => ti_eq.mpr (by rw [h46, h2, h1])
  have mkW : ∀ (V2 : Nat → Prop) (j : Nat), Rn μ0 (nv μ0 88) (nv μ0 110) E en V2 j → Rw μ0 w V2 j := fun V2 j h => ⟨hw, E, en, e63, e64, hE, h⟩
  rcases hRn.inv with ⟨V1, _, h2, _⟩ | ⟨V1, i1, h1, h2, _, hP, hR⟩ | ⟨V1, i1, e, h1, h2, _, hF, h49, he, hR1, hR2⟩ | ⟨V1, W, i1, p, n, h1, h2, _, hM, h50, h47, hpn, hw2, hR⟩
  · omega
  · subst h1; subst h2
    have hP' := hP
    obtain ⟨p1, p2, p3, o, p4, p5⟩ := hP
    have ho : v1.toInt = (o : Int) := by rw [h51, p4]
    have hW := mkW _ _ hR
    rcases p5 with ⟨k7, hO⟩ | k12 | ⟨k9, _⟩ | ⟨k8, _⟩ | ⟨k1, k5, _⟩ | ⟨k0, _⟩ | ⟨k11, v, q1, q2, q3, q4⟩
    · rw [if_neg (kne 6 6 (by decide) (by omega)), if_pos (keq 7 7 (by decide) k7)]
      exact rx_out hI0 h hi k7 hO hW ha ho
    · rw [if_neg (kne 6 6 (by decide) (by omega)), if_neg (kne 7 7 (by decide) (by omega)), if_neg (kne 8 8 (by decide) (by omega)), if_neg (kne 9 9 (by decide) (by omega)), if_neg (kne 10 10 (by decide) (by omega)), if_neg (kne 11 11 (by decide) (by omega)), if_pos (keq 12 12 (by decide) k12)]
      exact rx_none h a1
    · rw [if_neg (kne 6 6 (by decide) (by omega)), if_neg (kne 7 7 (by decide) (by omega)), if_neg (kne 8 8 (by decide) (by omega)), if_pos (keq 9 9 (by decide) k9)]
      exact rx_store hI0 h hi hP' ⟨by omega, by omega, by omega⟩ (by unfold cn; rw [if_neg (by omega), if_neg (by omega), if_neg (by omega), if_neg (by omega)]) hW ha ho p4
    · rw [if_neg (kne 6 6 (by decide) (by omega)), if_neg (kne 7 7 (by decide) (by omega)), if_pos (keq 8 8 (by decide) k8)]
      exact rx_store hI0 h hi hP' ⟨by omega, by omega, by omega⟩ (by unfold cn; rw [if_neg (by omega), if_neg (by omega), if_neg (by omega), if_neg (by omega)]) hW ha ho p4
    · rw [if_neg (kne 6 6 (by decide) (by omega)), if_neg (kne 7 7 (by decide) (by omega)), if_neg (kne 8 8 (by decide) (by omega)), if_neg (kne 9 9 (by decide) (by omega)), if_neg (kne 10 10 (by decide) (by omega)), if_neg (kne 11 11 (by decide) (by omega)), if_neg (kne 12 12 (by decide) (by omega)), if_neg (kne 13 13 (by decide) (by omega)), if_neg (kne 14 14 (by decide) (by omega))]
      exact rx_store hI0 h hi hP' ⟨by omega, by omega, by omega⟩ (by unfold cn; rw [if_neg (by omega), if_neg (by omega), if_neg (by omega), if_neg (by omega)]) hW ha ho p4
    · rcases k0 with k0 | k0
      · rw [if_neg (kne 6 6 (by decide) (by omega)), if_neg (kne 7 7 (by decide) (by omega)), if_neg (kne 8 8 (by decide) (by omega)), if_neg (kne 9 9 (by decide) (by omega)), if_neg (kne 10 10 (by decide) (by omega)), if_neg (kne 11 11 (by decide) (by omega)), if_neg (kne 12 12 (by decide) (by omega)), if_neg (kne 13 13 (by decide) (by omega)), if_neg (kne 14 14 (by decide) (by omega))]
        exact rx_store hI0 h hi hP' ⟨by omega, by omega, by omega⟩ (by unfold cn; rw [if_neg (by omega), if_neg (by omega), if_neg (by omega), if_neg (by omega)]) hW ha ho p4
      · rw [if_neg (kne 6 6 (by decide) (by omega)), if_neg (kne 7 7 (by decide) (by omega)), if_neg (kne 8 8 (by decide) (by omega)), if_neg (kne 9 9 (by decide) (by omega)), if_pos (keq 10 10 (by decide) k0)]
        exact rx_store hI0 h hi hP' ⟨by omega, by omega, by omega⟩ (by unfold cn; rw [if_neg (by omega), if_neg (by omega), if_neg (by omega), if_neg (by omega)]) hW ha ho p4
    · rw [if_neg (kne 6 6 (by decide) (by omega)), if_neg (kne 7 7 (by decide) (by omega)), if_neg (kne 8 8 (by decide) (by omega)), if_neg (kne 9 9 (by decide) (by omega)), if_neg (kne 10 10 (by decide) (by omega)), if_pos (keq 11 11 (by decide) k11)]
      refine ok_bd (rx_call (o := o) (v := v) (m := (iv μ0 52 i).toNat) hI0 hS hRB h hi k11 p4 (fun h0 => ?_) q1 q2 (by omega) (by omega) (by omega) (fun k hk => q4 k (by omega)) (p1 (by omega)) hW ha) (fun r q h => ok_some h)
      have := (q4 0 (by omega)).1
      omega
  · subst h1; subst h2
    obtain ⟨k6, o, h51', hO⟩ := hF
    rw [if_pos (keq 6 6 (by decide) k6)]
    exact rx_if hI0 h hi k6 hO h49 ⟨he.1, by omega⟩ (mkW _ _ hR1) (mkW _ _ hR2) ha (by rw [h51, h51'])
  · subst h1; subst h2
    rcases hM with ⟨k, h48, o, h51', hO⟩ | ⟨k, h48, o, h51', hO⟩
    · rw [if_neg (kne 6 6 (by decide) (by omega)), if_neg (kne 7 7 (by decide) (by omega)), if_neg (kne 8 8 (by decide) (by omega)), if_neg (kne 9 9 (by decide) (by omega)), if_neg (kne 10 10 (by decide) (by omega)), if_neg (kne 11 11 (by decide) (by omega)), if_neg (kne 12 12 (by decide) (by omega)), if_pos (keq 13 13 (by decide) k)]
      exact rx_mark hI0 h hi (Or.inl k) h48 hO h50 h47.2 ⟨by omega, hpn.2.1, by omega⟩ hw2 (mkW _ _ hR) ha (by rw [h51, h51'])
    · rw [if_neg (kne 6 6 (by decide) (by omega)), if_neg (kne 7 7 (by decide) (by omega)), if_neg (kne 8 8 (by decide) (by omega)), if_neg (kne 9 9 (by decide) (by omega)), if_neg (kne 10 10 (by decide) (by omega)), if_neg (kne 11 11 (by decide) (by omega)), if_neg (kne 12 12 (by decide) (by omega)), if_neg (kne 13 13 (by decide) (by omega)), if_pos (keq 14 14 (by decide) k)]
      exact rx_mark hI0 h hi (Or.inr k) h48 hO h50 h47.2 ⟨by omega, hpn.2.1, by omega⟩ hw2 (mkW _ _ hR) ha (by rw [h51, h51'])
