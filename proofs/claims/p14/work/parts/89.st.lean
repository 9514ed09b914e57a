/-! AN ITEM WHOSE VALUE IS HELD -/
theorem k_hold0 {μ : Mem} (hI : IM μ) {i F r : Nat} {a1 a2 : Int32} (ha : a1.toInt = (i : Int)) (hi : i < 960) (h47 : iv μ 47 i = (r : Int)) (hr : r < 320) (hF : (μ.1 0 126).toInt = (F : Int)) (hF2 : F ≤ 9600) (ha2 : 0 ≤ a2.toInt ∧ a2.toInt < 100000) : ok (p_X12_hold a1 a2 μ) (fun q => IM q ∧ Fr [(1, 76, 0)] true μ q) := by
  have n1 : a1.toNatClampNeg = i := tn_of ha
  have b1 : inb a1 960 = true := inb_iff.mpr (by omega)
  have h47' : (μ.1 47 i).toInt = (r : Int) := h47
  have tt : (μ.1 0 126 + μ.1 47 i).toInt = ((F + r : Nat) : Int) := by rw [ti_add (by omega) (by omega), hF, h47']; omega
  rw [p_X12_hold_eq, n1, tn_of tt]
  refine ok_gd b1 (ok_gd (inb_iff.mpr (by omega)) (ok_bv (fun μ1 em => ok_some ⟨?_, ?_⟩)))
  · rw [em]; exact IM_F hI (rpm_76 (by omega))
  · rw [em]; exact Fr.puta Fr.rf (by decide +kernel)
theorem Pl.fr {F : List (Nat × Nat × Nat)} {bb : Bool} {μ μ' : Mem} {V : Nat → Prop} {p : Nat} (h : Pl μ (nv μ 88) (nv μ 110) V p) (f : Fr F bb μ μ') (n : (na F 46 && na F 47 && na F 48 && na F 49 && na F 50 && na F 51 && na F 52 && na F 53 && na F 54 && na F 59 && nf F 88 && nf F 110) = true) : Pl μ' (nv μ' 88) (nv μ' 110) V p := by
  simp only [Bool.and_eq_true] at n
  obtain ⟨⟨⟨⟨⟨⟨⟨⟨⟨⟨⟨n46, n47⟩, n48⟩, n49⟩, n50⟩, n51⟩, n52⟩, n53⟩, n54⟩, n59⟩, n88⟩, n110⟩ := n
  exact h.cong ⟨f.a n46 p, f.a n47 p, f.a n48 p, f.a n49 p, f.a n50 p, f.a n51 p, f.a n52 p⟩ ⟨by rw [f.n n88]; exact Nat.le_refl _, by rw [f.n n110]; exact Nat.le_refl _, fun o _ => ⟨f.a n53 o, f.a n54 o⟩, fun v _ => f.a n59 v⟩
theorem rx_store {μ0 μ : Mem} {w i o : Nat} {c : Int} {V : Nat → Prop} {G : List Rf} {T : Nat} (hI0 : IM μ0) (h : Rx μ0 μ w c i V G T) (hi : i < nv μ0 87) (hP : Pl μ0 (nv μ0 88) (nv μ0 110) V i) (hk : iv μ0 46 i ≠ 7 ∧ iv μ0 46 i ≠ 11 ∧ iv μ0 46 i ≠ 12) (hc3 : cn (iv μ0 46 i) = 3) (hW : Rw μ0 w (Vp μ0 V i) (i + 1)) {a1 a2 : Int32} (ha : a1.toInt = (i : Int)) (ha2 : a2.toInt = (o : Int)) (ho : iv μ0 51 i = (o : Int)) : ok (bd (p_X12_itemValue a1 a2 μ) (fun r47 μ46 => bw (p_X12_hold a1 r47 μ46) (fun μ48 => some ((a1 + 1), μ48)))) (Ry μ0 T) := by
  have e1 : (1 : Int32).toInt = 1 := by decide
  have hroom := h.room
  have hx := h
  obtain ⟨r1, r2, r3, r4, r5, r6, r7, r8, r9, r10, r11, r12, r13, r14, r15, r16, r17, r18⟩ := h
  have g87 := rgm_0_87 hI0
  have m87 := ti_nat (a := μ0.1 0 87) (by omega)
  have en87 : nv μ0 87 = (μ0.1 0 87).toNatClampNeg := rfl
  have k46 : iv μ 46 i = iv μ0 46 i := r3.a (by decide +kernel) i
  have h7 := hP.1 hk.1
  refine ok_bd (k_itemValue r1 r2 ha (by omega) ha2 (by rw [r3.a (by decide +kernel)]; exact ho) (hP.fr r3 (by decide +kernel)) (by rw [k46]; exact hk) r7 (by omega) r11 (by omega)) ?_
  rintro r47 μ46 ⟨x, x1, x2, x3, x4, x5, x6, x7, x8⟩
  have x1 : r47.toInt = (x : Int) := x1
  have x2 : IM μ46 := x2
  have x3 : HI μ46 := x3
  have x4 : Gr μ μ46 := x4
  have x5 : Fr frIV true μ μ46 := x5
  have x6 : nv μ46 56 ≤ nv μ 56 + 3 := x6
  have x7 : x < nv μ46 56 := x7
  have x8 : μ46.1 0 68 ≠ 0 ∨ (μ46.1 0 68 = μ.1 0 68 ∧ Gz μ46 x) := x8
  have k47 : iv μ46 47 i = ((iv μ0 47 i).toNat : Int) := by rw [x5.a (by decide +kernel), r3.a (by decide +kernel)]; omega
  have h126 : (μ46.1 0 126).toInt = ((320 * G.length : Nat) : Int) := by rw [x5.v (by decide +kernel)]; exact r7
  have z73 : μ46.1 0 73 = μ.1 0 73 := x5.v (by decide +kernel)
  have f46 : Fr frIS true μ μ46 := Fr.mono x5 (by decide +kernel) (fun h => h)
  rcases x8 with x8 | ⟨x8, x9⟩
  · refine ok_bw (k_hold0 x2 ha (by omega) k47 (by omega) h126 (by omega) (by omega)) ?_
    rintro q ⟨q1, q2⟩
    refine ok_some ⟨q1, (r3.trans (Fr.mono f46 (by decide +kernel) (fun h => h))).trans (Fr.mono q2 (by decide +kernel) (fun h => h)), ?_, ?_, Or.inl ?_⟩
    · show 0 ≤ (q.1 0 73).toInt
      rw [q2.v (by decide +kernel), z73]; exact r17
    · show (q.1 0 73).toInt ≤ _
      rw [q2.v (by decide +kernel), z73]; omega
    · show q.1 0 68 ≠ 0
      rw [q2.v (by decide +kernel)]; exact x8
  · refine ok_bw (k_hold x2 x3 ha (by omega) k47 (by omega) h126 (by omega) x1 x9 (r11.fr x5 x4 (by decide +kernel))) ?_
    rintro q ⟨q1, q2, q3, q4, q5, q6⟩
    have e56 : nv q 56 = nv μ46 56 := (q4.heq (by decide +kernel)).1
    have h76 : ∀ k, iv μ46 76 k = iv μ 76 k := fun k => x5.a (by decide +kernel) k
    refine ok_some (rx_step hI0 hx hi (j := i + 1) (V2 := Vp μ0 V i) (by omega) (by omega) q1 q2 (x4.tr q3) (f46.trans (Fr.mono q4 (by decide +kernel) (fun h => h))) (by rw [q4.v (by decide +kernel), x8]; exact r4) (fun u hu => q5 u ?_) hW (fun k hk => by rw [q6 k hk, h76]) (by omega) (by rw [q4.v (by decide +kernel), z73]; omega) (by rw [ti_add (by omega) (by omega), e1, ha]; omega))
    rcases hu with hu | ⟨_, hu⟩
    · exact Or.inl hu
    · exact Or.inr (by omega)
