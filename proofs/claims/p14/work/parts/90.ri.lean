/-! THE OTHER ITEMS -/
/-- an operand of the item at hand -/
theorem rx_val {μ0 μ : Mem} {w i o : Nat} {c : Int} {V : Nat → Prop} {G : List Rf} {T : Nat} (h : Rx μ0 μ w c i V G T) (hO : Opd μ0 (nv μ0 88) V o) {a : Int32} (ha : a.toInt = (o : Int)) : ok (p_X12_valueOf a μ) (Vz μ) := by
  have hroom := h.room
  obtain ⟨r1, r2, r3, r4, r5, r6, r7, r8, r9, r10, r11, r12, r13, r14, r15, r16, r17, r18⟩ := h
  exact k_valueOf r1 r2 ha (hO.gr r3 (by decide +kernel)) r7 (by omega) r11 (by omega)
theorem rx_if {μ0 μ : Mem} {w i o e : Nat} {c : Int} {V : Nat → Prop} {G : List Rf} {T : Nat} (hI0 : IM μ0) (h : Rx μ0 μ w c i V G T) (hi : i < nv μ0 87) (h6 : iv μ0 46 i = 6) (hO : Opd μ0 (nv μ0 88) V o) (he : iv μ0 49 i = (e : Int)) (hie : i < e ∧ e < nv μ0 87) (hW1 : Rw μ0 w V (i + 1)) (hW2 : Rw μ0 w V (e + 1)) {a1 a2 : Int32} (ha : a1.toInt = (i : Int)) (ha2 : a2.toInt = (o : Int)) : ok (bd (p_X12_valueOf a2 μ) (fun r5 μ4 => bd (p_X12_num r5 μ4) (fun r7 μ6 => gd (inb r7 100000) (gd (inb r7 100000) ((if (s_X12_isTrue (μ6.1 30 r7.toNatClampNeg) (μ6.1 31 r7.toNatClampNeg)) = 0 then gd (inb a1 960) (some (((μ6.1 49 i) + 1), μ6)) else some ((a1 + 1), μ6))))))) (Ry μ0 T) := by
  have e1 : (1 : Int32).toInt = 1 := by decide
  have hroom := h.room
  have hx := h
  obtain ⟨r1, r2, r3, r4, r5, r6, r7, r8, r9, r10, r11, r12, r13, r14, r15, r16, r17, r18⟩ := h
  have g87 := rgm_0_87 hI0
  have m87 := ti_nat (a := μ0.1 0 87) (by omega)
  have en87 : nv μ0 87 = (μ0.1 0 87).toNatClampNeg := rfl
  have b1 : inb a1 960 = true := inb_iff.mpr (by omega)
  have hcn : cn (iv μ0 46 i) = 1 := by rw [h6]; rfl
  refine ok_bd (rx_val hx hO ha2) ?_
  rintro r5' μ4 ⟨x, x1, x2, x3, x4, x5, x6, x7⟩
  have x1 : r5'.toInt = (x : Int) := x1
  have x2 : IM μ4 := x2
  have x3 : HI μ4 := x3
  have x4 : Gr μ μ4 := x4
  have x5 : Fr frN true μ μ4 := x5
  have x6 : nv μ4 56 ≤ nv μ 56 + 1 := x6
  have x7 : Gz μ4 x := x7
  refine ok_bd (t_num x2 x3 x1 x7.1.lt) ?_
  rintro r7' μ6 ⟨k, k1, k2, k3⟩
  have k2 : μ4 = μ6 := k2.symm
  subst k2
  have k1 : r7'.toInt = (k : Int) := k1
  have lk := k3.2.1
  have b7 : inb r7' 100000 = true := inb_iff.mpr (by omega)
  have st : ∀ (j : Nat) (r : Int32), r.toInt = (j : Int) → i < j → j ≤ nv μ0 87 → Rw μ0 w V j → Ry μ0 T (r, μ4) := fun j r hr h1 h2 hW => rx_step hI0 hx hi h1 h2 x2 x3 x4 (Fr.mono x5 (by decide +kernel) (fun h => h)) (by rw [x5.v (by decide +kernel)]; exact r4) (r11.fr x5 x4 (by decide +kernel)) hW (fun k _ => x5.a (by decide +kernel) k) (by omega) (by rw [x5.v (by decide +kernel)]; omega) hr
  have h49 : (μ4.1 49 i).toInt = (e : Int) := by
    have h1 := x5.a (c := 49) (by decide +kernel) i
    have h2 := r3.a (c := 49) (by decide +kernel) i
    show iv μ4 49 i = _
    rw [h1, h2, he]
  exact ok_gd b7 (ok_gd b7 (ok_ite (fun _ => ok_gd b1 (ok_some (st (e + 1) _ (by rw [ti_add (by omega) (by omega), e1, h49]; omega) (by omega) (by omega) hW2))) (fun _ => ok_some (st (i + 1) _ (by rw [ti_add (by omega) (by omega), e1, ha]; omega) (by omega) (by omega) hW1))))
theorem rx_out {μ0 μ : Mem} {w i o : Nat} {c : Int} {V : Nat → Prop} {G : List Rf} {T : Nat} (hI0 : IM μ0) (h : Rx μ0 μ w c i V G T) (hi : i < nv μ0 87) (h7 : iv μ0 46 i = 7) (hO : Opd μ0 (nv μ0 88) V o) (hW1 : Rw μ0 w (Vp μ0 V i) (i + 1)) {a1 a2 : Int32} (ha : a1.toInt = (i : Int)) (ha2 : a2.toInt = (o : Int)) : ok (bd (p_X12_valueOf a2 μ) (fun r11 μ10 => bd (p_X12_num r11 μ10) (fun r13 μ12 => bw (p_X12_show r13 μ12) (fun μ14 => some ((a1 + 1), μ14))))) (Ry μ0 T) := by
  have e1 : (1 : Int32).toInt = 1 := by decide
  have hroom := h.room
  have hx := h
  obtain ⟨r1, r2, r3, r4, r5, r6, r7, r8, r9, r10, r11, r12, r13, r14, r15, r16, r17, r18⟩ := h
  have g87 := rgm_0_87 hI0
  have m87 := ti_nat (a := μ0.1 0 87) (by omega)
  have en87 : nv μ0 87 = (μ0.1 0 87).toNatClampNeg := rfl
  have hcn : cn (iv μ0 46 i) = 3 := by rw [h7]; rfl
  refine ok_bd (rx_val hx hO ha2) ?_
  rintro r5' μ4 ⟨x, x1, x2, x3, x4, x5, x6, x7⟩
  have x1 : r5'.toInt = (x : Int) := x1
  have x2 : IM μ4 := x2
  have x3 : HI μ4 := x3
  have x4 : Gr μ μ4 := x4
  have x5 : Fr frN true μ μ4 := x5
  have x6 : nv μ4 56 ≤ nv μ 56 + 1 := x6
  have x7 : Gz μ4 x := x7
  refine ok_bd (t_num x2 x3 x1 x7.1.lt) ?_
  rintro r7' μ6 ⟨k, k1, k2, k3⟩
  have k2 : μ4 = μ6 := k2.symm
  subst k2
  have k1 : r7'.toInt = (k : Int) := k1
  have lk := k3.2.1
  have z73 : μ4.1 0 73 = μ.1 0 73 := x5.v (by decide +kernel)
  refine ok_bw (ok_pk (k_X12_show r7' μ4 x2 ⟨by omega, by omega, by rw [z73]; exact r17⟩) (q_show r7' μ4)) ?_
  rintro μ14 ⟨⟨s1, s2⟩, s3⟩
  have s2 : Fr [(0, 0, 73), (1, 43, 0), (1, 44, 0)] true μ4 μ14 := s2
  have s3 : μ14.1 0 73 = μ4.1 0 73 + 1 := s3
  have t73 : (μ14.1 0 73).toInt = (μ.1 0 73).toInt + 1 := by rw [s3, z73, ti_add (by omega) (by omega), e1]
  have e56 : nv μ14 56 = nv μ4 56 := (s2.heq (by decide +kernel)).1
  have G14 := s2.gr (by decide +kernel)
  refine ok_some (rx_step hI0 hx hi (j := i + 1) (V2 := Vp μ0 V i) (by omega) (by omega) s1 (x3.fr s2 (by decide +kernel)) (x4.tr G14) ((Fr.mono x5 (by decide +kernel) (fun h => h)).trans (Fr.mono s2 (by decide +kernel) (fun h => h))) (by rw [s2.v (by decide +kernel), x5.v (by decide +kernel)]; exact r4) (fun u hu => ((r11.fr x5 x4 (by decide +kernel)).fr s2 G14 (by decide +kernel)) u ?_) hW1 (fun k _ => by rw [s2.a (by decide +kernel), x5.a (by decide +kernel)]) (by omega) (by omega) (by rw [ti_add (by omega) (by omega), e1, ha]; omega))
  rcases hu with hu | ⟨hu, _⟩
  · exact hu
  · exact absurd h7 hu
theorem rx_none {μ0 μ : Mem} {w i : Nat} {c : Int} {V : Nat → Prop} {G : List Rf} {T : Nat} (h : Rx μ0 μ w c i V G T) (a1 : Int32) : ok (bv (sF μ 0 68 4) (fun μ35 => some (a1, μ35))) (Ry μ0 T) := by
  obtain ⟨r1, r2, r3, r4, r5, r6, r7, r8, r9, r10, r11, r12, r13, r14, r15, r16, r17, r18⟩ := h
  refine ok_bv (fun q em => ok_some ?_)
  have f : Fr [(0, 0, 68)] true μ q := by rw [em]; exact Fr.put Fr.rf (by decide +kernel)
  have z73 : q.1 0 73 = μ.1 0 73 := f.v (by decide +kernel)
  refine ⟨by show IM q; rw [em]; exact IM_F r1 (rtm_0_68 _), r3.trans (Fr.mono f (by decide +kernel) (fun h => h)), ?_, ?_, Or.inl ?_⟩
  · show 0 ≤ (q.1 0 73).toInt
    rw [z73]; exact r17
  · show (q.1 0 73).toInt ≤ _
    rw [z73]; omega
  · show q.1 0 68 ≠ 0
    rw [em, sF_v]; decide
