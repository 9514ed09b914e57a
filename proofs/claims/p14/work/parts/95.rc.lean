/-! A CALL, WHOLE -/
set_option maxHeartbeats 2000000 in
theorem rx_call {μ0 μ : Mem} {w i o v m ks : Nat} {c : Int} {V : Nat → Prop} {G : List Rf} {T : Nat} (hI0 : IM μ0) (hS : SV μ0 ks) (hRB : RB μ0) (h : Rx μ0 μ w c i V G T) (hi : i < nv μ0 87) (h11 : iv μ0 46 i = 11) (ho : iv μ0 51 i = (o : Int)) (ho2 : 0 < m → o ≤ 4200) (hv : iv μ0 48 i = (v : Int)) (hv2 : v < nv μ0 110) (h52 : iv μ0 52 i = (m : Int)) (hm : m ≤ 8) (h59 : iv μ0 59 v = (m : Int)) (hOp : ∀ k, k < m → Opd μ0 (nv μ0 88) V (o + k)) (h47 : 0 ≤ iv μ0 47 i ∧ iv μ0 47 i < 320) (hW : Rw μ0 w (Vp μ0 V i) (i + 1)) {a1 : Int32} (ha : a1.toInt = (i : Int)) : ok (p_X12_runCall a1 μ) (Ry μ0 T) := by
  have e0 : (0 : Int32).toInt = 0 := by decide
  have e1 : (1 : Int32).toInt = 1 := by decide
  have e320 : (320 : Int32).toInt = 320 := by decide
  have hroom := h.room
  obtain ⟨r1, r2, r3, r4, r5, r6, r7, r8, r9, r10, r11, r12, r13, r14, r15, r16, r17, r18⟩ := h
  have g87 := rgm_0_87 hI0
  have m87 := ti_nat (a := μ0.1 0 87) (by omega)
  have en87 : nv μ0 87 = (μ0.1 0 87).toNatClampNeg := rfl
  have g110 := rgm_0_110 hI0
  have m110 := ti_nat (a := μ0.1 0 110) (by omega)
  have en110 : nv μ0 110 = (μ0.1 0 110).toNatClampNeg := rfl
  have m75 := ti_nat (a := μ.1 0 75) (by omega)
  have en75 : nv μ 75 = (μ.1 0 75).toNatClampNeg := rfl
  have n1 : a1.toNatClampNeg = i := tn_of ha
  have b1 : inb a1 960 = true := inb_iff.mpr (by omega)
  rw [p_X12_runCall_eq]
  refine ok_bd (ok_pk (k_X12_beginsCall μ r1) (q_beginsCall μ)) ?_
  rintro r8' μ7 ⟨⟨i1, i2, _⟩, i3⟩
  have i1 : IM μ7 := i1
  have i2 : Fr [(0, 0, 68), (0, 0, 75), (0, 0, 76), (0, 0, 77)] true μ μ7 := i2
  have z73 : μ7.1 0 73 = μ.1 0 73 := i2.v (by decide +kernel)
  rcases i3 with ⟨i3, i4⟩ | ⟨i3, i4, i5, i6, i7, i8⟩
  · have i3 : r8' = 0 := i3
    have i4 : μ7.1 0 68 ≠ 0 := i4
    rw [if_pos i3]
    refine ok_some ⟨i1, r3.trans (Fr.mono i2 (by decide +kernel) (fun h => h)), ?_, ?_, Or.inl i4⟩
    · show 0 ≤ (μ7.1 0 73).toInt
      rw [z73]; exact r17
    · show (μ7.1 0 73).toInt ≤ _
      rw [z73]; omega
  have i3 : r8' = 1 := i3
  have i6 : μ7.1 0 75 = μ.1 0 75 + 1 := i6
  have i7 : μ7.1 0 76 = μ.1 0 76 + 1 := i7
  have i8 : μ7.1 0 68 = μ.1 0 68 := i8
  rw [if_neg (by rw [i3]; decide)]
  have e100 : (100 : Int32).toInt = 100 := by decide
  have e30 : (30 : Int32).toInt = 30 := by decide
  have h100 : (μ.1 0 75).toInt ≠ 100 := fun h => i4 (ti_eq.mpr (by rw [h, e100]))
  have h30 : (μ.1 0 76).toInt ≠ 30 := fun h => i5 (ti_eq.mpr (by rw [h, e30]))
  have x75 : (μ7.1 0 75).toInt = (μ.1 0 75).toInt + 1 := by rw [i6, ti_add (by omega) (by omega), e1]
  have x76 : (μ7.1 0 76).toInt = (μ.1 0 76).toInt + 1 := by rw [i7, ti_add (by omega) (by omega), e1]
  have G7 : Gr μ μ7 := i2.gr (by decide +kernel)
  have C7 : Ca μ μ7 (320 * G.length) 0 := ⟨i1, r2.fr i2 (by decide +kernel), G7, Fr.mono i2 (by decide +kernel) (fun h => h), fun j _ => i2.a (by decide +kernel) j, fun u hu => absurd hu (by omega), by rw [(i2.heq (by decide +kernel)).1]; omega⟩
  have loop : ∀ (n k : Nat) (a2 : Int32) (μ2 : Mem), a2.toInt = (k : Int) → k ≤ m → m < n + k → Ca μ μ2 (320 * G.length) k → μ2.1 0 68 = μ7.1 0 68 → μ2.1 0 75 = μ7.1 0 75 → μ2.1 0 76 = μ7.1 0 76 → ok (p_X12_runCall_b11 n a1 a2 μ2) (Ry μ0 T) := by
    intro n
    induction n with
    | zero => intro k a2 μ2 _ h1 h2; omega
    | succ n ih =>
      intro k a2 μ2 h2 hk hn hC y68 y75 y76
      have hC' := hC
      obtain ⟨c1, c2, c3, c4, c5, c6, c7⟩ := hC
      have k0 : ∀ d j, na frRR d = true → na frCA d = true → iv μ2 d j = iv μ0 d j := fun d j h1 h2 => by rw [c4.a h2, r3.a h1]
      rw [p_X12_runCall_b11_s, n1]
      have k52 : (μ2.1 52 i).toInt = (m : Int) := by
        have := k0 52 i (by decide +kernel) (by decide +kernel)
        show iv μ2 52 i = _
        rw [this, h52]
      have k126 : (μ2.1 0 126).toInt = ((320 * G.length : Nat) : Int) := by rw [c4.v (by decide +kernel)]; exact r7
      refine ok_gd b1 (ok_ite (fun hle => ?_) (fun hle => ok_gd b1 ?_))
      · rw [ti_le] at hle
        have hkm : k = m := by omega
        subst hkm
        refine ok_bv (fun μ5 em5 => ok_gd b1 ?_)
        have f5 : Fr [(0, 0, 126)] true μ2 μ5 := by rw [em5]; exact Fr.put Fr.rf (by decide +kernel)
        have hI5 : IM μ5 := by rw [em5]; exact IM_F c1 (rtm_0_126 _)
        have t126 : (μ5.1 0 126).toInt = ((320 * (G.length + 1) : Nat) : Int) := by rw [em5, sF_v, ti_add (by omega) (by omega), e320, k126]; omega
        have t76 : (μ5.1 0 76).toInt = ((G.length + 1 : Nat) : Int) + 1 := by rw [f5.v (by decide +kernel), y76, x76, r5]; omega
        refine ok_bw (k_enterVariant hI5 (d := G.length + 1) t76 (by omega) _ _) ?_
        rintro μ6 ⟨q1, q2, q3, q4, q5⟩
        have kq : ∀ d j, na frRR d = true → na frCA d = true → na [(0, 0, 126)] d = true → na [(1, 77, 0), (1, 78, 0)] d = true → iv μ6 d j = iv μ0 d j := fun d j h1 h2 h3 h4 => by rw [q2.a h4, f5.a h3, k0 d j h1 h2]
        have k48 : (μ6.1 48 i).toInt = (v : Int) := by
          have := kq 48 i (by decide +kernel) (by decide +kernel) (by decide +kernel) (by decide +kernel)
          show iv μ6 48 i = _
          rw [this, hv]
        have k485 : (μ5.1 48 i).toInt = (v : Int) := by
          have h1 := f5.a (c := 48) (by decide +kernel) i
          have h2 := k0 48 i (by decide +kernel) (by decide +kernel)
          show iv μ5 48 i = _
          rw [h1, h2, hv]
        obtain ⟨b0, b2, b3, b4⟩ := hRB v hv2
        rw [tn_of k48]
        have k62 : (μ6.1 62 v).toInt = (b0 : Int) := by
          have := kq 62 v (by decide +kernel) (by decide +kernel) (by decide +kernel) (by decide +kernel)
          show iv μ6 62 v = _
          rw [this, b2]
        have F6 : Fr (frCA ++ [(0, 0, 126), (1, 77, 0), (1, 78, 0)]) true μ μ6 := ((Fr.mono c4 (by decide +kernel) (fun h => h)).trans (Fr.mono f5 (by decide +kernel) (fun h => h))).trans (Fr.mono q2 (by decide +kernel) (fun h => h))
        have F06 : Fr frRR true μ0 μ6 := r3.trans (Fr.mono F6 (by decide +kernel) (fun h => h))
        have G26 : Gr μ2 μ6 := (f5.gr (by decide +kernel)).tr (q2.gr (by decide +kernel))
        have a76 : ∀ j, iv μ6 76 j = iv μ2 76 j := fun j => by rw [q2.a (by decide +kernel), f5.a (by decide +kernel)]
        have e56 : nv μ6 56 = nv μ2 56 := by rw [(q2.heq (by decide +kernel)).1, (f5.heq (by decide +kernel)).1]
        have l75 : (μ6.1 0 75).toInt = (μ.1 0 75).toInt + 1 := by rw [q2.v (by decide +kernel), f5.v (by decide +kernel), y75, x75]
        have n75 : nv μ6 75 = nv μ 75 + 1 := tn_of (by rw [l75]; omega)
        have z736 : μ6.1 0 73 = μ.1 0 73 := F6.v (by decide +kernel)
        have hsn := Sn_le hI0 hS b0
        have e5 : Gn μ0 ((w, c, i, V) :: G) = Sn μ0 i + 1 + Gn μ0 G := rfl
        have e6 : Gn μ0 ((v, (i : Int), b0, (fun u : Nat => (u : Int) < iv μ0 59 v)) :: (w, c, i, V) :: G) = Sn μ0 b0 + 1 + (Sn μ0 i + 1 + Gn μ0 G) := rfl
        have e7 : Gi ((w, c, i, V) :: G) = (961 - i) + Gi G := rfl
        have e8 : Gi ((v, (i : Int), b0, (fun u : Nat => (u : Int) < iv μ0 59 v)) :: (w, c, i, V) :: G) = (961 - b0) + ((961 - i) + Gi G) := rfl
        refine ok_gd b1 (ok_gd (inb_iff.mpr (by omega)) (ok_some ⟨q1, F06, by show 0 ≤ (μ6.1 0 73).toInt; rw [z736]; exact r17, by show (μ6.1 0 73).toInt ≤ _; rw [z736]; omega, Or.inr ⟨v, (i : Int), b0, (fun u : Nat => (u : Int) < iv μ0 59 v), (w, c, i, V) :: G, _, k62, ⟨q1, (c2.fr f5 (by decide +kernel)).fr q2 (by decide +kernel), F06, ?_, ?_, ?_, ?_, ?_, ?_, b4, ?_, ?_, ?_, ?_, ?_, rfl, ?_, ?_⟩, ?_⟩⟩))
        · show μ6.1 0 68 = 0
          rw [q2.v (by decide +kernel), f5.v (by decide +kernel), y68, i8]; exact r4
        · show (μ6.1 0 76).toInt = _
          rw [q2.v (by decide +kernel)]; simp only [List.length_cons]; omega
        · simp only [List.length_cons]; omega
        · show (μ6.1 0 126).toInt = _
          rw [q2.v (by decide +kernel)]; simp only [List.length_cons]; exact t126
        · show iv μ6 78 (G.length + 1) = _
          rw [q4]; exact k485
        · show iv μ6 77 (G.length + 1) = _
          rw [q3]; exact ha
        · intro u hu
          rw [h59] at hu
          obtain ⟨x, y1, y2⟩ := c6 u (by omega)
          refine ⟨by omega, x, ?_, y2.gr G26⟩
          have e9 : 320 * ((w, c, i, V) :: G).length + u = 320 * G.length + 320 + u := by simp only [List.length_cons]; omega
          rw [e9]
          show iv μ6 76 _ = _
          rw [a76]; exact y1
        · refine ⟨rfl, ⟨(iv μ0 47 i).toNat, by rw [h11]; decide, by omega, by omega, ?_⟩, hi, ?_, ?_, ?_, ?_⟩
          · have hVp : Vp μ0 V i = (fun u => V u ∨ (iv μ0 47 i).toNat = u) := by
              funext u
              unfold Vp
              refine propext ⟨fun h => h.imp id (fun h => by omega), fun h => h.imp id (fun h => ⟨by rw [h11]; decide, by omega⟩)⟩
            rw [← hVp]; exact hW
          · show iv μ6 78 G.length = _
            rw [(q5 G.length (by omega)).2, f5.a (by decide +kernel), c4.a (by decide +kernel)]; exact r8
          · show iv μ6 77 G.length = _
            rw [(q5 G.length (by omega)).1, f5.a (by decide +kernel), c4.a (by decide +kernel)]; exact r9
          · intro u hu
            obtain ⟨h1, x, y1, y2⟩ := r11 u hu
            exact ⟨h1, x, by show iv μ6 76 _ = _; rw [a76, c5 _ (by omega)]; exact y1, (y2.gr c3).gr G26⟩
          · refine r12.cong (c3.tr G26) (fun j hj => ⟨?_, ?_⟩) (fun j hj => ?_)
            · show iv μ6 77 j = _
              rw [(q5 j (by omega)).1, f5.a (by decide +kernel), c4.a (by decide +kernel)]
            · show iv μ6 78 j = _
              rw [(q5 j (by omega)).2, f5.a (by decide +kernel), c4.a (by decide +kernel)]
            · show iv μ6 76 j = _
              rw [a76, c5 _ (by omega)]
        · show 0 ≤ (μ6.1 0 75).toInt
          omega
        · show (μ6.1 0 75).toInt ≤ 100
          omega
        · show nv μ6 56 + _ ≤ 30 + 910 * nv μ6 75
          omega
        · show 0 ≤ (μ6.1 0 73).toInt
          rw [z736]; exact r17
        · show (μ6.1 0 73).toInt + ((_ + 962 * (100 - nv μ6 75) : Nat) : Int) ≤ _
          rw [z736, n75]; omega
        · show _ + 962 * (100 - nv μ6 75) < T
          omega
      · rw [ti_le] at hle
        have k51 : (μ2.1 51 i).toInt = (o : Int) := by
          have := k0 51 i (by decide +kernel) (by decide +kernel)
          show iv μ2 51 i = _
          rw [this, ho]
        have ho2 := ho2 (by omega)
        exact ca_step hC' r7 (by omega) r11 ((hOp k (by omega)).gr r3 (by decide +kernel)) (by omega) hroom (by rw [ti_add (by omega) (by omega), k51, h2]; omega) (by rw [ti_add (by rw [ti_add (by omega) (by omega), e320]; omega) (by rw [ti_add (by omega) (by omega), e320]; omega), ti_add (by omega) (by omega), e320, k126, h2]; omega) (fun μ10 hC10 z1 z2 z3 => ok_bv (fun v11 ev => ih (k + 1) v11 μ10 (by rw [ev, ti_add (by omega) (by omega), e1, h2]; omega) (by omega) (by omega) hC10 (by rw [z1, y68]) (by rw [z2, y75]) (by rw [z3, y76])))
  exact loop FUEL 0 0 μ7 e0 (by omega) (by show m < 10000000000 + 0; omega) C7 rfl rfl rfl
