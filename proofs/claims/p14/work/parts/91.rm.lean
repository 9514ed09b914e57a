/-! THE END OF A BLOCK -/
theorem rx_mark {μ0 μ : Mem} {w i o p n : Nat} {c : Int} {V W : Nat → Prop} {G : List Rf} {T : Nat} (hI0 : IM μ0) (h : Rx μ0 μ w c i V G T) (hi : i < nv μ0 87) (hk : iv μ0 46 i = 13 ∨ iv μ0 46 i = 14) (h48 : iv μ0 48 i = (p : Int)) (hO : Opd μ0 (nv μ0 88) V o) (hn : iv μ0 50 p = (n : Int)) (hr : 0 ≤ iv μ0 47 p ∧ iv μ0 47 p < 320) (hp : p < nv μ0 87 ∧ i ≤ n ∧ n < nv μ0 87) (hw : ∀ u, W u → V u ∨ iv μ0 47 p = (u : Int)) (hW : Rw μ0 w W (n + 1)) {a1 a2 : Int32} (ha : a1.toInt = (i : Int)) (ha2 : a2.toInt = (o : Int)) : ok (gd (inb a1 960) (bd (p_X12_valueOf a2 μ) (fun r38 μ37 => bw (p_X12_hold (μ.1 48 i) r38 μ37) (fun μ39 => gd (inb a1 960) (gd (inb (μ39.1 48 i) 960) (some (((μ39.1 50 (μ39.1 48 i).toNatClampNeg) + 1), μ39))))))) (Ry μ0 T) := by
  have e1 : (1 : Int32).toInt = 1 := by decide
  have hroom := h.room
  have hx := h
  obtain ⟨r1, r2, r3, r4, r5, r6, r7, r8, r9, r10, r11, r12, r13, r14, r15, r16, r17, r18⟩ := h
  have g87 := rgm_0_87 hI0
  have m87 := ti_nat (a := μ0.1 0 87) (by omega)
  have en87 : nv μ0 87 = (μ0.1 0 87).toNatClampNeg := rfl
  have b1 : inb a1 960 = true := inb_iff.mpr (by omega)
  have hcn : cn (iv μ0 46 i) = 1 := by rcases hk with hk | hk <;> rw [hk] <;> rfl
  have k48 : (μ.1 48 i).toInt = (p : Int) := by
    have h2 := r3.a (c := 48) (by decide +kernel) i
    show iv μ 48 i = _
    rw [h2, h48]
  refine ok_gd b1 (ok_bd (rx_val hx hO ha2) ?_)
  rintro r38 μ37 ⟨x, x1, x2, x3, x4, x5, x6, x7⟩
  have x1 : r38.toInt = (x : Int) := x1
  have x2 : IM μ37 := x2
  have x3 : HI μ37 := x3
  have x4 : Gr μ μ37 := x4
  have x5 : Fr frN true μ μ37 := x5
  have x6 : nv μ37 56 ≤ nv μ 56 + 1 := x6
  have x7 : Gz μ37 x := x7
  have k47 : iv μ37 47 p = ((iv μ0 47 p).toNat : Int) := by rw [x5.a (by decide +kernel), r3.a (by decide +kernel)]; omega
  refine ok_bw (k_hold x2 x3 k48 (by omega) k47 (by omega) (by rw [x5.v (by decide +kernel)]; exact r7) (by omega) x1 x7 (r11.fr x5 x4 (by decide +kernel))) ?_
  rintro q ⟨q1, q2, q3, q4, q5, q6⟩
  have e56 : nv q 56 = nv μ37 56 := (q4.heq (by decide +kernel)).1
  have kq : ∀ d j, na [(1, 76, 0)] d = true → na frN d = true → na frRR d = true → iv q d j = iv μ0 d j := fun d j h1 h2 h3 => by rw [q4.a h1, x5.a h2, r3.a h3]
  have q48 : (q.1 48 i).toInt = (p : Int) := by
    have := kq 48 i (by decide) (by decide +kernel) (by decide +kernel)
    show iv q 48 i = _
    rw [this, h48]
  rw [tn_of q48]
  have q50 : (q.1 50 p).toInt = (n : Int) := by
    have := kq 50 p (by decide) (by decide +kernel) (by decide +kernel)
    show iv q 50 p = _
    rw [this, hn]
  refine ok_gd b1 (ok_gd (inb_iff.mpr (by omega)) (ok_some (rx_step hI0 hx hi (j := n + 1) (V2 := W) (by omega) (by omega) q1 q2 (x4.tr q3) ((Fr.mono x5 (by decide +kernel) (fun h => h)).trans (Fr.mono q4 (by decide +kernel) (fun h => h))) (by rw [q4.v (by decide +kernel), x5.v (by decide +kernel)]; exact r4) (fun u hu => q5 u ?_) hW (fun k hk => by rw [q6 k hk, x5.a (by decide +kernel)]) (by omega) (by rw [q4.v (by decide +kernel), x5.v (by decide +kernel)]; omega) (by rw [ti_add (by omega) (by omega), e1, q50]; omega))))
  rcases hw u hu with h1 | h1
  · exact Or.inl h1
  · exact Or.inr (by omega)
