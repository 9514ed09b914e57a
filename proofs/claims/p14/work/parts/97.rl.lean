/-! A RUN OF WHAT IS LEFT: ITS LOOP -/
def RQ (μ0 q : Mem) : Prop := IM q ∧ Fr (frRR ++ frER) true μ0 q ∧ (0 ≤ (q.1 0 122).toInt ∧ (q.1 0 122).toInt ≤ 40) ∧ 0 ≤ (q.1 0 73).toInt ∧ (q.1 0 73).toInt ≤ 500000
theorem rr_end {μ0 μ : Mem} {a : Int32} (hI : IM μ) (F : Fr frRR true μ0 μ) (h122 : (μ0.1 0 122).toInt = 0) (h73 : 0 ≤ (μ.1 0 73).toInt ∧ (μ.1 0 73).toInt ≤ 500000) (h : μ.1 0 68 = 0 → HI μ ∧ ∃ x : Nat, a.toInt = (x : Int) ∧ Gz μ x) : ok (bw (p_X12_endRun a μ) (fun μ14 => some μ14)) (RQ μ0) := by
  refine ok_bw (k_endRun hI (by rw [F.v (by decide +kernel)]; exact h122) (fun h0 => ?_)) ?_
  · obtain ⟨h1, x, h2, h3⟩ := h h0
    exact ⟨h1, x, h2, h3.1.lt, h3.2⟩
  · rintro q ⟨q1, q2, q3⟩
    exact ok_some ⟨q1, (Fr.mono F (by decide +kernel) (fun h => h)).trans (Fr.mono q2 (by decide +kernel) (fun h => h)), q3, by rw [q2.v (by decide +kernel)]; exact h73⟩
/-- between two turns of the loop -/
def Rs (μ0 : Mem) (a1 a2 : Int32) (μ : Mem) (T : Nat) : Prop :=
  (IM μ ∧ Fr frRR true μ0 μ ∧ 0 ≤ (μ.1 0 73).toInt ∧ (μ.1 0 73).toInt ≤ 500000 ∧ (μ.1 0 68 ≠ 0 ∨ (a2 = -1 ∧ HI μ ∧ ∃ x : Nat, a1.toInt = (x : Int) ∧ Gz μ x)))
  ∨ ∃ (w : Nat) (c : Int) (i : Nat) (V : Nat → Prop) (G : List Rf), a2.toInt = (i : Int) ∧ Rx μ0 μ w c i V G T
set_option maxHeartbeats 2000000 in
/-- a variant has ended -/
theorem rx_fin {μ0 μ : Mem} {w i en : Nat} {c : Int} {V : Nat → Prop} {G : List Rf} {T n : Nat} (hI0 : IM μ0) (h : Rx μ0 μ w c i V G T) (hO : Opd μ0 (nv μ0 88) V en) (hi9 : i ≤ 960) {a : Int32} (ha : a.toInt = (en : Int)) (ih : ∀ (a1 a2 : Int32) (μ : Mem) (T2 : Nat), T2 < T → Rs μ0 a1 a2 μ T2 → ok (p_X12_runResidue_b59 n a1 a2 μ) (RQ μ0)) : ok (bd (p_X12_valueOf a μ) (fun r22 μ21 => gd (inb ((μ21.1 0 76) - 1) 31) (bv (μ21.1 77 ((μ21.1 0 76) - 1).toNatClampNeg) (fun v23 => bv (sF μ21 0 76 ((μ21.1 0 76) - 1)) (fun μ24 => bv (sF μ24 0 126 ((μ24.1 0 126) - 320)) (fun μ25 => (if v23 = -1 then p_X12_runResidue_b59  n r22 v23 μ25 else bw (p_X12_hold v23 r22 μ25) (fun μ27 => bv (v23 + 1) (fun v29 => p_X12_runResidue_b59  n r22 v29 μ27))))))))) (RQ μ0) := by
  have e1 : (1 : Int32).toInt = 1 := by decide
  have em1 : (-1 : Int32).toInt = -1 := by decide
  have e320 : (320 : Int32).toInt = 320 := by decide
  have h' := h
  obtain ⟨r1, r2, r3, r4, r5, r6, r7, r8, r9, r10, r11, r12, r13, r14, r15, r16, r17, r18⟩ := h'
  have g87 := rgm_0_87 hI0
  have m87 := ti_nat (a := μ0.1 0 87) (by omega)
  have en87 : nv μ0 87 = (μ0.1 0 87).toNatClampNeg := rfl
  refine ok_bd (rx_val h hO ha) ?_
  rintro r22 μ21 ⟨x, x1, x2, x3, x4, x5, x6, x7⟩
  have x1 : r22.toInt = (x : Int) := x1
  have x2 : IM μ21 := x2
  have x3 : HI μ21 := x3
  have x4 : Gr μ μ21 := x4
  have x5 : Fr frN true μ μ21 := x5
  have x6 : nv μ21 56 ≤ nv μ 56 + 1 := x6
  have x7 : Gz μ21 x := x7
  have t76 : (μ21.1 0 76).toInt = (G.length : Int) + 1 := by rw [x5.v (by decide +kernel)]; exact r5
  have t126 : (μ21.1 0 126).toInt = ((320 * G.length : Nat) : Int) := by rw [x5.v (by decide +kernel)]; exact r7
  have t1 : (μ21.1 0 76 - 1).toInt = (G.length : Int) := by rw [ti_sub (by omega) (by omega), e1]; omega
  rw [tn_of t1]
  refine ok_gd (inb_iff.mpr (by omega)) (ok_bv (fun v23 e23 => ok_bv (fun μ24 em24 => ok_bv (fun μ25 em25 => ?_))))
  have f24 : Fr [(0, 0, 76)] true μ21 μ24 := by rw [em24]; exact Fr.put Fr.rf (by decide +kernel)
  have f25 : Fr [(0, 0, 126)] true μ24 μ25 := by rw [em25]; exact Fr.put Fr.rf (by decide +kernel)
  have hI24 : IM μ24 := by rw [em24]; exact IM_F x2 (rtm_0_76 _)
  have hI25 : IM μ25 := by rw [em25]; exact IM_F hI24 (rtm_0_126 _)
  have F25 : Fr [(0, 0, 76), (0, 0, 126)] true μ21 μ25 := (Fr.mono f24 (by decide +kernel) (fun h => h)).trans (Fr.mono f25 (by decide +kernel) (fun h => h))
  have F : Fr (frN ++ [(0, 0, 76), (0, 0, 126)]) true μ μ25 := (Fr.mono x5 (by decide +kernel) (fun h => h)).trans (Fr.mono F25 (by decide +kernel) (fun h => h))
  have F0 : Fr frRR true μ0 μ25 := r3.trans (Fr.mono F (by decide +kernel) (fun h => h))
  have z126 : (μ24.1 0 126).toInt = ((320 * G.length : Nat) : Int) := by rw [f24.v (by decide +kernel)]; exact t126
  have u76 : (μ25.1 0 76).toInt = (G.length : Int) := by rw [f25.v (by decide +kernel), em24, sF_v]; exact t1
  have G25 : Gr μ21 μ25 := F25.gr (by decide +kernel)
  have H25 : HI μ25 := x3.fr F25 (by decide +kernel)
  have z73 : μ25.1 0 73 = μ.1 0 73 := F.v (by decide +kernel)
  have z68 : μ25.1 0 68 = 0 := by rw [F.v (by decide +kernel)]; exact r4
  have c23 : v23.toInt = c := by
    rw [e23]
    have : iv μ21 77 G.length = iv μ 77 G.length := x5.a (by decide +kernel) _
    show iv μ21 77 G.length = _
    rw [this]; exact r9
  have x7' : Gz μ25 x := x7.gr G25
  refine ok_ite (fun hm => ?_) (fun hm => ?_)
  · refine ih r22 v23 μ25 0 ?_ (Or.inl ⟨hI25, F0, by rw [z73]; exact r17, by rw [z73]; omega, Or.inr ⟨hm, H25, x, x1, x7'⟩⟩)
    have : Gi ((w, c, i, V) :: G) = (961 - i) + Gi G := rfl
    omega
  · have hcm : c ≠ -1 := fun h => hm (ti_eq.mpr (by rw [c23, h, em1]))
    cases G with
    | nil => exact absurd r12 hcm
    | cons t G =>
      obtain ⟨w', c0, i', V'⟩ := t
      obtain ⟨a1, ⟨r, a2, a3, a4, a5⟩, a6, a7, a8, a9, a10⟩ := r12
      simp only [List.length_cons] at *
      have u126 : (μ25.1 0 126).toInt = ((320 * G.length : Nat) : Int) := by rw [em25, sF_v, ti_sub (by omega) (by omega), e320, z126]; omega
      have hR25 : Rg μ25 (320 * G.length) V' := a9.fr F (x4.tr G25) (by decide +kernel)
      have k47 : iv μ25 47 i' = (r : Int) := by rw [F0.a (by decide +kernel)]; exact a3
      refine ok_bw (k_hold hI25 H25 (i := i') (by rw [c23, a1]) (by omega) k47 a4 u126 (by omega) x1 x7' hR25) ?_
      rintro μ27 ⟨q1, q2, q3, q4, q5, q6⟩
      refine ok_bv (fun v29 e29 => ?_)
      have F27 : Fr frRR true μ0 μ27 := F0.trans (Fr.mono q4 (by decide +kernel) (fun h => h))
      have n75 : nv μ27 75 = nv μ 75 := by rw [q4.n (by decide +kernel), F.n (by decide +kernel)]
      have n56 : nv μ27 56 ≤ nv μ 56 + 1 := by rw [(q4.heq (by decide +kernel)).1, (F25.heq (by decide +kernel)).1]; exact x6
      have s1 := Sn_step (μ0 := μ0) a6 (Nat.lt_succ_self i') a6
      have s1 : Sn μ0 (i' + 1) + cn (iv μ0 46 i') ≤ Sn μ0 i' := s1
      have w1 : Gn μ0 ((w, c, i, V) :: (w', c0, i', V') :: G) = Sn μ0 i + 1 + (Sn μ0 i' + 1 + Gn μ0 G) := rfl
      have w2 : Gn μ0 ((w', c0, i' + 1, fun u => V' u ∨ r = u) :: G) = Sn μ0 (i' + 1) + 1 + Gn μ0 G := rfl
      have w3 : Gi ((w, c, i, V) :: (w', c0, i', V') :: G) = (961 - i) + ((961 - i') + Gi G) := rfl
      have w4 : Gi ((w', c0, i' + 1, fun u => V' u ∨ r = u) :: G) = (961 - (i' + 1)) + Gi G := rfl
      have z75 : μ27.1 0 75 = μ.1 0 75 := by rw [q4.v (by decide +kernel), F.v (by decide +kernel)]
      have z737 : μ27.1 0 73 = μ.1 0 73 := by rw [q4.v (by decide +kernel), z73]
      refine ih r22 v29 μ27 (Gi ((w', c0, i' + 1, fun u => V' u ∨ r = u) :: G) + 962 * (100 - nv μ27 75)) (by omega) (Or.inr ⟨w', c0, i' + 1, fun u => V' u ∨ r = u, G, by rw [e29, ti_add (by rw [c23, e1]; omega) (by rw [c23, e1]; omega), c23, e1, a1]; omega, q1, q2, F27, ?_, ?_, by omega, ?_, ?_, ?_, a5, q5, ?_, ?_, ?_, ?_, rfl, ?_, ?_⟩)
      · rw [q4.v (by decide +kernel)]; exact z68
      · rw [q4.v (by decide +kernel), u76]; omega
      · rw [q4.v (by decide +kernel)]; exact u126
      · rw [q4.a (by decide +kernel), F.a (by decide +kernel)]; exact a7
      · rw [q4.a (by decide +kernel), F.a (by decide +kernel)]; exact a8
      · refine a10.cong ((x4.tr G25).tr q3) (fun j _ => ⟨by rw [q4.a (by decide +kernel), F.a (by decide +kernel)], by rw [q4.a (by decide +kernel), F.a (by decide +kernel)]⟩) (fun j hj => by rw [q6 j hj, F.a (by decide +kernel)])
      · rw [z75]; exact r13
      · rw [z75]; exact r14
      · omega
      · rw [z737]; exact r17
      · rw [z737]; omega
set_option maxHeartbeats 2000000 in
theorem rr_loop {μ0 : Mem} {ks : Nat} (hI0 : IM μ0) (hS : SV μ0 ks) (hRB : RB μ0) (h122 : (μ0.1 0 122).toInt = 0) : ∀ (n T : Nat) (a1 a2 : Int32) (μ : Mem), T < n → Rs μ0 a1 a2 μ T → ok (p_X12_runResidue_b59 n a1 a2 μ) (RQ μ0) := by
  have e1 : (1 : Int32).toInt = 1 := by decide
  have em1 : (-1 : Int32).toInt = -1 := by decide
  intro n
  induction n with
  | zero => intro T a1 a2 μ h; omega
  | succ n ih =>
    intro T a1 a2 μ hT h
    rw [p_X12_runResidue_b59_s]
    rcases h with ⟨h1, h2, h3, h4, h5⟩ | ⟨w, c, i, V, G, h1, h2⟩
    · refine ok_ite (fun hm => rr_end h1 h2 h122 ⟨h3, h4⟩ (fun h0 => (h5.resolve_left (fun h => h h0)).2)) (fun hm => ok_ite (fun h0 => ?_) (fun h0 => rr_end h1 h2 h122 ⟨h3, h4⟩ (fun h => absurd h h0)))
      exact absurd (h5.resolve_left (fun h => h h0)).1 hm
    · have h' := h2
      obtain ⟨r1, r2, r3, r4, r5, r6, r7, r8, r9, r10, r11, r12, r13, r14, r15, r16, r17, r18⟩ := h'
      obtain ⟨hw, E, en, e63, e64, hE, hRn⟩ := r10
      have g87 := rgm_0_87 hI0
      have m87 := ti_nat (a := μ0.1 0 87) (by omega)
      have en87 : nv μ0 87 = (μ0.1 0 87).toNatClampNeg := rfl
      have g110 := rgm_0_110 hI0
      have m110 := ti_nat (a := μ0.1 0 110) (by omega)
      have en110 : nv μ0 110 = (μ0.1 0 110).toNatClampNeg := rfl
      have t1 : (μ.1 0 76 - 1).toInt = (G.length : Int) := by rw [ti_sub (by omega) (by omega), e1]; omega
      rw [if_neg (fun h => by rw [h, em1] at h1; omega), if_pos r4, tn_of t1]
      refine ok_gd (inb_iff.mpr (by omega)) (ok_bv (fun v19 e19 => ?_))
      have t19 : v19.toInt = (w : Int) := by rw [e19]; exact r8
      have b19 : inb v19 25 = true := inb_iff.mpr (by omega)
      have k63 : (μ.1 63 w).toInt = (E : Int) := by
        have := r3.a (c := 63) (by decide +kernel) w
        show iv μ 63 w = _
        rw [this, e63]
      have k64 : (μ.1 64 w).toInt = (en : Int) := by
        have := r3.a (c := 64) (by decide +kernel) w
        show iv μ 64 w = _
        rw [this, e64]
      rw [tn_of t19]
      refine ok_gd b19 (ok_ite (fun hle => ok_gd b19 ?_) (fun hle => ?_))
      · rw [ti_le] at hle
        have hO : Opd μ0 (nv μ0 88) V en ∧ i = E := by
          rcases hRn.inv with ⟨V1, h1, h2, h3⟩ | ⟨V1, i1, _, _, h3, _⟩ | ⟨V1, i1, e, _, _, h3, _⟩ | ⟨V1, W, i1, p, n, _, _, h3, _⟩
          · subst h1; exact ⟨h3, h2⟩
          · omega
          · omega
          · omega
        exact rx_fin hI0 h2 hO.1 (by omega) k64 (fun a1 a2 μ T2 h h3 => ih T2 a1 a2 μ (by omega) h3)
      · rw [ti_le] at hle
        refine ok_bd (rx_item hI0 hS hRB h2 (by rw [e63]; omega) h1) ?_
        rintro r31 μ30 ⟨q1, q2, q3, q4, q5⟩
        have q1 : IM μ30 := q1
        have q2 : Fr frRR true μ0 μ30 := q2
        rcases q5 with q5 | ⟨w2, c2, i2, V2, G2, T2, q5, q6, q7⟩
        · exact ih 0 a1 r31 μ30 (by have : Gi ((w, c, i, V) :: G) = (961 - i) + Gi G := rfl; omega) (Or.inl ⟨q1, q2, q3, q4, Or.inl q5⟩)
        · exact ih T2 a1 r31 μ30 (by omega) (Or.inr ⟨w2, c2, i2, V2, G2, q5, q6⟩)
