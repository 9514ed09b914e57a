/-! SPECIALISING, WHOLE -/
def RI (q : Mem) : Prop := ∃ k, SV q k ∧ nv q 110 ≤ k ∧ VP q ∧ 0 < k
theorem RI.fr {F : List (Nat × Nat × Nat)} {bb : Bool} {μ μ' : Mem} (h : RI μ) (f : Fr F bb μ μ') (n : (nT F && nV F) = true) : RI μ' := by
  simp only [Bool.and_eq_true] at n
  obtain ⟨k, h1, h2, h3⟩ := h
  have n110 : nf F 110 = true := by have := n.2; unfold nV at this; simp only [Bool.and_eq_true] at this; exact this.2
  exact ⟨k, h1.fr f n.1, by rw [f.n n110]; exact h2, h3.1.fr f n.2, h3.2⟩
def frS0 : List (Nat × Nat × Nat) := [(0, 0, 56), (0, 0, 68), (0, 0, 87), (0, 0, 88), (0, 0, 89), (0, 0, 91), (0, 0, 110), (0, 0, 96), (0, 0, 97)]
def frSN : List (Nat × Nat × Nat) := frS0 ++ frBT ++ frMd ++ frNv ++ frMV
def SPq (μ q : Mem) : Prop := IM q ∧ Fr frSN true μ q ∧ (q.1 0 68 ≠ 0 ∨ RI q)
set_option maxHeartbeats 2000000 in
theorem k_specialiseNow {μ : Mem} (hI : IM μ) (hT : TW μ) (hP : PW μ) (h29 : 0 ≤ iv μ 29 0 ∧ iv μ 29 0 ≤ 12) (h73 : 0 ≤ (μ.1 0 73).toInt ∧ (μ.1 0 73).toInt ≤ 500001) : ok (p_X12_specialiseNow μ) (SPq μ) := by
  have e0 : (0 : Int32).toInt = 0 := by decide
  have e1 : (1 : Int32).toInt = 1 := by decide
  have hPA : PA (iv μ 7) (iv μ 8) (iv μ 9) (iv μ 10) (nv μ 18) μ := ⟨rfl, rfl, rfl, rfl, rfl, hP, h29⟩
  have loop : ∀ (m k : Nat) (a3 : Int32) (μ2 : Mem), a3.toInt = (k : Int) → k ≤ 24 → 24 < m + k → IM μ2 → Fr frSN true μ μ2 → (μ2.1 0 68 ≠ 0 ∨ (SV μ2 k ∧ VP μ2 ∧ (k = 0 → 0 < nv μ2 110) ∧ 0 ≤ (μ2.1 0 91).toInt ∧ (μ2.1 0 91).toInt ≤ 200)) → ok (p_X12_specialiseNow_b92 m a3 μ2) (SPq μ) := by
    intro m
    induction m with
    | zero => intro k a3 μ2 _ _ h; omega
    | succ m ih =>
      intro k a3 μ2 h3 hk hm hI2 F2 h2
      rw [p_X12_specialiseNow_b92_s]
      have g110 := rgm_0_110 hI2
      have m110 := ti_nat (a := μ2.1 0 110) (by omega)
      have em110 : nv μ2 110 = (μ2.1 0 110).toNatClampNeg := rfl
      refine ok_ite (fun hle => ok_some ⟨hI2, F2, h2.imp (fun h => h) (fun h => ⟨k, h.1, ?_, h.2.1, ?_⟩)⟩) (fun hle => ok_ite (fun ho => ?_) (fun ho => ok_some ⟨hI2, F2, Or.inl ho⟩))
      · rw [ti_le] at hle; omega
      · rw [ti_le] at hle
        have := h.2.2.1
        omega
      · rw [ti_le] at hle
        obtain ⟨s1, s2, s4, s3⟩ := h2.resolve_left (fun h => h ho)
        refine ok_bv (fun μ21 em => ?_)
        have f21 : Fr [(0, 0, 56)] true μ2 μ21 := by rw [em]; exact Fr.put Fr.rf (by decide +kernel)
        have hI21 : IM μ21 := by rw [em]; exact IM_F hI2 (rpm_0_56 (by rw [e0]; omega))
        have n56 : nv μ21 56 = 0 := by unfold nv; rw [em, sF_v]; decide
        have F21 : Fr frSN true μ μ21 := F2.trans (Fr.mono f21 (by decide +kernel) (fun h => h))
        refine ok_bw (k_makeVariant (v := k) h3 (by rw [f21.n (by decide +kernel)]; omega) hI21 n56 (hPA.fr F21 (by decide +kernel)) (s2.fr f21 (by decide +kernel)) (by rw [f21.v (by decide +kernel)]; exact s3) (by rw [F21.v (by decide +kernel)]; exact h73) (s1.fr f21 (by decide +kernel))) ?_
        rintro μ22 ⟨q1, q2, q3⟩
        refine ok_bv (fun v24 ev => ih (k + 1) v24 μ22 (by rw [ev, ti_add (by omega) (by omega), e1, h3]; omega) (by omega) (by omega) q1 (F21.trans (Fr.mono q2 (by decide +kernel) (fun h => h))) (q3.imp id (fun h => ⟨h.1, h.2.1, fun h => by omega, h.2.2⟩)))
  rw [p_X12_specialiseNow_eq]
  refine ok_bv (fun μ1 m1 => ok_bv (fun μ2 m2 => ok_bv (fun μ3 m3 => ok_bv (fun μ4 m4 => ok_bv (fun μ5 m5 => ok_bv (fun μ6 m6 => ok_bv (fun μ7 m7 => ok_bv (fun μ8 m8 => ok_bv (fun μ9 m9 => ?_)))))))))
  have hI1 : IM μ1 := by rw [m1]; exact IM_F hI (rpm_0_56 (by rw [e0]; omega))
  have hI2 : IM μ2 := by rw [m2]; exact IM_F hI1 (rtm_0_68 _)
  have hI3 : IM μ3 := by rw [m3]; exact IM_F hI2 (rpm_0_87 (by rw [e0]; omega))
  have hI4 : IM μ4 := by rw [m4]; exact IM_F hI3 (rpm_0_88 (by rw [e0]; omega))
  have hI5 : IM μ5 := by rw [m5]; exact IM_F hI4 (rpm_0_89 (by rw [e0]; omega))
  have hI6 : IM μ6 := by rw [m6]; exact IM_F hI5 (rtm_0_91 _)
  have hI7 : IM μ7 := by rw [m7]; exact IM_F hI6 (rpm_0_110 (by rw [e0]; omega))
  have hI8 : IM μ8 := by rw [m8]; exact IM_F hI7 (rtm_0_96 _)
  have hI9 : IM μ9 := by rw [m9]; exact IM_F hI8 (rtm_0_97 _)
  have F1 : Fr frS0 true μ μ1 := by rw [m1]; exact Fr.put Fr.rf (by decide +kernel)
  have F2 : Fr frS0 true μ μ2 := by rw [m2]; exact Fr.put F1 (by decide +kernel)
  have F3 : Fr frS0 true μ μ3 := by rw [m3]; exact Fr.put F2 (by decide +kernel)
  have F4 : Fr frS0 true μ μ4 := by rw [m4]; exact Fr.put F3 (by decide +kernel)
  have F5 : Fr frS0 true μ μ5 := by rw [m5]; exact Fr.put F4 (by decide +kernel)
  have F6 : Fr frS0 true μ μ6 := by rw [m6]; exact Fr.put F5 (by decide +kernel)
  have F7 : Fr frS0 true μ μ7 := by rw [m7]; exact Fr.put F6 (by decide +kernel)
  have F8 : Fr frS0 true μ μ8 := by rw [m8]; exact Fr.put F7 (by decide +kernel)
  have F9 : Fr frS0 true μ μ9 := by rw [m9]; exact Fr.put F8 (by decide +kernel)
  have z56 : μ9.1 0 56 = 0 := by rw [m9, sF_k (by decide), m8, sF_k (by decide), m7, sF_k (by decide), m6, sF_k (by decide), m5, sF_k (by decide), m4, sF_k (by decide), m3, sF_k (by decide), m2, sF_k (by decide), m1, sF_v]
  have z87 : μ9.1 0 87 = 0 := by rw [m9, sF_k (by decide), m8, sF_k (by decide), m7, sF_k (by decide), m6, sF_k (by decide), m5, sF_k (by decide), m4, sF_k (by decide), m3, sF_v]
  have z88 : μ9.1 0 88 = 0 := by rw [m9, sF_k (by decide), m8, sF_k (by decide), m7, sF_k (by decide), m6, sF_k (by decide), m5, sF_k (by decide), m4, sF_v]
  have z91 : μ9.1 0 91 = 0 := by rw [m9, sF_k (by decide), m8, sF_k (by decide), m7, sF_k (by decide), m6, sF_v]
  have z110 : μ9.1 0 110 = 0 := by rw [m9, sF_k (by decide), m8, sF_k (by decide), m7, sF_v]
  have z0 : (0 : Int32).toNatClampNeg = 0 := by decide
  have n56 : nv μ9 56 = 0 := by unfold nv; rw [z56]; exact z0
  have n110 : nv μ9 110 = 0 := by unfold nv; rw [z110]; exact z0
  have g43 := rgm_0_43 hI
  have m43 := ti_nat (a := μ.1 0 43) (by omega)
  have em43 : nv μ 43 = (μ.1 0 43).toNatClampNeg := rfl
  have g45 := rgm_0_45 hI
  have m45 := ti_nat (a := μ.1 0 45) (by omega)
  have em45 : nv μ 45 = (μ.1 0 45).toNatClampNeg := rfl
  refine ok_bd (ok_pk (k_X12_functionOf _ _ μ9 hI9) (q_functionOf _ _ μ9 hI9)) ?_
  rintro r11 μ10 ⟨_, q1, q2⟩
  have q1 : μ9 = μ10 := Eq.symm q1
  subst q1
  have q2 : r11 = -1 ∨ ∃ f : Nat, r11.toInt = (f : Int) ∧ f < nv μ9 17 ∧ μ9.1 3 f = μ9.1 0 43 := q2
  refine ok_ite (fun _ => ok_bv (fun μ25 em => ok_some ⟨by rw [em]; exact IM_F hI9 (rtm_0_68 _), ?_, Or.inl (by rw [em, sF_v]; decide)⟩)) (fun hm1 => ?_)
  · have f25 : Fr frS0 true μ9 μ25 := by rw [em]; exact Fr.put Fr.rf (by decide +kernel)
    exact Fr.mono (F9.trans f25) (by decide +kernel) (fun h => h)
  obtain ⟨f, f1, f2, f3⟩ := q2.resolve_left hm1
  have hT9 : TW μ9 := by
    unfold TW
    rw [F9.fe (c := 25) (by decide), F9.n (k := 43) (by decide +kernel), F9.n (k := 44) (by decide +kernel), F9.n (k := 45) (by decide +kernel)]; exact hT
  refine ok_bw (k_buildTask 0 (fun _ => True) 1 (by decide) μ9 hI9 (fun k hk => by omega) hT9 (by omega) (fun _ _ _ => trivial) (fun h => absurd rfl h)) ?_
  rintro μ13 ⟨c1, c2, c3', c4, l, c5, ⟨c6, c7⟩, c8⟩
  have c8 := c8 rfl
  rw [F9.n (k := 43) (by decide +kernel)] at c5
  rw [F9.n (k := 45) (by decide +kernel)] at c8
  have t43 : (μ13.1 0 43).toInt = (l.length : Int) := by rw [c3'.v (by decide +kernel), F9.v (by decide +kernel)]; omega
  refine ok_bw (k_layMade c1 c2 (V := fun _ => True) c6 (by omega) (fun x hx => ⟨(c7 x hx).1, by have := (c7 x hx).2; omega⟩) t43) ?_
  rintro μ15 ⟨d1, d2, d3, d4⟩
  have e17 : nv μ15 17 = nv μ9 17 := by rw [d2.n (by decide +kernel), c3'.n (by decide +kernel)]
  have e110 : nv μ15 110 = 0 := by rw [d2.n (by decide +kernel), c3'.n (by decide +kernel)]; exact n110
  have h3f : iv μ15 3 f = (l.length : Int) := by
    rw [d2.a (by decide), c3'.a (by decide)]
    unfold iv; rw [f3, F9.v (by decide +kernel)]; omega
  have em1 : (-1 : Int32).toInt = -1 := by decide
  refine ok_bd (k_newVariant d1 (fun v hv => by omega) d3 (by omega) h3f (by omega) f1 (Or.inl em1)) ?_
  rintro r18 μ17 ⟨w1, w2, w3⟩
  have w1 : IM μ17 := w1
  have w2 : Fr frNv true μ15 μ17 := w2
  have F15 : Fr (frS0 ++ frBT ++ frMd) true μ μ15 := ((Fr.mono F9 (by decide +kernel) (fun h => h)).trans (Fr.mono c3' (by decide +kernel) (fun h => h))).trans (Fr.mono d2 (by decide +kernel) (fun h => h))
  have F17 : Fr frSN true μ μ17 := (Fr.mono F15 (by decide +kernel) (fun h => h)).trans (Fr.mono w2 (by decide +kernel) (fun h => h))
  refine loop FUEL 0 0 μ17 e0 (by omega) (by show 24 < 10000000000 + 0; omega) w1 F17 (w3.imp (fun h => h) (fun ⟨k1, k2, k3, k4, k5, k6⟩ => ⟨⟨?_, ?_, ?_, fun w hw => absurd hw (by omega)⟩, k4, fun _ => by have k3 : nv μ17 110 = nv μ15 110 + 1 := k3; omega, ?_⟩))
  · have k5 : iv μ17 59 (nv μ15 110) = (c3 (iv μ15 67) (nv μ15 118) : Int) := k5
    rw [e110] at k5
    rw [k5, d4, c8, w2.v (by decide +kernel), d2.v (by decide +kernel), c3'.v (by decide +kernel), F9.v (by decide +kernel)]
    omega
  · intro c cM W hA
    have : nv μ17 87 = 0 := by
      unfold nv; rw [w2.v (by decide +kernel), d2.v (by decide +kernel), c3'.v (by decide +kernel), z87]; exact z0
    rw [this]
    show 0 + 0 ≤ _
    omega
  · have : nv μ17 88 = 0 := by
      unfold nv; rw [w2.v (by decide +kernel), d2.v (by decide +kernel), c3'.v (by decide +kernel), z88]; exact z0
    omega
  · have : μ17.1 0 91 = 0 := by rw [w2.v (by decide +kernel), d2.v (by decide +kernel), c3'.v (by decide +kernel)]; exact z91
    show 0 ≤ (μ17.1 0 91).toInt ∧ (μ17.1 0 91).toInt ≤ 200
    rw [this, e0]; omega
def frSP : List (Nat × Nat × Nat) := frSN ++ [(0, 0, 95)]
theorem k_specialise {μ : Mem} (hI : IM μ) (hT : TW μ) (hP : PW μ) (h29 : 0 ≤ iv μ 29 0 ∧ iv μ 29 0 ≤ 12) (h73 : 0 ≤ (μ.1 0 73).toInt ∧ (μ.1 0 73).toInt ≤ 500001) : ok (p_X12_specialise μ) (fun r => IM r.2 ∧ Fr frSP true μ r.2 ∧ (r.2.1 0 95 ≠ 0 → RI r.2)) := by
  rw [p_X12_specialise_eq]
  refine ok_bw (k_specialiseNow hI hT hP h29 h73) ?_
  rintro μ1 ⟨q1, q2, q3⟩
  have b17 : ∀ k0 : Int32, isB k0 = true → (k0 ≠ 0 → RI μ1) → ok (p_X12_specialise_b17 k0 μ1) (fun r => IM r.2 ∧ Fr frSP true μ r.2 ∧ (r.2.1 0 95 ≠ 0 → RI r.2)) := by
    intro k0 hk h0
    rw [p_X12_specialise_b17_eq]
    refine ok_gd hk (ok_bv (fun μ4 em => ?_))
    have f4 : Fr [(0, 0, 95)] true μ1 μ4 := by rw [em]; exact Fr.put Fr.rf (by decide +kernel)
    have hI4 : IM μ4 := by rw [em]; exact IM_F q1 (rtm_0_95 _)
    have F4 : Fr frSP true μ μ4 := (Fr.mono q2 (by decide +kernel) (fun h => h)).trans (Fr.mono f4 (by decide +kernel) (fun h => h))
    have hR : μ4.1 0 95 ≠ 0 → RI μ4 := fun h => (h0 (by rw [em, sF_v] at h; exact h)).fr f4 (by decide +kernel)
    exact ok_ite (fun _ => ok_some ⟨hI4, F4, hR⟩) (fun _ => ok_some ⟨hI4, F4, hR⟩)
  exact ok_ite (fun h => b17 1 (by decide) (fun _ => q3.resolve_left (fun h2 => h2 h))) (fun _ => b17 0 (by decide) (fun h => absurd rfl h))
