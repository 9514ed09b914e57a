/-! SPECIALISING -/
theorem SV.fr {F : List (Nat × Nat × Nat)} {bb : Bool} {μ μ' : Mem} {k : Nat} (h : SV μ k) (f : Fr F bb μ μ') (n : nT F = true) : SV μ' k := by
  unfold nT at n
  simp only [Bool.and_eq_true] at n
  obtain ⟨⟨⟨⟨⟨⟨⟨⟨⟨⟨⟨⟨⟨⟨⟨⟨⟨⟨⟨n46, n47⟩, n48⟩, n49⟩, n50⟩, n51⟩, n52⟩, n53⟩, n54⟩, n59⟩, n62⟩, n63⟩, n64⟩, n45⟩, n87⟩, n88⟩, n89⟩, n90⟩, n93⟩, n110⟩ := n
  obtain ⟨h0, h1, h2, h3⟩ := h
  have ao : Ao μ μ' (nv μ 88) (nv μ 88) (nv μ 110) (nv μ 110) := ⟨Nat.le_refl _, Nat.le_refl _, fun o _ => ⟨f.a n53 o, f.a n54 o⟩, fun v _ => f.a n59 v⟩
  refine ⟨by rw [f.a n59, f.v n45]; exact h0, ?_, ?_, fun w hw => ?_⟩
  · intro c cM W hA
    rw [f.fe n46, f.n n87, f.n n89]; exact h1 c cM W hA
  · rw [f.fe n46, f.n n87, f.n n88]; exact h2
  · rw [f.n n87, f.n n88, f.n n110]
    obtain ⟨g0, b0, e, o, V, g1, g2, g3, g4, g5, g6⟩ := h3 w hw
    refine ⟨g0, b0, e, o, V, by rw [f.a n62]; exact g1, by rw [f.a n63]; exact g2, by rw [f.a n64]; exact g3, g4, ?_, g6.cong ao⟩
    rw [f.a n59]
    exact g5.cong ao (fun j _ _ => ⟨f.a n46 j, f.a n47 j, f.a n48 j, f.a n49 j, f.a n50 j, f.a n51 j, f.a n52 j⟩)
def frH6 : List (Nat × Nat × Nat) := [(0, 0, 65), (0, 0, 66), (0, 0, 67), (0, 0, 68), (0, 0, 69), (0, 0, 111), (0, 0, 90), (0, 0, 92), (0, 0, 93)]
def frH : List (Nat × Nat × Nat) := frH6 ++ [(1, 62, 0), (0, 0, 58)]
def frMV : List (Nat × Nat × Nat) := frH ++ frBN ++ frMG
set_option maxHeartbeats 2000000 in
theorem k_makeVariant {th wo be bh : Nat → Int} {N v : Nat} {μ : Mem} {a1 : Int32} (ha1 : a1.toInt = (v : Int)) (hv : v < nv μ 110) (hI : IM μ) (h56 : nv μ 56 = 0) (hPA : PA th wo be bh N μ) (hVP : VP μ) (h91 : 0 ≤ (μ.1 0 91).toInt ∧ (μ.1 0 91).toInt ≤ 200) (h73 : 0 ≤ (μ.1 0 73).toInt ∧ (μ.1 0 73).toInt ≤ 500001) (hS : SV μ v) : ok (p_X12_makeVariant a1 μ) (fun q => IM q ∧ Fr frMV true μ q ∧ (q.1 0 68 ≠ 0 ∨ (SV q (v + 1) ∧ VP q ∧ 0 ≤ (q.1 0 91).toInt ∧ (q.1 0 91).toInt ≤ 200))) := by
  have e0 : (0 : Int32).toInt = 0 := by decide
  have e1 : (1 : Int32).toInt = 1 := by decide
  have n1 : a1.toNatClampNeg = v := tn_of ha1
  have g110 := rgm_0_110 hI
  have m110 := ti_nat (a := μ.1 0 110) (by omega)
  have em110 : nv μ 110 = (μ.1 0 110).toNatClampNeg := rfl
  have g87 := rgm_0_87 hI
  have m87 := ti_nat (a := μ.1 0 87) (by omega)
  have en87 : nv μ 87 = (μ.1 0 87).toNatClampNeg := rfl
  have hb : inb a1 25 = true := inb_iff.mpr (by omega)
  obtain ⟨f, n, p1, p2, p3, p4, p5, p6, p7, p8, p9⟩ := hVP v hv
  rw [p_X12_makeVariant_eq, n1]
  refine ok_bw (ok_pk (k_X12_begin 1 μ hI (Or.inr e1)) (q_begin 1 μ)) ?_
  rintro μ1 ⟨⟨b1, b2⟩, b69, b65, b66, b67, b68⟩
  have b2 : Fr [(0, 0, 65), (0, 0, 66), (0, 0, 67), (0, 0, 68), (0, 0, 69)] true μ μ1 := b2
  refine ok_bv (fun μ3 m3 => ok_bv (fun μ4 m4 => ok_bv (fun μ5 m5 => ok_gd hb (ok_bv (fun μ6 m6 => ok_gd hb (ok_bv (fun μ7 m7 => ok_gd hb (ok_bv (fun v8 ev8 => ok_bv (fun μ9 m9 => ok_gd hb (ok_bv (fun v10 ev10 => ?_))))))))))))
  have F1 : Fr frH6 true μ μ1 := Fr.mono b2 (by decide +kernel) (fun h => h)
  have F3 : Fr frH6 true μ μ3 := by rw [m3]; exact Fr.put F1 (by decide +kernel)
  have F4 : Fr frH6 true μ μ4 := by rw [m4]; exact Fr.put F3 (by decide +kernel)
  have F5 : Fr frH6 true μ μ5 := by rw [m5]; exact Fr.put F4 (by decide +kernel)
  have F6 : Fr frH6 true μ μ6 := by rw [m6]; exact Fr.put F5 (by decide +kernel)
  have F7 : Fr frH true μ μ7 := by rw [m7]; exact Fr.puta (Fr.mono F6 (by decide +kernel) (fun h => h)) (by decide +kernel)
  have F9 : Fr frH true μ μ9 := by rw [m9]; exact Fr.put F7 (by decide +kernel)
  have x59 : (μ5.1 59 v).toInt = (c3 (fun p => iv μ 60 (210 * v + p)) n : Int) := by
    have : iv μ5 59 v = iv μ 59 v := F5.a (by decide) v
    rw [← p7, ← this]; rfl
  have x87 : μ6.1 0 87 = μ.1 0 87 := F6.v (by decide +kernel)
  have hI3 : IM μ3 := by rw [m3]; exact IM_F b1 (rtm_0_111 _)
  have hI4 : IM μ4 := by rw [m4]; exact IM_F hI3 (rtm_0_90 _)
  have hI5 : IM μ5 := by rw [m5]; exact IM_F hI4 (rtm_0_92 _)
  have hI6 : IM μ6 := by rw [m6]; exact IM_F hI5 (rpm_0_93 (by rw [x59]; omega))
  have hI7 : IM μ7 := by rw [m7]; exact IM_F hI6 (rpm_62 (by rw [x87]; omega))
  have hI9 : IM μ9 := by rw [m9]; exact IM_F hI7 (rpm_0_58 (by rw [e0]; omega))
  have xs : ∀ k, k ≠ 111 → k ≠ 90 → k ≠ 92 → k ≠ 93 → k ≠ 58 → μ9.1 0 k = μ1.1 0 k := fun k h1 h2 h3 h4 h5 => by
    rw [m9, sF_k h5, m7, sF_i (by decide), m6, sF_k h4, m5, sF_k h3, m4, sF_k h2, m3, sF_k h1]
  have x111 : μ9.1 0 111 = a1 := by rw [m9, sF_k (by decide), m7, sF_i (by decide), m6, sF_k (by decide), m5, sF_k (by decide), m4, sF_k (by decide), m3, sF_v]
  have x90 : μ9.1 0 90 = 0 := by rw [m9, sF_k (by decide), m7, sF_i (by decide), m6, sF_k (by decide), m5, sF_k (by decide), m4, sF_v]
  have x92 : μ9.1 0 92 = 0 := by rw [m9, sF_k (by decide), m7, sF_i (by decide), m6, sF_k (by decide), m5, sF_v]
  have x93 : nv μ9 93 = c3 (fun p => iv μ 60 (210 * v + p)) n := by
    refine tn_of ?_
    rw [m9, sF_k (by decide), m7, sF_i (by decide), m6, sF_v]; exact x59
  have x58 : μ9.1 0 58 = 0 := by rw [m9, sF_v]
  have v62 : iv μ9 62 v = (nv μ 87 : Int) := by
    unfold iv; rw [m9, sF_i (by decide), m7, sF_v, x87]; omega
  have o62 : ∀ w, w ≠ v → iv μ9 62 w = iv μ 62 w := by
    intro w hw
    have : iv μ6 62 w = iv μ 62 w := F6.a (by decide) w
    rw [← this]; unfold iv; rw [m9, sF_i (by decide), m7, sF_k hw]
  obtain ⟨S0, S1, S2, S3⟩ := hS
  have ao : Ao μ μ9 (nv μ 88) (nv μ9 88) (nv μ 110) (nv μ9 110) := ⟨by rw [F9.n (k := 88) (by decide +kernel)]; exact Nat.le_refl _, by rw [F9.n (k := 110) (by decide +kernel)]; exact Nat.le_refl _, fun o _ => ⟨F9.a (by decide) o, F9.a (by decide) o⟩, fun w _ => F9.a (by decide) w⟩
  have ag : ∀ j, Ag μ μ9 (nv μ 88) (nv μ 110) j := fun j => ⟨F9.a (by decide) j, F9.a (by decide) j, F9.a (by decide) j, F9.a (by decide) j, F9.a (by decide) j, F9.a (by decide) j, F9.a (by decide) j⟩
  have hT : Th (nv μ 87) (fun u : Nat => (u : Int) < iv μ 59 v) v μ9 [] (fun u : Nat => (u : Int) < iv μ 59 v) := by
    refine ⟨?_, ?_, by omega, by rw [x90, e0]; rfl, by simp, ?_, ?_, by omega, fun w hw => ?_, by rw [F9.n (k := 110) (by decide +kernel)]; exact hv, fun u => by rw [F9.a (c := 59) (by decide)], by rw [F9.a (c := 59) (by decide), F9.v (by decide +kernel)]; exact S0⟩
    · show Blo μ9 _ _ _ (nv μ 87) _ (nv μ9 87)
      rw [F9.n (k := 87) (by decide +kernel)]; exact Blo.nil
    · intro u hu
      rw [x93]
      rw [p7] at hu
      omega
    · intro c cM W hA
      rw [F9.fe (c := 46) (by decide), F9.n (k := 87) (by decide +kernel), F9.n (k := 89) (by decide +kernel)]
      exact S1 c cM W hA
    · rw [F9.fe (c := 46) (by decide), F9.n (k := 87) (by decide +kernel), F9.n (k := 88) (by decide +kernel)]
      exact S2
    · obtain ⟨g0, b0, e, o, V, g1, g2, g3, g4, g5, g6⟩ := S3 w hw
      refine ⟨by rw [F9.n (k := 110) (by decide +kernel)]; exact g0, b0, e, o, V, by rw [o62 w (by omega)]; exact g1, by rw [F9.a (by decide)]; exact g2, by rw [F9.a (by decide)]; exact g3, g4, ?_, g6.cong ao⟩
      rw [F9.a (c := 59) (by decide)]
      exact g5.cong ao (fun j _ _ => ag j)
  have x60 : iv μ9 60 = iv μ 60 := F9.fe (by decide)
  have t8 : v8.toInt = (c3 (fun p => iv μ9 60 (210 * v + p)) n : Int) := by
    rw [x60, ← p7, ev8]; exact F7.a (c := 59) (by decide) v
  have t10 : v10.toInt = (n : Int) - 1 := by
    have h58 : (μ9.1 58 v).toInt = (n : Int) := by
      have : iv μ9 58 v = iv μ 58 v := F9.a (by decide) v
      rw [← p3, ← this]; rfl
    rw [ev10, ti_sub (by omega) (by omega), e1, h58]
  have hPA9 := hPA.fr F9 (by decide +kernel)
  refine mv_build (V := fun u : Nat => (u : Int) < iv μ 59 v) (k := (iv μ 3 f).toNat) ha1 (by omega) p4 hI9 (by rw [F9.n (by decide +kernel)]; exact h56) x58 (by rw [x60]; exact p5) (by rw [x60]; exact p6) (fun u hu => by rw [x60] at hu; rw [p7]; omega) ?_ t8 t10
  intro μ2 l hI2 hH2 F2 h56' hB hl hk
  refine ok_gd hb (ok_bv (fun v12 ev12 => ?_))
  rw [n1] at ev12
  have t12 : v12.toInt = (f : Int) := by
    have : iv μ2 57 v = iv μ 57 v := by rw [F2.a (by decide), F9.a (by decide)]
    rw [← p1, ← this, ev12]; rfl
  have hlen : iv μ 3 f = (l.length : Int) := by
    obtain ⟨⟨Q1, Q2, Q3, Q4⟩, Q5⟩ := hPA.2.2.2.2.2.1
    obtain ⟨cc, n', bg, ln, s1, s2, s3, s4, _⟩ := Q2 f p2
    omega
  refine ok_mono (mv_go (b := nv μ 87) (V := fun u : Nat => (u : Int) < iv μ 59 v) ha1 (by rw [F2.n (by decide +kernel), F9.n (by decide +kernel)]; exact hv) t12 (by rw [F2.n (by decide +kernel), F9.n (by decide +kernel)]; exact p2) hI2 hH2 h56' (hPA9.fr F2 (by decide +kernel)) ?_ ?_ ?_ ?_ ?_ (hT.fr F2 (by decide +kernel)) ?_ ?_ ((hVP.fr F9 (by decide +kernel)).fr F2 (by decide +kernel)) ?_ ?_ ?_ hB hl (by rw [F2.a (by decide), F9.a (by decide)]; exact hlen)) ?_
  · rw [F2.v (by decide +kernel), xs _ (by decide) (by decide) (by decide) (by decide) (by decide)]; exact b65
  · rw [F2.v (by decide +kernel), xs _ (by decide) (by decide) (by decide) (by decide) (by decide)]; exact b66
  · rw [F2.v (by decide +kernel), xs _ (by decide) (by decide) (by decide) (by decide) (by decide)]; exact b67
  · rw [F2.v (by decide +kernel), xs _ (by decide) (by decide) (by decide) (by decide) (by decide)]; exact b68
  · rw [F2.v (by decide +kernel), xs _ (by decide) (by decide) (by decide) (by decide) (by decide), b69]; decide
  · rw [F2.v (by decide +kernel)]; exact x92
  · rw [F2.v (by decide +kernel), F9.v (by decide +kernel)]; exact h91
  · rw [F2.v (by decide +kernel)]; exact x111
  · rw [F2.v (by decide +kernel), F9.v (by decide +kernel)]; exact h73
  · rw [F2.a (by decide)]; exact v62
  · rintro q ⟨q1, q2, q3⟩
    exact ⟨q1, ((Fr.mono F9 (by decide +kernel) (fun h => h)).trans (Fr.mono F2 (by decide +kernel) (fun h => h))).trans (Fr.mono q2 (by decide +kernel) (fun h => h)), q3⟩
