/-! A VARIANT IS MADE: its end -/
/-- k variants are made -/
def SV (q : Mem) (k : Nat) : Prop := iv q 59 0 ≤ (q.1 0 45).toInt ∧ Cst q [] ∧ nv q 88 ≤ Su (fun i => oc (iv q 46 i)) (nv q 87) + k ∧ ∀ w, w < k → Bv q (nv q 88) (nv q 110) (nv q 87) w
def frMF : List (Nat × Nat × Nat) := [(1, 63, 0), (1, 64, 0), (1, 53, 0), (1, 54, 0), (0, 0, 88), (1, 65, 0)]
theorem mv_fin {b : Nat} {Vb : Nat → Prop} {v : Nat} {μ : Mem} {a1 r : Int32} (ha1 : a1.toInt = (v : Int)) (hv : v < 25) (hI : IM μ) (hr : 0 ≤ r.toInt ∧ r.toInt < 100000) (h62 : iv μ 62 v = (b : Int))
    (h : (μ.1 0 68 ≠ 0 ∧ nv μ 88 ≤ 2640) ∨ ∃ (y : Nat) (V1 : Nat → Prop) (R : List Fm), r.toInt = (y : Int) ∧ Mx true b Vb v μ [] [] R [] V1 ∧ Gd μ V1 y ∧ iv μ 30 y ≠ 2) :
    ok (gd (inb a1 25) (bv (sF μ 63 a1.toNatClampNeg (μ.1 0 87)) (fun μ23 => gd (inb a1 25) (bv (sF μ23 64 a1.toNatClampNeg (μ23.1 0 88)) (fun μ24 => gd (inb r 100000) (gd (inb (μ24.1 0 88) 4200) (bv (sF μ24 53 (μ24.1 0 88).toNatClampNeg (μ24.1 30 r.toNatClampNeg)) (fun μ25 => gd (inb r 100000) (gd (inb (μ25.1 0 88) 4200) (bv (sF μ25 54 (μ25.1 0 88).toNatClampNeg (μ25.1 31 r.toNatClampNeg)) (fun μ26 => bv (sF μ26 0 88 ((μ26.1 0 88) + 1)) (fun μ27 => gd (inb a1 25) (bv (sF μ27 65 a1.toNatClampNeg (μ27.1 0 93)) (fun μ28 => some μ28)))))))))))))) (fun q => IM q ∧ Fr frMF true μ q ∧ (q.1 0 68 ≠ 0 ∨ SV q (v + 1))) := by
  have e1 : (1 : Int32).toInt = 1 := by decide
  have n1 : a1.toNatClampNeg = v := tn_of ha1
  have b1 : inb a1 25 = true := inb_iff.mpr (by omega)
  have br : inb r 100000 = true := inb_iff.mpr (by omega)
  have g87 := rgm_0_87 hI
  have m87 := ti_nat (a := μ.1 0 87) (by omega)
  have en87 : nv μ 87 = (μ.1 0 87).toNatClampNeg := rfl
  have g88 := rgm_0_88 hI
  have m88 := ti_nat (a := μ.1 0 88) (by omega)
  have en88 : nv μ 88 = (μ.1 0 88).toNatClampNeg := rfl
  have h88 : nv μ 88 ≤ 2640 := by
    rcases h with h | ⟨y, V1, R, _, hM, _⟩
    · exact h.2
    · exact ((hM.2.2.2.1 rfl).2.room hM.1.1).2.1
  rw [n1]
  refine ok_gd b1 (ok_bv (fun μ23 m23 => ok_gd b1 (ok_bv (fun μ24 m24 => ?_))))
  have hI23 : IM μ23 := by rw [m23]; exact IM_F hI (rpm_63 (by omega))
  have hI24 : IM μ24 := by rw [m24]; exact IM_F hI23 (rtma_64 _ _)
  have x23 : ∀ k, μ23.1 0 k = μ.1 0 k := fun k => by rw [m23, sF_i (by decide)]
  have x24 : ∀ k, μ24.1 0 k = μ.1 0 k := fun k => by rw [m24, sF_i (by decide)]; exact x23 k
  rw [x24]
  have b88 : inb (μ.1 0 88) 4200 = true := inb_iff.mpr (by omega)
  refine ok_gd br (ok_gd b88 (ok_bv (fun μ25 m25 => ?_)))
  have hI25 : IM μ25 := by rw [m25]; exact IM_F hI24 (rtma_53 _ _)
  have x25 : ∀ k, μ25.1 0 k = μ.1 0 k := fun k => by rw [m25, sF_i (by decide)]; exact x24 k
  rw [x25]
  refine ok_gd br (ok_gd b88 (ok_bv (fun μ26 m26 => ok_bv (fun μ27 m27 => ok_gd b1 (ok_bv (fun μ28 m28 => ok_some ?_))))))
  have hI26 : IM μ26 := by rw [m26]; exact IM_F hI25 (rtma_54 _ _)
  have x26 : ∀ k, μ26.1 0 k = μ.1 0 k := fun k => by rw [m26, sF_i (by decide)]; exact x25 k
  have t88 : (μ26.1 0 88 + 1).toInt = (μ.1 0 88).toInt + 1 := by rw [x26, ti_add (by omega) (by omega), e1]
  have hI27 : IM μ27 := by rw [m27]; exact IM_F hI26 (rpm_0_88 (by rw [t88]; omega))
  have hI28 : IM μ28 := by rw [m28]; exact IM_F hI27 (rtma_65 _ _)
  have f23 : Fr frMF true μ μ23 := by rw [m23]; exact Fr.puta Fr.rf (by decide +kernel)
  have f24 : Fr frMF true μ μ24 := by rw [m24]; exact Fr.puta f23 (by decide +kernel)
  have f25 : Fr frMF true μ μ25 := by rw [m25]; exact Fr.puta f24 (by decide +kernel)
  have f26 : Fr frMF true μ μ26 := by rw [m26]; exact Fr.puta f25 (by decide +kernel)
  have f27 : Fr frMF true μ μ27 := by rw [m27]; exact Fr.put f26 (by decide +kernel)
  have f28 : Fr frMF true μ μ28 := by rw [m28]; exact Fr.puta f27 (by decide +kernel)
  refine ⟨hI28, f28, ?_⟩
  rcases h with h | ⟨y, V1, R, hy, hM, hG, h2⟩
  · left; rw [f28.v (by decide +kernel)]; exact h.1
  right
  obtain ⟨T1, T2, T3, T4, T5, T6, T7, T8, T9, T10, T11, T12⟩ := (hM.2.2.2.1 rfl).2
  have ny : r.toNatClampNeg = y := tn_of hy
  rw [ny, ← en88] at m25 m26
  have n88 : nv μ28 88 = nv μ 88 + 1 := by
    refine tn_of ?_
    rw [m28, sF_i (by decide), m27, sF_v, t88]; omega
  have n87 : nv μ28 87 = nv μ 87 := f28.n (by decide +kernel)
  have n110 : nv μ28 110 = nv μ 110 := f28.n (by decide +kernel)
  have o63 : ∀ w, w ≠ v → iv μ28 63 w = iv μ 63 w := by
    intro w hw
    unfold iv
    rw [m28, sF_i (by decide), m27, sF_i (by decide), m26, sF_i (by decide), m25, sF_i (by decide), m24, sF_i (by decide), m23, sF_k hw]
  have v63 : iv μ28 63 v = (nv μ 87 : Int) := by
    unfold iv
    rw [m28, sF_i (by decide), m27, sF_i (by decide), m26, sF_i (by decide), m25, sF_i (by decide), m24, sF_i (by decide), m23, sF_v]; omega
  have o64 : ∀ w, w ≠ v → iv μ28 64 w = iv μ 64 w := by
    intro w hw
    unfold iv
    rw [m28, sF_i (by decide), m27, sF_i (by decide), m26, sF_i (by decide), m25, sF_i (by decide), m24, sF_k hw, m23, sF_i (by decide)]
  have v64 : iv μ28 64 v = (nv μ 88 : Int) := by
    unfold iv
    rw [m28, sF_i (by decide), m27, sF_i (by decide), m26, sF_i (by decide), m25, sF_i (by decide), m24, sF_v, x23]; omega
  have o53 : ∀ o, o ≠ nv μ 88 → iv μ28 53 o = iv μ 53 o ∧ iv μ28 54 o = iv μ 54 o := by
    intro o ho
    unfold iv
    refine ⟨?_, ?_⟩
    · rw [m28, sF_i (by decide), m27, sF_i (by decide), m26, sF_i (by decide), m25, sF_k ho, m24, sF_i (by decide), m23, sF_i (by decide)]
    · rw [m28, sF_i (by decide), m27, sF_i (by decide), m26, sF_k ho, m25, sF_i (by decide), m24, sF_i (by decide), m23, sF_i (by decide)]
  have v53 : iv μ28 53 (nv μ 88) = iv μ 30 y := by
    have h30 : iv μ24 30 y = iv μ 30 y := f24.a (by decide) y
    unfold iv
    rw [m28, sF_i (by decide), m27, sF_i (by decide), m26, sF_i (by decide), m25, sF_v]; exact h30
  have v54 : iv μ28 54 (nv μ 88) = iv μ 31 y := by
    have h31 : iv μ25 31 y = iv μ 31 y := f25.a (by decide) y
    unfold iv
    rw [m28, sF_i (by decide), m27, sF_i (by decide), m26, sF_v]; exact h31
  have ao : Ao μ μ28 (nv μ 88) (nv μ28 88) (nv μ 110) (nv μ28 110) := ⟨by omega, by omega, fun o ho => o53 o (by omega), fun w _ => f28.a (by decide) w⟩
  have ag : ∀ j, Ag μ μ28 (nv μ 88) (nv μ 110) j := fun j => ⟨f28.a (by decide) j, f28.a (by decide) j, f28.a (by decide) j, f28.a (by decide) j, f28.a (by decide) j, f28.a (by decide) j, f28.a (by decide) j⟩
  have T1 : Blo μ (nv μ 88) (nv μ 110) Vb b V1 (nv μ 87) := T1
  have hb := T1.le
  refine ⟨by rw [f28.a (by decide), f28.v (by decide +kernel)]; exact T12, ?_, ?_, fun w hw => ?_⟩
  · intro c cM W hA
    rw [f28.fe (c := 46) (by decide), n87, f28.n (k := 89) (by decide +kernel)]
    exact T6 c cM W hA
  · rw [f28.fe (c := 46) (by decide), n87, n88]; omega
  · by_cases e : w = v
    · subst e
      refine ⟨by omega, b, nv μ 87, nv μ 88, V1, by rw [f28.a (by decide)]; exact h62, v63, v64, by omega, ?_, ?_⟩
      · have hVb : Vb = (fun u : Nat => (u : Int) < iv μ28 59 w) := by
          funext u
          rw [f28.a (by decide)]
          exact propext (T11 u)
        rw [← hVb]
        exact T1.cong ao (fun j _ _ => ag j)
      · refine ⟨by omega, ?_⟩
        rw [v53, v54]
        obtain ⟨_, ⟨h0, _⟩ | ⟨h0, _⟩⟩ := hM.1.2.1 y hG.1.lt
        · obtain ⟨C, c1, c2⟩ := hG.1
          rcases h0 with h0 | h0 | h0
          · exact Or.inl (Or.inl h0)
          · exact Or.inl (Or.inr h0)
          · exact Or.inr ⟨h0, (c2 y c1).2.1 h0⟩
        · exact absurd h0 h2
    · obtain ⟨h0, b0, ee, o, V, h1, h2', h3, h4, h5, h6⟩ := T9 w (by omega)
      refine ⟨by omega, b0, ee, o, V, by rw [f28.a (by decide)]; exact h1, by rw [o63 w e]; exact h2', by rw [o64 w e]; exact h3, by omega, ?_, h6.cong ao⟩
      rw [f28.a (c := 59) (by decide)]
      exact h5.cong ao (fun j _ _ => ag j)
def frMG : List (Nat × Nat × Nat) := fgT ++ frMF ++ [(0, 0, 58)]
set_option maxHeartbeats 2000000 in
theorem mv_go {th wo be bh : Nat → Int} {N b : Nat} {V : Nat → Prop} {v f : Nat} {μ : Mem} {a1 a3 : Int32} (ha1 : a1.toInt = (v : Int)) (hv : v < nv μ 110) (ha3 : a3.toInt = (f : Int)) (hf : f < nv μ 17) (hI : IM μ) (hH : HI μ) (h56 : nv μ 56 ≤ 200) (hPA : PA th wo be bh N μ)
    (h65 : μ.1 0 65 = 0) (h66 : μ.1 0 66 = 0) (h67 : μ.1 0 67 = 0) (h68 : μ.1 0 68 = 0) (h69 : μ.1 0 69 ≠ 0) (hT : Th b V v μ [] V) (h92 : μ.1 0 92 = 0) (h91 : 0 ≤ (μ.1 0 91).toInt ∧ (μ.1 0 91).toInt ≤ 200) (hVP : VP μ) (h111 : μ.1 0 111 = a1) (h73 : 0 ≤ (μ.1 0 73).toInt ∧ (μ.1 0 73).toInt ≤ 500001) (h62 : iv μ 62 v = (b : Int))
    {l : List Nat} (hB : Bu μ l) (hl : ∀ x, x ∈ l → Gd μ V x) (hlen : iv μ 3 f = (l.length : Int)) : ok (p_X12_makeVariant_b137 FUEL a1 a3 0 μ) (fun q => IM q ∧ Fr frMG true μ q ∧ (q.1 0 68 ≠ 0 ∨ (SV q (v + 1) ∧ VP q ∧ 0 ≤ (q.1 0 91).toInt ∧ (q.1 0 91).toInt ≤ 200))) := by
  have e0 : (0 : Int32).toInt = 0 := by decide
  have e1 : (1 : Int32).toInt = 1 := by decide
  have e5 : (5 : Int32).toInt = 5 := by decide
  have hPA' := hPA
  obtain ⟨hBq, hN⟩ := hPA.bq
  obtain ⟨P1, P2, P3, P4, P5, P6, P7⟩ := hPA
  obtain ⟨⟨Q1, Q2, Q3, Q4⟩, Q5⟩ := P6
  obtain ⟨cc, n, bg, ln, s1, s2, s3, s4, s5, s6, s7, s8, s9, s10, s11⟩ := Q2 f hf
  rw [P5] at s9
  rw [P1, P2, P3] at s11
  have hn : n = l.length := by omega
  have g17 := rgm_0_17 hI
  have m17 := ti_nat (a := μ.1 0 17) (by omega)
  have em17 : nv μ 17 = (μ.1 0 17).toNatClampNeg := rfl
  have g110 := rgm_0_110 hI
  have m110 := ti_nat (a := μ.1 0 110) (by omega)
  have em110 : nv μ 110 = (μ.1 0 110).toNatClampNeg := rfl
  have m91 := ti_nat (a := μ.1 0 91) (by omega)
  have ef : a3.toNatClampNeg = f := tn_of ha3
  have bf : inb a3 73 = true := inb_iff.mpr (by omega)
  have loop : ∀ (m i : Nat) (a4 : Int32) (l2 : List Nat) (ρ : Evn) (μ2 : Mem), a4.toInt = (i : Int) → i + l2.length = n → n < m + i → Fr [(0, 0, 58), (1, 41, 0)] true μ μ2 → IM μ2 → Bu μ2 l2 → EV μ2 [(ρ, 0)] → (∀ x, x ∈ l2 → Gd μ V x) → (∀ u x, ρ u = some x → Gd μ V x) → (∀ j, j < i → ∀ u : Nat, iv μ 4 (5 * f + j) = (u : Int) → Dm ρ u) → ok (p_X12_makeVariant_b137 m a1 a3 a4 μ2) (fun q => IM q ∧ Fr frMG true μ q ∧ (q.1 0 68 ≠ 0 ∨ (SV q (v + 1) ∧ VP q ∧ 0 ≤ (q.1 0 91).toInt ∧ (q.1 0 91).toInt ≤ 200))) := by
    intro m
    induction m with
    | zero => intro i a4 l2 ρ μ2 _ _ h; omega
    | succ m ih =>
      intro i a4 l2 ρ μ2 h4 hi hm F2 hI2 hB2 hE2 hl2 hρ hD
      rw [p_X12_makeVariant_b137_s, ef]
      have x3 : (μ2.1 3 f).toInt = (n : Int) := by
        have := F2.a (c := 3) (by decide) f
        show iv μ2 3 f = _
        rw [this, s4]
      have G2 : Gr μ μ2 := F2.gr (by decide +kernel)
      refine ok_gd bf (ok_ite (fun hle => ?_) (fun hle => ?_))
      · rw [ti_le] at hle
        have hM2 : Mx true b V v μ2 [] [] [(ρ, 0)] [] V := by
          refine ⟨⟨hI2, hH.fr F2 (by decide +kernel), ⟨by rw [F2.v (by decide +kernel), h65]; exact e0, trivial⟩, ⟨by rw [F2.v (by decide +kernel), h66]; exact e0, trivial⟩, hE2⟩, ⟨fun x hx => absurd hx (by simp), fun e he u x hu => ?_⟩, by rw [F2.v (by decide +kernel)]; exact h68, fun _ => ⟨by rw [F2.v (by decide +kernel)]; exact h69, hT.fr F2 (by decide +kernel)⟩, fun h => absurd h (by decide)⟩
          rw [List.mem_singleton.mp he] at hu
          exact (hρ u x hu).gr G2
        have x5 : (μ2.1 5 f).toInt = (bg : Int) := by
          have h2 := F2.a (c := 5) (by decide) f
          show iv μ2 5 f = _
          rw [h2, s6]
        refine ok_gd bf (ok_bw (hM2.push (by simp) (w := 0) (a := bg) (c := 0) e0 x5 e0) ?_)
        rintro μ14 ⟨f14, hM14⟩
        have hF : Fo th wo be (Dm ρ) 1 bg (bg + ln) := by
          refine s11.mono _ ?_
          rintro u ⟨j, hj, hu⟩
          exact hD j (by omega) u hu
        have l1 := hF.le
        have hbb := hBq.at hF.sh s9
        have hsz : sz bh bg = ln := by unfold sz; rw [hbb]; omega
        have F14 : Fr ([(0, 0, 58), (1, 41, 0)] ++ frPu) true μ μ14 := (Fr.mono F2 (by decide +kernel) (fun h => h)).trans (Fr.mono f14 (by decide +kernel) (fun h => h))
        have hSn : Sp4 bh ((0, bg, 0) :: []) = 4 * ln := by simp [Sp4, stp, hsz]
        have hp : pot bh (0, bg, 0) = ln := by simp [pot, hsz]
        have hcl : cl true μ14 = 200 - nv μ 91 := by unfold cl; rw [F14.n (k := 91) (by decide +kernel)]; rfl
        have hc73 : c73 true = 900000 := rfl
        have hIx : Ix true b V v th wo be bh N μ14 ((0, bg, 0) :: []) [] [(ρ, 0)] [] V (4 * ln + 330 * (200 - nv μ 91)) := by
          refine ⟨hM14, ⟨Nat.le_refl _, Or.inl ⟨rfl, bg + ln, s9, hF, fun z => ⟨⟨_, rfl, by simp⟩, rfl⟩⟩⟩, ?_, hPA'.fr F14 (by decide +kernel), ⟨⟨_, rfl, rfl⟩, fun _ => ?_, fun h => absurd h (by decide)⟩, by rw [hSn, hcl], by rw [(F14.heq (by decide +kernel)).1, F14.n (by decide +kernel)]; omega, by rw [F14.v (by decide +kernel)]; exact h73.1, by rw [F14.v (by decide +kernel)]; omega⟩
          · show (if (0, bg, (0 : Int)).1 = 5 then _ else Bd bh [] (0 + pot bh (0, bg, 0)) [(ρ, 0)] 0)
            rw [if_neg (by simp)]
            exact ⟨_, rfl, by simp only []; omega⟩
          · rw [F14.v (k := 92) (by decide +kernel), F14.v (k := 91) (by decide +kernel), F14.v (k := 111) (by decide +kernel), F14.n (k := 110) (by decide +kernel), h92, e0, h111, ha1]
            exact ⟨by simp, by simp, h91.1, h91.2, hVP.fr F14 (by decide +kernel), by omega, by omega⟩
        refine ok_bw (k_goAll hIx) ?_
        rintro μ16 ⟨q1, q2, q3⟩
        have q2 : Fr fgT true μ14 μ16 := q2
        have F16 : Fr frMG true μ μ16 := (Fr.mono F14 (by decide +kernel) (fun h => h)).trans (Fr.mono q2 (by decide +kernel) (fun h => h))
        refine ok_ite (fun h0 => ?_) (fun h0 => ok_some ⟨q1, F16, Or.inl h0⟩)
        obtain ⟨z, R, V', r1, r2, r3, r4, r5, r6, r7⟩ := q3.resolve_left (fun h => h.1 h0)
        obtain ⟨d1, d2, d3, d4, d5, d6, d7⟩ := r3.2.1 rfl
        refine ok_bd r1.gone ?_
        rintro r20 μ19 ⟨g1, g2, g3, g4, g5, g6, g7, g8⟩
        have g1 : r20.toInt = (z : Int) := g1
        have g2 : Fr fdT true μ16 μ19 := g2
        have g4 : nv μ19 56 = nv μ16 56 := g4
        have g5 : nv μ19 89 = nv μ16 89 := g5
        have g7 : Gd μ19 V' z := g7
        have g8 : Mx true b V v μ19 [] [] R [] V' := g8
        refine ok_bd (k_lift g8 (by omega) g1 g7) ?_
        rintro r22 μ21 ⟨⟨l1, l2, l3⟩, l4, l5⟩
        have l1 : IM μ21 := l1
        have l2 : Fr fdT true μ19 μ21 := l2
        have l4 : 0 ≤ r22.toInt := l4
        have l5 : r22.toInt < 100000 := l5
        have F21 : Fr frMG true μ μ21 := (F16.trans (Fr.mono g2 (by decide +kernel) (fun h => h))).trans (Fr.mono l2 (by decide +kernel) (fun h => h))
        have F21' : Fr (fgT ++ [(0, 0, 58)]) true μ μ21 := (((Fr.mono F14 (by decide +kernel) (fun h => h)).trans (Fr.mono q2 (by decide +kernel) (fun h => h))).trans (Fr.mono g2 (by decide +kernel) (fun h => h))).trans (Fr.mono l2 (by decide +kernel) (fun h => h))
        refine ok_mono (mv_fin (b := b) (Vb := V) ha1 (by omega) l1 ⟨l4, l5⟩ (by rw [F21'.a (by decide +kernel)]; exact h62) (l3.imp (fun h => h) (fun ⟨y, V1, k1, k2, k3, k4, k5, k6, k7⟩ => ⟨y, V1, R, k1, k2, k5, k6⟩))) ?_
        rintro q ⟨w1, w2, w3⟩
        refine ⟨w1, F21.trans (Fr.mono w2 (by decide +kernel) (fun h => h)), w3.imp (fun h => h) (fun h => ⟨h, ((d5.fr g2 (by decide +kernel)).fr l2 (by decide +kernel)).fr w2 (by decide +kernel), ?_⟩)⟩
        rw [w2.v (k := 91) (by decide +kernel), l2.v (k := 91) (by decide +kernel), g2.v (k := 91) (by decide +kernel)]
        exact ⟨d3, d4⟩
      · rw [ti_le] at hle
        have t5 : ((5 : Int32) * a3).toInt = 5 * (f : Int) := by rw [ti_mul (by rw [e5, ha3]; omega) (by rw [e5, ha3]; omega), e5, ha3]
        have t5k : ((5 : Int32) * a3 + a4).toInt = 5 * (f : Int) + i := by rw [ti_add (by omega) (by omega), t5, h4]
        have n5k : ((5 : Int32) * a3 + a4).toNatClampNeg = 5 * f + i := tn_of (by omega)
        rw [n5k]
        have hvv := s10 i (by omega)
        obtain ⟨u, hu⟩ : ∃ u : Nat, iv μ 4 (5 * f + i) = (u : Int) := ⟨(iv μ 4 (5 * f + i)).toNat, by omega⟩
        have hu14 : u < 14 := by omega
        have x4 : (μ2.1 4 (5 * f + i)).toInt = (u : Int) := by
          have := F2.a (c := 4) (by decide) (5 * f + i)
          show iv μ2 4 (5 * f + i) = _
          rw [this, hu]
        cases l2 with
        | nil => simp only [List.length_nil] at hi; omega
        | cons x l2 =>
          simp only [List.length_cons] at hi
          refine ok_gd (inb_iff.mpr (by omega)) (ok_bd (t_unbuild hI2 hB2) ?_)
          rintro r30 μ29 ⟨c1, c2, c3, c4⟩
          have c1 : r30.toInt = (x : Int) := c1
          have c2 : IM μ29 := c2
          have c3 : Fr [(0, 0, 58)] true μ2 μ29 := c3
          have c4 : Bu μ29 l2 := c4
          have nu : (μ2.1 4 (5 * f + i)).toNatClampNeg = u := tn_of x4
          rw [nu]
          refine ok_gd (inb_iff.mpr (by omega)) (ok_bv (fun μ31 em => ok_bv (fun v32 ev => ?_)))
          have f31 : Fr [(1, 41, 0)] true μ29 μ31 := by rw [em]; exact Fr.puta Fr.rf (by decide +kernel)
          have hI31 : IM μ31 := by rw [em]; exact IM_F c2 (rtma_41 _ _)
          have hE29 := hE2.fr c3 (by decide +kernel)
          have hE31 : EV μ31 [(ud ρ u (some x), 0)] := by
            have h9 := ev_set hE29 hu14 (a := r30) (o := some x) (Or.inr ⟨x, rfl, c1⟩)
            have hz : 14 * ([] : List Fm).length + u = u := by simp
            rw [hz] at h9
            rw [em]; exact h9
          refine ih (i + 1) v32 l2 (ud ρ u (some x)) μ31 (by rw [ev, ti_add (by omega) (by omega), e1, h4]; omega) (by omega) (by omega) ((F2.trans (Fr.mono c3 (by decide +kernel) (fun h => h))).trans (Fr.mono f31 (by decide +kernel) (fun h => h))) hI31 (c4.fr f31 (by decide +kernel) (fun k => by simp [hit])) hE31 (fun y hy => hl2 y (by simp [hy])) (fun w y hw => ?_) (fun j hj w hw => ?_)
          · unfold ud at hw
            by_cases e2 : w = u
            · have : x = y := by simpa [e2] using hw
              rw [← this]; exact hl2 x (by simp)
            · have hw : ρ w = some y := by simpa [e2] using hw
              exact hρ w y hw
          · by_cases e2 : w = u
            · exact ⟨x, by unfold ud; rw [if_pos e2]⟩
            · by_cases e3 : j = i
              · rw [e3, hu] at hw; omega
              · obtain ⟨y, hy⟩ := hD j (by omega) w hw
                exact ⟨y, by unfold ud; rw [if_neg e2]; exact hy⟩
  refine loop FUEL 0 0 l (fun _ => none) μ e0 (by omega) (by show _ < 10000000000 + _; omega) Fr.rf hI hB ⟨by rw [h67, e0]; simp, by simp, fun u x hu => absurd hu (by simp), trivial⟩ hl (fun u x hu => absurd hu (by simp)) (fun j hj => absurd hj (by omega))
