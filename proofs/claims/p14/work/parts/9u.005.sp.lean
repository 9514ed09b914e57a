section
theorem e9_num {P : Nat} {C : List Th3} {G : List Fn5} {df : Nat} {T : List Th3} {o r : Nat} {N : List Int32} {i c : Nat} {s bt : Int32} (hF : Fn9 G T o) (h1 : T[i]? = some (s, bt, 0)) (h2 : C[c]? = some (0, s, bt)) (h3 : s = 0 ∨ s = 1) : E9 P C G df o (r + 1) 1 N i (i + 1) c (c + 1) := by
  intro β K Post μx μm It Bk cl v b a h D m bc ob a1 nn fu X Y W hA hpc hbu hh hbc hob hX hY ok bad
  have hD : D ≤ 12 := W.1.2.2.2.2.2.1.2.2.2
  obtain ⟨t7, t8, t9⟩ := fn_at W.pn hF i _ h1
  have t7 : μm.1 7 (o + i) = s := t7
  have t8 : μm.1 8 (o + i) = bt := t8
  obtain ⟨sn, hsn, hsn2⟩ : ∃ sn : Nat, (sn = 0 ∨ sn = 1) ∧ s = nI sn := by
    rcases h3 with e | e
    · exact ⟨0, Or.inl rfl, e⟩
    · exact ⟨1, Or.inr rfl, e⟩
  obtain ⟨r', A1, _, A3, A4⟩ := hA
  have A1 : o + i = r' := A1
  subst A1
  have x1 : X + 1 ≤ 1000000 := by omega
  have W : W9 P C G v b a h D N (m + 1) bc ob μx μm It Bk cl := W
  obtain ⟨q0, z0, fx0, fm0, S0, z65, pc0, b5, bu0, stp, ez0⟩ := W.beg h h2 hpc hbu x1
  have g8 : z0.1 8 (o + i) = bt := by rw [fm0.2.2.1 8 _ (by decide) (by omega) (by omega) (by omega)]; exact t8
  refine op_run W hbu x1 (A := fun q => q = sF (sL q0 36 h (s_X0_make (nI sn) bt)) 30 7 (q0.1 30 7 + 1)) (B := fun z => ∃ (z4 : Mem) (y : Nat) (r : Int32), Nn7 z0 z4 y (nI sn) bt ∧ r.toInt = (y : Int) ∧ z = sF (sF z4 40 h r) 0 66 (z4.1 0 66 + 1)) (stp ?_) ?_ ?_
  · show pk (bw (p_X8_push (s_X0_make s bt) q0) (fun μ10 => some μ10)) _
    rw [hsn2]
    exact pk_bw (c_push _ S0.1 (by omega)) (fun q hq => pk_some hq)
  · rw [ez0, A3]
    have := m_work_num (μ := z0) (p := o + i) (h := h) (a2 := μm.1 38 m) (a3 := μm.1 39 m) hsn A4 (by rw [fm0.2.2.1 7 _ (by decide) (by omega) (by omega) (by omega), t7, hsn2]) S0.2.1
    rw [g8] at this
    exact this
  · rintro q z n fu hq ⟨z4, y, r, f1, f2, f3⟩
    obtain ⟨W', F'⟩ := W.num fx0 fm0 (Nat.le_refl _) S0.1 S0.2.1 z65 (by omega) f1 f2 (by omega) hq f3
    refine ok q z It Bk cl (a1 + 1) n fu W' (F' _) ?_ ((bu0.same ?_ ?_).mono (by omega) (by omega))
    · rw [hq, sF_i (by decide)]; exact pc0
    · rw [hq, sF_i (by decide)]; rfl
    · rw [hq, sF_k (by decide)]; rfl
theorem va_109 {a : Int32} (h : isVa a = true) : ∃ k : Nat, k < 14 ∧ (a - 109).toInt = (k : Int) ∧ (a - 109).toNatClampNeg = k := by
  have e1 : (109 : Int32).toInt = 109 := by decide
  have e2 : (122 : Int32).toInt = 122 := by decide
  unfold isVa at h
  by_cases h1 : a < 109
  · rw [decide_eq_true h1] at h; simp at h
  · by_cases h2 : 122 < a
    · rw [decide_eq_true h2] at h; simp at h
    · rw [ti_lt, e1] at h1
      rw [ti_lt, e2] at h2
      have e : (a - 109).toInt = a.toInt - 109 := by rw [ti_sub (by omega) (by omega), e1]
      exact ⟨(a.toInt - 109).toNat, by omega, by rw [e]; omega, tn_of (by rw [e]; omega)⟩
theorem e9_var {P : Nat} {C : List Th3} {G : List Fn5} {df : Nat} {T : List Th3} {o r : Nat} {N : List Int32} {i c : Nat} {a0 : Int32} (hF : Fn9 G T o) (h1 : T[i]? = some (4, a0 - 109, 0)) (h2 : C[c]? = some (1, Int32.ofNat (slt N a0), 0)) (h3 : a0 ∈ N) (hN : N.length ≤ 25) : E9 P C G df o (r + 1) 1 N i (i + 1) c (c + 1) := by
  intro β K Post μx μm It Bk cl v b a h D m bc ob a1 nn fu X Y W hA hpc hbu hh hbc hob hX hY ok bad
  have hD : D ≤ 12 := W.1.2.2.2.2.2.1.2.2.2
  obtain ⟨t7, t8, t9⟩ := fn_at W.pn hF i _ h1
  have t7 : μm.1 7 (o + i) = 4 := t7
  have t8 : μm.1 8 (o + i) = a0 - 109 := t8
  obtain ⟨r', A1, _, A3, A4⟩ := hA
  have A1 : o + i = r' := A1
  subst A1
  have x1 : X + 1 ≤ 1000000 := by omega
  have W : W9 P C G v b a h D N (m + 1) bc ob μx μm It Bk cl := W
  obtain ⟨q0, z0, fx0, fm0, S0, z65, pc0, b5, bu0, stp, ez0⟩ := W.beg h h2 hpc hbu x1
  have hva : isVa a0 = true := W.1.2.2.2.2.1 a0 h3
  obtain ⟨k, hk, hk2, hk3⟩ := va_109 hva
  obtain ⟨x, w, d, c1, c2, c3⟩ := W.1.2.2.2.1 a0 h3
  obtain ⟨d1, d2, d3, _⟩ := W.1.2.2.2.2.2.1
  have hsl := slt_lt h3
  have l37 : q0.2.1 37 (32 * D + slt N a0) = μx.2.1 37 (32 * D + slt N a0) := fx0.2.2.2.1 37 _ (by decide) (by decide) (by omega)
  have l41 : ∀ k, z0.1 41 k = μm.1 41 k := fun k => fm0.2.2.1 41 k (by decide) (by omega) (by omega) (by omega)
  have hv : Va7 q0 z0 (q0.2.1 37 (32 * D + slt N a0)) x w d := by rw [l37]; exact c2.gr fx0.2.2.2.2 fm0.2.2.2
  refine op_run W hbu x1 (A := fun q => q = sF (sL q0 36 h (q0.2.1 37 (32 * D + slt N a0))) 30 7 (q0.1 30 7 + 1)) (B := fun z => z = sF (sF z0 40 h (z0.1 41 (14 * D + (a0 - 109).toNatClampNeg))) 0 66 (z0.1 0 66 + 1)) (stp ?_) ?_ ?_
  · show pk (bd (p_X8_varAt (Int32.ofNat (slt N a0)) q0) (fun r14 μ13 => bw (p_X8_push r14 μ13) (fun μ15 => some μ15))) _
    refine pk_bdv (r0 := q0.2.1 37 (32 * D + slt N a0)) (μ0 := q0) (c_varAt (D := D) (s := slt N a0) (by rw [fx0.2.2.1 10 (by decide) (by decide)]; exact d1) (by exact Int32.toInt_ofNat_of_lt (by omega)) (by omega)) ?_
    exact pk_bw (c_push _ S0.1 (by omega)) (fun q hq => pk_some hq)
  · rw [ez0, A3]
    have e8 : z0.1 8 (o + i) = a0 - 109 := by rw [fm0.2.2.1 8 _ (by decide) (by omega) (by omega) (by omega)]; exact t8
    refine pk_mono (m_work_var (μ := z0) (p := o + i) (h := h) (x := 14 * D + (a0 - 109).toNatClampNeg) (a2 := μm.1 38 m) (a3 := μm.1 39 m) A4 (by rw [fm0.2.2.1 7 _ (by decide) (by omega) (by omega) (by omega)]; exact t7) S0.2.1 ?_) (fun q hq => hq)
    have b67 : (z0.1 0 67).toInt = ((14 * D : Nat) : Int) := by rw [fm0.2.1 67 (by decide) (by decide) (by decide) (by decide) (by decide)]; exact d2
    rw [e8, ti_add (by omega) (by omega), b67, hk2, hk3]; omega
  · intro q z n fu hq hz
    obtain ⟨W', F'⟩ := W.val fx0 fm0 (Nat.le_refl _) S0.1 S0.2.1 z65 hv c3 (by rw [l41]; exact c1) (by omega) hq hz
    refine ok q z It Bk cl (a1 + 1) n fu W' (F' _) ?_ ((bu0.same ?_ ?_).mono (by omega) (by omega))
    · rw [hq, sF_i (by decide)]; exact pc0
    · rw [hq, sF_i (by decide)]; rfl
    · rw [hq, sF_k (by decide)]; rfl
theorem m_work_two {μ : Mem} {p m h : Nat} {s a2 a3 : Int32} {k : Int32} (ha : a2.toInt = (p : Int)) (h7 : μ.1 7 p = s) (hs : (s = 7 ∧ k = 2) ∨ (s = 11 ∧ k = 3)) (hp8 : p < 2147483646) (h65 : (μ.1 0 65).toInt = (m : Int)) : pk (p_X12_goOne 0 a2 a3 μ) (fun z => Qm8 h m μ z ∧ (z.1 0 65).toInt = ((m + 2 : Nat) : Int) ∧ z.1 37 m = k ∧ (z.1 38 m).toInt = (p : Int) ∧ z.1 37 (m + 1) = 0 ∧ (z.1 38 (m + 1)).toInt = ((p + 1 : Nat) : Int) ∧ z.1 0 66 = μ.1 0 66) := by
  have e1 : (1 : Int32).toInt = 1 := by decide
  rw [p_X12_goOne_eq, if_pos rfl, p_X12_work_eq, tn_of ha, h7]
  have two : pk (p_X12_work_b86 a2 k μ) (fun z => Qm8 h m μ z ∧ (z.1 0 65).toInt = ((m + 2 : Nat) : Int) ∧ z.1 37 m = k ∧ (z.1 38 m).toInt = (p : Int) ∧ z.1 37 (m + 1) = 0 ∧ (z.1 38 (m + 1)).toInt = ((p + 1 : Nat) : Int) ∧ z.1 0 66 = μ.1 0 66) := by
    rw [p_X12_work_b86_eq]
    refine pk_bw (m_push k a2 0 h65) (fun μ2 h2 => ?_)
    obtain ⟨m2, hm6⟩ := h2
    have c2 : ∀ i l, μ2.1 i l = if i = 0 ∧ l = 65 then μ.1 0 65 + 1 else if i = 39 ∧ l = m then 0 else if i = 38 ∧ l = m then a2 else if i = 37 ∧ l = m then k else μ.1 i l := by
      intro i l
      rw [m2, sF_at, sF_at, sF_at, sF_at]
    have i65 : (μ2.1 0 65).toInt = ((m + 1 : Nat) : Int) := by rw [c2, if_pos ⟨rfl, rfl⟩, ti_add (by omega) (by omega), h65, e1]; omega
    refine pk_bw (m_push 0 (a2 + 1) 0 i65) (fun μ3 h3 => pk_some ?_)
    obtain ⟨m3, _⟩ := h3
    have c3 : ∀ i l, μ3.1 i l = if i = 0 ∧ l = 65 then μ2.1 0 65 + 1 else if i = 39 ∧ l = m + 1 then 0 else if i = 38 ∧ l = m + 1 then a2 + 1 else if i = 37 ∧ l = m + 1 then 0 else μ2.1 i l := by
      intro i l
      rw [m3, sF_at, sF_at, sF_at, sF_at]
    refine ⟨?_, ?_, ?_, ?_, ?_, ?_, ?_⟩
    · rw [m3, m2]; exact (Qm8.act (Nat.le_refl _) _ _ _ _).tr (Qm8.act (by omega) _ _ _ _)
    · rw [c3, if_pos ⟨rfl, rfl⟩, ti_add (by omega) (by omega), i65, e1]; omega
    · rw [c3, if_neg (by omega), if_neg (by omega), if_neg (by omega), if_neg (by omega), c2, if_neg (by omega), if_neg (by omega), if_neg (by omega), if_pos ⟨rfl, rfl⟩]
    · rw [c3, if_neg (by omega), if_neg (by omega), if_neg (by omega), if_neg (by omega), c2, if_neg (by omega), if_neg (by omega), if_pos ⟨rfl, rfl⟩]; exact ha
    · rw [c3, if_neg (by omega), if_neg (by omega), if_neg (by omega), if_pos ⟨rfl, rfl⟩]
    · rw [c3, if_neg (by omega), if_neg (by omega), if_pos ⟨rfl, rfl⟩, ti_add (by omega) (by omega), ha, e1]; omega
    · rw [c3, if_neg (by omega), if_neg (by omega), if_neg (by omega), if_neg (by omega), c2, if_neg (by omega), if_neg (by omega), if_neg (by omega), if_neg (by omega)]
  refine pk_bw (pk_gd (fun _ => pk_bvy (fun v1 q1 => ?_))) (fun q hq => pk_some hq)
  rw [q1]
  rcases hs with ⟨e, e2⟩ | ⟨e, e2⟩
  · subst e; subst e2
    rw [if_neg (by decide), if_neg (by decide), if_neg (by decide), if_pos rfl, p_X12_work_b74_eq, if_pos rfl]; exact two
  · subst e; subst e2
    rw [if_neg (by decide), if_neg (by decide), if_neg (by decide), if_neg (by decide), if_pos rfl, p_X12_work_b74_eq, if_neg (by decide)]; exact two
end

section
theorem W9.vars {P : Nat} {C : List Th3} {G : List Fn5} {v b a h D m bc ob : Nat} {N N2 : List Int32} {μx μm q z : Mem} {It Bk : List Nat} {cl : Nat → Prop} (W : W9 P C G v b a h D N m bc ob μx μm It Bk cl) (q1 : q.1 = μx.1) (q2 : ∀ i k, i ≠ 37 → q.2.1 i k = μx.2.1 i k) (q3 : q.2.2 = μx.2.2) (z1 : ∀ i k, i ≠ 41 → z.1 i k = μm.1 i k) (hV : Vr7 q z D N2) (hN : ∀ c, c ∈ N2 → isVa c = true) : W9 P C G v b a h D N2 m bc ob q z It Bk cl := by
  obtain ⟨⟨hR, hB, hS, _, _, ⟨d1, d2, d3, d4⟩, ⟨o1, o2, o3⟩, hm, ⟨u1, u2, u3⟩, hL, hA⟩, hP, hPa, hc, hb, hs, hq⟩ := W
  have gx : Gs7 μx q := gs_same (by rw [q1]) (fun k => q2 31 k (by decide)) (fun k => q2 32 k (by decide)) (fun k => by rw [q1]) (fun k => by rw [q1])
  have gz : Gh7 μm z := gh_same (z1 0 56 (by decide)) (fun i k a1 a2 => z1 i k (by omega))
  refine ⟨⟨hR.of (fun i k _ => by rw [q1]) (fun k _ => by rw [q1]) (fun i k hi => q2 i k (by omega)) (fun k _ => z1 0 k (by decide)) (fun i k a1 a2 _ _ => z1 i k (by omega)), fun x hx => by rw [q1]; exact hB x hx, hS.of gx gz (by rw [q1]) (z1 0 66 (by decide)) (fun k _ => q2 36 k (by decide)) (fun k _ => z1 40 k (by decide)), hV, hN, ⟨by rw [q1]; exact d1, by rw [z1 0 67 (by decide)]; exact d2, by rw [z1 0 92 (by decide)]; exact d3, d4⟩, ⟨by rw [q1]; exact o1, by rw [q1]; exact o2, by rw [z1 0 90 (by decide)]; exact o3⟩, by rw [z1 0 65 (by decide)]; exact hm, ⟨by rw [q1, z1 0 91 (by decide)]; exact u1, by rw [q1, z1 0 96 (by decide)]; exact u2, by rw [q1, z1 0 97 (by decide)]; exact u3⟩, fun k hk => by rw [q1, z1 29 k (by decide)]; exact hL k hk, by rw [z1 0 111 (by decide), q1]; exact hA⟩, hP.of (by rw [q3]) (fun i k _ _ => by rw [q1]) (fun k _ => z1 0 k (by decide)) (fun i k a1 a2 => z1 i k (by omega)) (bh_cong hP.2.2.2.2.2.2.2.2.2 (z1 0 18 (by decide)) (fun k => z1 9 k (by decide)) (fun k => z1 10 k (by decide))), hPa.of (by rw [q1]) (fun i k a1 a2 => ⟨by rw [q1], q2 i k (by omega)⟩) (fun u => by rw [q1]) (z1 0 110 (by decide)) (fun i k hi => z1 i k (by omega)) (fun u _ => by rw [q1]) (z1 0 111 (by decide)), fun x hx => by rw [q1]; exact hc x hx, by rw [q1]; exact hb, hs.of q3, fun u hu => ?_⟩
  rw [q1, hq u hu]
  unfold Ct9
  have e46 : z.1 46 = μm.1 46 := funext (fun k => z1 46 k (by decide))
  have e48 : z.1 48 = μm.1 48 := funext (fun k => z1 48 k (by decide))
  rw [e46, e48]
theorem e9_let {P : Nat} {C : List Th3} {G : List Fn5} {df : Nat} {T : List Th3} {o r : Nat} {N : List Int32} {i m' j c d e : Nat} {a0 : Int32} (hF : Fn9 G T o) (h1 : T[i]? = some (11, a0 - 109, 2)) (h2 : isVa a0 = true ∧ N.length < 25) (a' : Cd6 (at5 T) (at5 C) r 1 N (i + 1) m' c d) (ia : E9 P C G df o r 1 N (i + 1) m' c d) (h3 : C[d]? = some (12, Int32.ofNat N.length, 0)) (b' : Cd6 (at5 T) (at5 C) r 1 (a0 :: N) m' j (d + 1) e) (ib : E9 P C G df o r 1 (a0 :: N) m' j (d + 1) e) : E9 P C G df o (r + 1) 1 N i j c e := by
  intro β K Post μx μm It Bk cl v b a h D m bc ob a1 nn fu X Y W hA hpc hbu hh hbc hob hX hY ok bad
  have e1 : (1 : Int32).toInt = 1 := by decide
  have hD : D ≤ 12 := W.1.2.2.2.2.2.1.2.2.2
  have la := a'.le
  have lb := b'.le
  have hil : i < T.length := lt_some h1
  have hml := cd_len a' hil
  have hjl := cd_len b' hml
  have hol := fn_len hF
  have htot := W.tot
  obtain ⟨k, hk, hk2, hk3⟩ := va_109 h2.1
  obtain ⟨r', A1, _, A3, A4⟩ := hA
  have A1 : o + i = r' := A1
  subst A1
  obtain ⟨t7, t8, _⟩ := fn_at W.pn hF i _ h1
  have t7 : μm.1 7 (o + i) = 11 := t7
  have sh1 : Sh (iv μm 9) 1 (o + (i + 1)) (o + m') := cd_sh (W.t9 hF) a'
  have lsh := sh1.le
  have q1 : Qm8 h m μm (sF μm 0 65 (μm.1 0 65 - 1)) := Qm8.F _ (by omega)
  have c1 : ∀ i l, i ≠ 0 → (sF μm 0 65 (μm.1 0 65 - 1)).1 i l = μm.1 i l := fun i l hi => by rw [sF_i hi]
  have x65 : ((sF μm 0 65 (μm.1 0 65 - 1)).1 0 65).toInt = (m : Int) := by
    have := ti_hi (μm.1 0 65)
    have h5 := W.x65
    rw [sF_v, ti_sub (by omega) (by omega), h5, e1]; omega
  have x66 : (sF μm 0 65 (μm.1 0 65 - 1)).1 0 66 = μm.1 0 66 := by rw [sF_k (by decide)]
  generalize hz0 : sF μm 0 65 (μm.1 0 65 - 1) = z0 at q1 c1 x65 x66
  refine gx_step W.x65 W.x68.1 (A := fun z => Qm8 h m z0 z ∧ (z.1 0 65).toInt = ((m + 2 : Nat) : Int) ∧ z.1 37 m = 3 ∧ (z.1 38 m).toInt = ((o + i : Nat) : Int) ∧ z.1 37 (m + 1) = 0 ∧ (z.1 38 (m + 1)).toInt = ((o + i + 1 : Nat) : Int) ∧ z.1 0 66 = z0.1 0 66) ?_ ?_
  · rw [hz0, A3]
    exact m_work_two A4 (by rw [c1 7 _ (by decide)]; exact t7) (Or.inr ⟨rfl, rfl⟩) (by omega) x65
  rintro f2 z1 _ ⟨y1, y2, y3, y4, y5, y6, y7⟩
  have qz : Qm8 h m μm z1 := q1.tr y1
  have W1 : W9 P C G v b a h D N (m + 1 + 1) bc ob μx z1 It Bk cl := W.low Qx8.rf qz (Nat.le_refl _) W.x7.1 (by rw [y7, x66]; exact W.x7.2) y2
  have sh1' : Sh (iv z1 9) 1 (o + (i + 1)) (o + m') := cd_sh (W1.t9 hF) a'
  refine ia K Post μx z1 It Bk cl v b a h D (m + 1) bc ob a1 nn f2 X Y W1 ⟨o + (i + 1), rfl, sh1', y5, y6⟩ hpc hbu (by omega) (by omega) (by omega) (by omega) (by omega) ?_ bad
  intro q3 z3 It3 Bk3 cl3 a3 n3 fu3 W3 F3 hpc3 hbu3
  have k37 : z3.1 37 m = 3 := by rw [F3.2.2.1.2.2 37 m (Or.inl rfl) (by omega)]; exact y3
  have k38 : (z3.1 38 m).toInt = ((o + i : Nat) : Int) := by rw [F3.2.2.1.2.2 38 m (Or.inr (Or.inl rfl)) (by omega)]; exact y4
  obtain ⟨_, t8', _⟩ := fn_at W3.pn hF i _ h1
  have t8' : z3.1 8 (o + i) = a0 - 109 := t8'
  have xb : X + ((d - c : Nat) : Int) + 1 ≤ 1000000 := by omega
  obtain ⟨q0, z4, fx0, fm0, S0, z65, pc0, b5, bu0, stp, ez0⟩ := W3.beg (h := h) h3 hpc3 hbu3 xb
  obtain ⟨x, w, dd, v1, v2, v3⟩ := S0.2.2 h (by omega)
  have D2 := sk_down S0
  have gp := c_pop (μ := q0) S0.1
  have gg := m_gone (μ := z4) S0.2.1
  generalize hq2 : sF q0 30 7 (q0.1 30 7 - 1) = q2 at gp D2
  generalize hz2 : sF z4 0 66 (z4.1 0 66 - 1) = z5 at gg D2
  have hv : Va7 q2 z5 (q0.2.1 36 h) x w dd := v2.gr D2.2.1 D2.2.2
  have fx2 : Qx8 h q3 q2 := by rw [← hq2]; exact fx0.tr (Qx8.top _)
  have fm2 : Qm8 h m z3 z5 := by rw [← hz2]; exact fm0.tr (Qm8.F _ (by omega))
  have z65' : (z5.1 0 65).toInt = (m : Int) := by rw [← hz2, sF_k (by decide)]; exact z65
  have hpc2 : (q2.1 137 9).toInt = ((d + 1 : Nat) : Int) := by rw [← hq2, sF_i (by decide)]; exact pc0
  obtain ⟨dd1, dd2, _, _⟩ := W3.1.2.2.2.2.2.1
  have b67 : (z5.1 0 67).toInt = ((14 * D : Nat) : Int) := by rw [fm2.2.1 67 (by decide) (by decide) (by decide) (by decide) (by decide)]; exact dd2
  have b8 : z5.1 8 (o + i) = a0 - 109 := by rw [fm2.2.2.1 8 _ (by decide) (by omega) (by omega) (by omega)]; exact t8'
  have i41 : (z5.1 0 67 + z5.1 8 (o + i)).toInt = ((14 * D + k : Nat) : Int) := by rw [b8, ti_add (by omega) (by omega), b67, hk2]; omega
  have b10 : (z5.1 10 (o + (i + 1))).toInt = ((o + m' : Nat) : Int) := by
    rw [fm2.2.2.1 10 _ (by decide) (by omega) (by omega) (by omega)]
    exact W3.bh (by omega) (cd_sh (W3.t9 hF) a')
  refine op_run W3 hbu3 xb (A := fun q => q = sL q2 37 (32 * D + N.length) (q0.2.1 36 h)) (B := fun z => ∃ (z6 z8 : Mem) (r w38 : Int32), m < 6000 ∧ r.toInt = (x : Int) ∧ z6 = sF (sF (sF (sF z5 37 m 4) 38 m (a0 - 109)) 39 m (z5.1 41 (14 * D + k))) 0 65 (z5.1 0 65 + 1) ∧ z8 = sF z6 41 (14 * D + k) r ∧ w38.toInt = ((o + m' : Nat) : Int) ∧ z = sF (sF (sF (sF z8 37 (m + 1) 0) 38 (m + 1) w38) 39 (m + 1) 0) 0 65 (z8.1 0 65 + 1)) (stp ?_) ?_ ?_
  · show pk (bd (p_X8_pop q0) (fun r55 μ54 => bw (p_X8_setVar (Int32.ofNat N.length) r55 μ54) (fun μ56 => some μ56))) _
    refine pk_bdv (r0 := q0.2.1 36 h) (μ0 := q2) gp ?_
    exact pk_bw (c_setVar (D := D) (s := N.length) _ (by rw [fx2.2.2.1 10 (by decide) (by decide)]; exact dd1) (by exact Int32.toInt_ofNat_of_lt (by omega)) (by omega)) (fun q hq => pk_some hq)
  · rw [ez0, k37, p_X12_goOne_eq, if_neg (by decide), if_neg (by decide), if_neg (by decide), if_pos rfl, p_X12_bindVar_eq, tn_of k38]
    have t1 : (z3.1 38 m + 1).toInt = ((o + (i + 1) : Nat) : Int) := by rw [ti_add (by omega) (by omega), k38, e1]; omega
    rw [tn_of t1]
    refine pk_bw (pk_bdv (r0 := z4.1 40 h) (μ0 := z5) gg ?_) (fun q hq => pk_some hq)
    rw [tn_of i41, b8]
    refine pk_gd (fun _ => pk_gd (fun _ => pk_gd (fun _ => pk_bw (m_push 4 (a0 - 109) (z5.1 41 (14 * D + k)) z65') (fun z6 hz6 => ?_))))
    obtain ⟨hz6, hm6⟩ := hz6
    have c6 : ∀ i l, i ≠ 0 → i ≠ 37 → i ≠ 38 → i ≠ 39 → z6.1 i l = z5.1 i l := fun i l a1 a2 a3 a4 => by rw [hz6, sF_i a1, sF_i a4, sF_i a3, sF_i a2]
    have c67 : z6.1 0 67 = z5.1 0 67 := by rw [hz6, sF_k (by decide), sF_i (by decide), sF_i (by decide), sF_i (by decide)]
    have i6 : (z6.1 0 67 + z6.1 8 (o + i)).toInt = ((14 * D + k : Nat) : Int) := by rw [c67, c6 8 _ (by decide) (by decide) (by decide) (by decide)]; exact i41
    rw [tn_of i6]
    refine pk_gd (fun _ => pk_gd (fun _ => pk_bvs (pk_gd (fun _ => ?_))))
    have c65 : ((sF z6 41 (14 * D + k) (z4.1 40 h)).1 0 65).toInt = ((m + 1 : Nat) : Int) := by
      rw [sF_i (by decide), hz6, sF_v, ti_add (by omega) (by omega), z65', e1]; omega
    refine pk_bw (m_push 0 _ 0 c65) (fun z9 hz9 => pk_some ⟨z6, _, z4.1 40 h, _, hm6, v1, hz6, rfl, ?_, hz9.1⟩)
    rw [sF_i (by decide), c6 10 _ (by decide) (by decide) (by decide) (by decide)]; exact b10
  rintro q5 z9 n4 f4 hq5 ⟨z6, z8, r, w38, hm6, hr, hz6, hz8, hw38, hz9⟩
  have d6 : Qm8 h m z5 z6 := by rw [hz6]; exact Qm8.act (Nat.le_refl _) _ _ _ _
  have d9 : Qm8 h m z8 z9 := by rw [hz9]; exact Qm8.act (by omega) _ _ _ _
  have o8 : ∀ i l, i ≠ 41 → z8.1 i l = z6.1 i l := fun i l hi => by rw [hz8, sF_i hi]
  have e65 : (z6.1 0 65).toInt = ((m + 1 : Nat) : Int) := by rw [hz6, sF_v, ti_add (by omega) (by omega), z65', e1]; omega
  have e66 : z6.1 0 66 = z5.1 0 66 := by rw [hz6, sF_k (by decide), sF_i (by decide), sF_i (by decide), sF_i (by decide)]
  have W5 : W9 P C G v b a h D N (m + 1) bc ob q2 z6 It3 Bk3 cl3 := W3.low fx2 (fm2.tr d6) (by omega) D2.1.1 (by rw [e66]; exact D2.1.2.1) e65
  have gq5 : Gs7 q2 q5 := by rw [hq5]; exact gs_same rfl (fun l => by rw [sL_at, if_neg (by omega)]) (fun l => by rw [sL_at, if_neg (by omega)]) (fun _ => rfl) (fun _ => rfl)
  have gz8 : Gh7 z6 z8 := by rw [hz8]; exact gh_F (by omega) (by omega)
  have l5 : q5.2.1 37 (32 * D + N.length) = q0.2.1 36 h := by rw [hq5, sL_at, if_pos ⟨rfl, rfl⟩]
  have W6 : W9 P C G v b a h D (a0 :: N) (m + 1) bc ob q5 z8 It3 Bk3 cl3 := by
    refine W5.vars (by rw [hq5]; rfl) (fun i l hi => by rw [hq5, sL_at, if_neg (fun e => hi e.1)]) (by rw [hq5]; rfl) (fun i l hi => o8 i l hi) ?_ (fun c hc => ?_)
    · refine Vr7.bind (x := x) (w := w) (d := dd) W5.1.2.2.2.1 W5.1.2.2.2.2.1 h2.1 gq5 gz8 (fun l hl => by rw [hq5, sL_at, if_neg (by omega)]) (fun l hl => by rw [hz8, sF_at, if_neg (by rw [hk3] at hl; omega)]) (by rw [hk3, hz8, sF_v]; exact hr) ?_ v3
      rw [l5]; exact (hv.gr gq5 (d6.2.2.2.tr gz8))
    · rcases List.mem_cons.mp hc with e | e
      · rw [e]; exact h2.1
      · exact W5.1.2.2.2.2.1 c e
  have W7 : W9 P C G v b a h D (a0 :: N) (m + 1 + 1) bc ob q5 z9 It3 Bk3 cl3 := W6.low Qx8.rf d9 (Nat.le_refl _) W6.x7.1 (by rw [hz9, sF_k (by decide), sF_i (by decide), sF_i (by decide), sF_i (by decide)]; exact W6.x7.2) (by rw [hz9, sF_v, o8 0 65 (by decide), ti_add (by omega) (by omega), e65, e1]; omega)
  have a37 : z9.1 37 (m + 1) = 0 := by rw [hz9, sF_i (by decide), sF_i (by decide), sF_i (by decide), sF_v]
  have a38 : (z9.1 38 (m + 1)).toInt = ((o + m' : Nat) : Int) := by rw [hz9, sF_i (by decide), sF_i (by decide), sF_v]; exact hw38
  have b37 : z9.1 37 m = 4 := by rw [hz9, sF_i (by decide), sF_i (by decide), sF_i (by decide), sF_k (by omega), o8 37 m (by decide), hz6, sF_i (by decide), sF_i (by decide), sF_i (by decide), sF_v]
  have b38 : z9.1 38 m = a0 - 109 := by rw [hz9, sF_i (by decide), sF_i (by decide), sF_k (by omega), sF_i (by decide), o8 38 m (by decide), hz6, sF_i (by decide), sF_i (by decide), sF_v]
  have b39 : z9.1 39 m = z5.1 41 (14 * D + k) := by rw [hz9, sF_i (by decide), sF_k (by omega), sF_i (by decide), sF_i (by decide), o8 39 m (by decide), hz6, sF_i (by decide), sF_v]
  have pc5 : (q5.1 137 9).toInt = ((d + 1 : Nat) : Int) := by rw [hq5]; exact hpc2
  have bu5 : Bu9 (a3 + 1) q5 (X + ((d - c : Nat) : Int) + 1) (Y + ((m' - (i + 1) : Nat) : Int) + 1) := bu0.same (by rw [hq5]; show q2.1 39 3 = _; rw [← hq2, sF_i (by decide)]) (by rw [hq5]; show q2.1 30 5 = _; rw [← hq2, sF_k (by decide)])
  refine ib K Post q5 z9 It3 Bk3 cl3 v b a h D (m + 1) bc ob (a3 + 1) n4 f4 _ _ W7 ⟨o + m', rfl, cd_sh (W7.t9 hF) b', a37, a38⟩ pc5 bu5 (by omega) (by omega) (by omega) (by omega) (by omega) ?_ bad
  intro q7 z7 It7 Bk7 cl7 a7 n7 f7 W8 F7 hpc7 hbu7
  have k37' : z7.1 37 m = 4 := by rw [F7.2.2.1.2.2 37 m (Or.inl rfl) (by omega)]; exact b37
  have k38' : z7.1 38 m = a0 - 109 := by rw [F7.2.2.1.2.2 38 m (Or.inr (Or.inl rfl)) (by omega)]; exact b38
  have k39' : z7.1 39 m = z5.1 41 (14 * D + k) := by rw [F7.2.2.1.2.2 39 m (Or.inr (Or.inr rfl)) (by omega)]; exact b39
  have y65 : ((sF z7 0 65 (z7.1 0 65 - 1)).1 0 65).toInt = (m : Int) := by
    have := ti_hi (z7.1 0 65)
    have h5 := W8.x65
    rw [sF_v, ti_sub (by omega) (by omega), h5, e1]; omega
  have i7 : ((sF z7 0 65 (z7.1 0 65 - 1)).1 0 67 + (a0 - 109)).toInt = ((14 * D + k : Nat) : Int) := by
    rw [sF_k (by decide), ti_add (by have := W8.1.2.2.2.2.2.1.2.1; omega) (by have := W8.1.2.2.2.2.2.1.2.1; omega), W8.1.2.2.2.2.2.1.2.1, hk2]; omega
  refine gx_step W8.x65 W8.x68.1 (A := fun z => z = sF (sF z7 0 65 (z7.1 0 65 - 1)) 41 (14 * D + k) (z5.1 41 (14 * D + k))) ?_ ?_
  · rw [k37', k38', k39', p_X12_goOne_eq, if_neg (by decide), if_neg (by decide), if_neg (by decide), if_neg (by decide), if_pos rfl, tn_of i7]
    exact pk_gd (fun _ => pk_bvs (pk_some rfl))
  intro f9 zf _ hzf
  have c41 : ∀ l, l < 14 * D + 14 → zf.1 41 l = z3.1 41 l := by
    intro l hl
    rw [hzf, sF_at]
    by_cases el : l = 14 * D + k
    · rw [if_pos ⟨rfl, el⟩, el, fm2.2.2.1 41 _ (by decide) (by omega) (by omega) (by omega)]
    · rw [if_neg (fun x => el x.2), sF_i (by decide), F7.2.2.1.2.1 l hl, d9.2.2.1 41 l (by decide) (by omega) (by omega) (by omega), hz8, sF_at, if_neg (fun x => el x.2), d6.2.2.1 41 l (by decide) (by omega) (by omega) (by omega), fm2.2.2.1 41 l (by decide) (by omega) (by omega) (by omega)]
  have of7 : ∀ i l, i ≠ 41 → ¬ (i = 0 ∧ l = 65) → zf.1 i l = z7.1 i l := fun i l hi hl => by rw [hzf, sF_i hi, sF_at, if_neg hl]
  have gsx : Gs7 q3 q7 := (fx2.2.2.2.2.tr gq5).tr F7.2.2.2.1.1
  have ghf : Gh7 z7 zf := gh_same (of7 0 56 (by decide) (by omega)) (fun i l a1 a2 => of7 i l (by omega) (by omega))
  have ghx : Gh7 z3 zf := ((((fm2.2.2.2.tr d6.2.2.2).tr gz8).tr d9.2.2.2).tr F7.2.2.2.1.2).tr ghf
  have x37 : ∀ l, l < 32 * D + N.length → q7.2.1 37 l = q3.2.1 37 l := by
    intro l hl
    rw [F7.2.1.2.1 l (by show l < 32 * D + (N.length + 1); omega), hq5, sL_at, if_neg (by omega), fx2.2.2.2.1 37 l (by decide) (by decide) (by omega)]
  have hVf : Vr7 q7 zf D N := W3.1.2.2.2.1.of gsx ghx (fun l hl => x37 _ (by omega)) (fun cc hc => by
    obtain ⟨kc, hkc, _, hkc2⟩ := va_109 (W3.1.2.2.2.2.1 cc hc)
    exact c41 _ (by omega))
  have W10 : W9 P C G v b a (h + 1) D N m bc ob q7 zf It7 Bk7 cl7 := by
    have Wl : W9 P C G v b a (h + 1) D (a0 :: N) m bc ob q7 (sF z7 0 65 (z7.1 0 65 - 1)) It7 Bk7 cl7 := W8.low (h0 := h + 1) (m0 := m) Qx8.rf (Qm8.F _ (by omega)) (Nat.le_refl _) W8.x7.1 (by rw [sF_k (by decide)]; exact W8.x7.2) y65
    exact Wl.vars rfl (fun _ _ _ => rfl) rfl (fun i l hi => by rw [hzf, sF_i hi]) hVf W3.1.2.2.2.2.1
  have F0 : F9 v b (μx.1 39 6).toNatClampNeg h D N.length bc m μx μm It Bk cl μx z1 It Bk cl := F9.q (h0 := h) Qx8.rf qz (Nat.le_refl _) (Nat.le_refl _)
  have Fb : F9 v b (q3.1 39 6).toNatClampNeg h D N.length bc m q3 z3 It3 Bk3 cl3 q7 zf It7 Bk7 cl7 := by
    have b39' : (q5.1 39 6) = q3.1 39 6 := by rw [hq5]; exact fx2.2.1 39 6 (by decide) (by decide) (by decide) (by omega)
    have q5i : ∀ i l, i ≠ 30 → i ≠ 33 → i ≠ 34 → i ≠ 137 → q5.1 i l = q3.1 i l := fun i l c1 c2 c3 c4 => by rw [hq5]; exact fx2.2.1 i l c1 c2 c3 (by omega)
    have q5l : ∀ i l, i ≠ 31 → i ≠ 32 → i ≠ 36 → i ≠ 37 → q5.2.1 i l = q3.2.1 i l := fun i l c1 c2 c3 c4 => by rw [hq5, sL_at, if_neg (fun x => c4 x.1)]; exact fx2.2.2.2.1 i l c1 c2 (by omega)
    have z9i : ∀ i l, i ≠ 0 → ¬ (30 ≤ i ∧ i ≤ 34) → ¬ (37 ≤ i ∧ i ≤ 41) → z9.1 i l = z3.1 i l := fun i l c1 c2 c3 => by
      rw [d9.2.2.1 i l c1 c2 (by omega) (by omega), o8 i l (by omega), d6.2.2.1 i l c1 c2 (by omega) (by omega), fm2.2.2.1 i l c1 c2 (by omega) (by omega)]
    have z90 : ∀ l, l ≠ 0 → l ≠ 1 → l ≠ 56 → l ≠ 65 → l ≠ 66 → z9.1 0 l = z3.1 0 l := fun l c1 c2 c3 c4 c5 => by
      rw [d9.2.1 l c1 c2 c3 c4 c5, o8 0 l (by decide), d6.2.1 l c1 c2 c3 c4 c5, fm2.2.1 l c1 c2 c3 c4 c5]
    have sc1 : Sc8 q3 z3 q5 z9 := ⟨fun l => q5i 40 l (by decide) (by decide) (by decide) (by decide), fun l => q5l 44 l (by decide) (by decide) (by decide) (by decide), ⟨z90 87 (by decide) (by decide) (by decide) (by decide) (by decide), z90 88 (by decide) (by decide) (by decide) (by decide) (by decide)⟩, fun i l x1 x2 => z9i i l (by omega) (by omega) (by omega)⟩
    have sc2 : Sc8 q7 z7 q7 zf := ⟨fun _ => rfl, fun _ => rfl, ⟨of7 0 87 (by decide) (by omega), of7 0 88 (by decide) (by omega)⟩, fun i l x1 x2 => of7 i l (by omega) (by omega)⟩
    have F7x := F7.2.1
    refine ⟨((Gw8.same sc1).tr F7.1 (by rw [b39']; exact Nat.le_refl _)).tr (Gw8.same sc2) (Nat.le_refl (q3.1 39 6).toNatClampNeg), ⟨fun l hl => ?_, x37, fun l hl => ?_, fun l hl => ?_, fun l hl => ?_, ?_⟩, ⟨fun l hl => ?_, c41, fun i l hi hl => ?_⟩, ⟨gsx, ghx⟩, ?_, fun i l x1 x2 => ?_⟩
    · rw [F7x.1 l hl, hq5, sL_at, if_neg (by omega)]; exact fx2.2.2.2.1 36 l (by decide) (by decide) (by omega)
    · rw [F7x.2.2.1 l hl]; exact q5i 38 l (by decide) (by decide) (by decide) (by decide)
    · rw [F7x.2.2.2.1 l hl]; exact q5i 138 l (by decide) (by decide) (by decide) (by decide)
    · rw [F7x.2.2.2.2.1 l hl]; exact q5l 139 l (by decide) (by decide) (by decide) (by decide)
    · exact ⟨by rw [F7x.2.2.2.2.2.1, hq5]; show q2.2.2 137 5 = _; rw [fx2.1], fun l => by rw [F7x.2.2.2.2.2.2 l]; exact q5l 140 l (by decide) (by decide) (by decide) (by decide)⟩
    · rw [of7 40 l (by decide) (by omega), F7.2.2.1.1 l hl, d9.2.2.1 40 l (by decide) (by omega) (by omega) (by omega), o8 40 l (by decide), d6.2.2.1 40 l (by decide) (by omega) (by omega) (by omega), fm2.2.2.1 40 l (by decide) (by omega) (by omega) (by omega)]
    · rw [of7 i l (by omega) (by omega), F7.2.2.1.2.2 i l hi (by omega), d9.2.2.1 i l (by omega) (by omega) (by omega) (by omega), o8 i l (by omega), d6.2.2.1 i l (by omega) (by omega) (by omega) (by omega), fm2.2.2.1 i l (by omega) (by omega) (by omega) (by omega)]
    · have Y7 := F7.2.2.2.2.1
      have f2' : q5.1 39 2 = q3.1 39 2 := q5i 39 2 (by decide) (by decide) (by decide) (by decide)
      refine ⟨⟨by have := Y7.1.1; rw [f2'] at this; exact this, by have := Y7.1.2; rw [b39'] at this; exact this⟩, fun l c1 c2 c3 => ?_, by have := Y7.2.2; rw [f2', b39', q5i 39 1 (by decide) (by decide) (by decide) (by decide)] at this; exact this⟩
      rw [Y7.2.1 l (by rw [f2']; exact c1) c2 c3]; exact q5i 45 l (by decide) (by decide) (by decide) (by decide)
    · rw [of7 i l (by omega) (by omega), F7.2.2.2.2.2 i l x1 x2]; exact z9i i l (by omega) (by omega) (by omega)
  refine ok q7 zf It7 Bk7 cl7 a7 n7 f9 W10 ?_ hpc7 (hbu7.mono (by omega) (by omega))
  exact ((F0.tr F3 (Nat.le_refl _) (Nat.le_refl _) (Nat.le_refl _) (by omega) (Nat.le_refl _))).tr Fb (Nat.le_refl _) (Nat.le_refl _) (Nat.le_refl _) (Nat.le_refl _) F3.2.2.2.2.1.1.2
end

section
def Hx8 (v h0 bc0 : Nat) (μ q : Mem) : Prop := q.2.2 = μ.2.2 ∧ (∀ i k, i ≠ 30 → i ≠ 33 → i ≠ 34 → i ≠ 39 → i ≠ 40 → i ≠ 42 → i ≠ 43 → i ≠ 45 → i ≠ 137 → i ≠ 138 → q.1 i k = μ.1 i k) ∧ (∀ k, k ≠ 5 → k ≠ 7 → q.1 30 k = μ.1 30 k) ∧ (∀ k, k ≠ 8 → k ≠ 9 → k ≠ 12 → k ≠ 13 → q.1 137 k = μ.1 137 k) ∧ (∀ k, k ≠ 1 → k ≠ 6 → q.1 39 k = μ.1 39 k) ∧ (∀ k, k ≠ 4 * v + 2 → q.1 45 k = μ.1 45 k) ∧ (∀ k, k < 3 * bc0 → q.1 138 k = μ.1 138 k) ∧ (∀ i k, i ≠ 31 → i ≠ 32 → i ≠ 41 → i ≠ 44 → ¬ (i = 36 ∧ h0 ≤ k) → ¬ (i = 139 ∧ bc0 ≤ k) → q.2.1 i k = μ.2.1 i k) ∧ Gs7 μ q
theorem Cx8.hx {v h0 bc0 : Nat} {μ q : Mem} (f : Cx8 v h0 μ q) : Hx8 v h0 bc0 μ q := ⟨f.1, fun i k c1 c2 c3 c4 c5 c6 c7 c8 c9 _ => f.2.1 i k c1 c2 c3 c4 c5 c6 c7 c8 c9, f.2.2.1, fun k _ c _ _ => f.2.2.2.1 k c, fun k c _ => f.2.2.2.2.1 k c, f.2.2.2.2.2.1, fun k _ => f.2.1 138 k (by decide) (by decide) (by decide) (by decide) (by decide) (by decide) (by decide) (by decide) (by decide), fun i k c1 c2 c3 _ c5 _ => f.2.2.2.2.2.2.1 i k c1 c2 c3 c5, f.2.2.2.2.2.2.2⟩
theorem Hx8.tr {v h0 bc0 : Nat} {μ q z : Mem} (a : Hx8 v h0 bc0 μ q) (b : Hx8 v h0 bc0 q z) : Hx8 v h0 bc0 μ z := by
  obtain ⟨a1, a2, a3, a4, a5, a6, a7, a8, a9⟩ := a
  obtain ⟨b1, b2, b3, b4, b5, b6, b7, b8, b9⟩ := b
  exact ⟨b1.trans a1, fun i k c1 c2 c3 c4 c5 c6 c7 c8 c9 c0 => (b2 i k c1 c2 c3 c4 c5 c6 c7 c8 c9 c0).trans (a2 i k c1 c2 c3 c4 c5 c6 c7 c8 c9 c0), fun k c1 c2 => (b3 k c1 c2).trans (a3 k c1 c2), fun k c1 c2 c3 c4 => (b4 k c1 c2 c3 c4).trans (a4 k c1 c2 c3 c4), fun k c1 c2 => (b5 k c1 c2).trans (a5 k c1 c2), fun k c1 => (b6 k c1).trans (a6 k c1), fun k c1 => (b7 k c1).trans (a7 k c1), fun i k c1 c2 c3 c4 c5 c6 => (b8 i k c1 c2 c3 c4 c5 c6).trans (a8 i k c1 c2 c3 c4 c5 c6), a9.tr b9⟩
theorem Ob7.hx {v h0 bc0 n : Nat} {cond : Int64} {one : Int32} {μ q : Mem} (f : Ob7 n cond one μ q) (hn : bc0 ≤ n) : Hx8 v h0 bc0 μ q := by
  obtain ⟨f1, f2, f3, f4, f5, f6⟩ := f
  refine ⟨f1, fun i k _ _ _ _ _ _ _ _ c9 c0 => f6 i k c9 c0, fun k _ _ => f6 30 k (by decide) (by decide), fun k _ _ c _ => f3 k c, fun k _ _ => f6 39 k (by decide) (by decide), fun k _ => f6 45 k (by decide) (by decide), fun k hk => by rw [f4, if_neg (by omega), if_neg (by omega), if_neg (by omega)], fun i k _ _ _ _ _ c => by rw [f5, if_neg (fun e => c ⟨e.1, by omega⟩)], gs_same (f6 30 5 (by decide) (by decide)) (fun k => by rw [f5, if_neg (by omega)]) (fun k => by rw [f5, if_neg (by omega)]) (fun k => f6 33 k (by decide) (by decide)) (fun k => f6 34 k (by decide) (by decide))⟩
theorem Nb7.hx {v h0 bc0 B : Nat} {μ q : Mem} (f : Nb7 B μ q) : Hx8 v h0 bc0 μ q := by
  obtain ⟨f1, f2, f3, f4, f5, f6, f7⟩ := f
  refine ⟨f1, fun i k _ _ _ c4 _ c6 c7 _ _ _ => f7 i k c4 c6 c7, fun k _ _ => f7 30 k (by decide) (by decide) (by decide), fun k _ _ _ _ => f7 137 k (by decide) (by decide) (by decide), fun k _ c => f3 k c, fun k _ => f7 45 k (by decide) (by decide) (by decide), fun k _ => f7 138 k (by decide) (by decide) (by decide), fun i k _ _ _ c _ _ => by rw [f6, if_neg (fun e => c e.1)], gs_same (f7 30 5 (by decide) (by decide) (by decide)) (fun k => by rw [f6, if_neg (by omega)]) (fun k => by rw [f6, if_neg (by omega)]) (fun k => f7 33 k (by decide) (by decide) (by decide)) (fun k => f7 34 k (by decide) (by decide) (by decide))⟩
theorem Hx8.w {v h0 bc0 k : Nat} {μ : Mem} (x : Int32) (hk : k = 8 ∨ k = 9 ∨ k = 12 ∨ k = 13) : Hx8 v h0 bc0 μ (sF μ 137 k x) := ⟨rfl, fun i l _ _ _ _ _ _ _ _ c _ => by rw [sF_i c], fun l _ _ => by rw [sF_i (by decide)], fun l c1 c2 c3 c4 => by rw [sF_k (by omega)], fun l _ _ => by rw [sF_i (by decide)], fun l _ => by rw [sF_i (by decide)], fun l _ => by rw [sF_i (by decide)], fun _ _ _ _ _ _ _ _ => rfl, gs_same (by rw [sF_i (by decide)]) (fun _ => rfl) (fun _ => rfl) (fun l => by rw [sF_i (by decide)]) (fun l => by rw [sF_i (by decide)])⟩
theorem Hx8.br {v h0 bc0 k : Nat} {μ : Mem} (x : Int32) (hk : 3 * bc0 ≤ k) : Hx8 v h0 bc0 μ (sF μ 138 k x) := ⟨rfl, fun i l _ _ _ _ _ _ _ _ _ c => by rw [sF_i c], fun l _ _ => by rw [sF_i (by decide)], fun l _ _ _ _ => by rw [sF_i (by decide)], fun l _ _ => by rw [sF_i (by decide)], fun l _ => by rw [sF_i (by decide)], fun l hl => by rw [sF_k (by omega)], fun _ _ _ _ _ _ _ _ => rfl, gs_same (by rw [sF_i (by decide)]) (fun _ => rfl) (fun _ => rfl) (fun l => by rw [sF_i (by decide)]) (fun l => by rw [sF_i (by decide)])⟩
theorem Hx8.e44 {v h0 bc0 k : Nat} {μ : Mem} (x : Int64) : Hx8 v h0 bc0 μ (sL μ 44 k x) := ⟨rfl, fun _ _ _ _ _ _ _ _ _ _ _ _ => rfl, fun _ _ _ => rfl, fun _ _ _ _ _ => rfl, fun _ _ _ => rfl, fun _ _ => rfl, fun _ _ => rfl, fun i l _ _ _ c _ _ => by rw [sL_at, if_neg (fun e => c e.1)], gs_same rfl (fun l => by rw [sL_at, if_neg (by omega)]) (fun l => by rw [sL_at, if_neg (by omega)]) (fun _ => rfl) (fun _ => rfl)⟩
def Hm8 (h0 m0 p o : Nat) (μ z : Mem) : Prop := z.2 = μ.2 ∧ (∀ k, k ≠ 0 → k ≠ 1 → k ≠ 56 → k ≠ 65 → k ≠ 66 → k ≠ 87 → k ≠ 88 → k ≠ 89 → k ≠ 90 → k ≠ 93 → z.1 0 k = μ.1 0 k) ∧ (∀ i k, i ≠ 0 → ¬ (30 ≤ i ∧ i ≤ 34) → ¬ ((37 ≤ i ∧ i ≤ 39) ∧ m0 ≤ k) → ¬ (i = 40 ∧ h0 ≤ k) → ¬ ((46 ≤ i ∧ i ≤ 52) ∧ p ≤ k) → ¬ ((i = 53 ∨ i = 54) ∧ o ≤ k) → i ≠ 55 → i ≠ 56 → z.1 i k = μ.1 i k) ∧ Gh7 μ z
theorem Cm8.hm {h m p o : Nat} {μ z : Mem} (f : Cm8 h m p o μ z) : Hm8 h m p o μ z := ⟨f.1, fun k c1 c2 c3 c4 c5 c6 c7 c8 _ c9 => f.2.1 k c1 c2 c3 c4 c5 c6 c7 c8 c9, f.2.2.1, f.2.2.2⟩
theorem Hm8.tr {h m p o : Nat} {μ q z : Mem} (a : Hm8 h m p o μ q) (b : Hm8 h m p o q z) : Hm8 h m p o μ z := ⟨b.1.trans a.1, fun k c1 c2 c3 c4 c5 c6 c7 c8 c9 c0 => (b.2.1 k c1 c2 c3 c4 c5 c6 c7 c8 c9 c0).trans (a.2.1 k c1 c2 c3 c4 c5 c6 c7 c8 c9 c0), fun i k c1 c2 c3 c4 c5 c6 c7 c8 => (b.2.2.1 i k c1 c2 c3 c4 c5 c6 c7 c8).trans (a.2.2.1 i k c1 c2 c3 c4 c5 c6 c7 c8), a.2.2.2.tr b.2.2.2⟩
theorem Hm8.le {h m p o h2 m2 p2 o2 : Nat} {μ z : Mem} (a : Hm8 h2 m2 p2 o2 μ z) (e1 : h ≤ h2) (e2 : m ≤ m2) (e3 : p ≤ p2) (e4 : o ≤ o2) : Hm8 h m p o μ z := ⟨a.1, a.2.1, fun i k c1 c2 c3 c4 c5 c6 c7 c8 => a.2.2.1 i k c1 c2 (fun e => c3 ⟨e.1, by omega⟩) (fun e => c4 ⟨e.1, by omega⟩) (fun e => c5 ⟨e.1, by omega⟩) (fun e => c6 ⟨e.1, by omega⟩) c7 c8, a.2.2.2⟩
theorem Hx8.le {v h bc h2 bc2 : Nat} {μ q : Mem} (a : Hx8 v h2 bc2 μ q) (e1 : h ≤ h2) (e2 : bc ≤ bc2) : Hx8 v h bc μ q := by
  obtain ⟨a1, a2, a3, a4, a5, a6, a7, a8, a9⟩ := a
  exact ⟨a1, a2, a3, a4, a5, a6, fun k c1 => a7 k (by omega), fun i k c1 c2 c3 c4 c5 c6 => a8 i k c1 c2 c3 c4 (fun e => c5 ⟨e.1, by omega⟩) (fun e => c6 ⟨e.1, by omega⟩), a9⟩
theorem Hm8.F {h m p o i k : Nat} {μ : Mem} (x : Int32) (c : (i = 0 ∧ (k = 0 ∨ k = 1 ∨ k = 65 ∨ k = 66 ∨ k = 87 ∨ k = 88 ∨ k = 89 ∨ k = 90 ∨ k = 93)) ∨ ((37 ≤ i ∧ i ≤ 39) ∧ m ≤ k) ∨ (i = 40 ∧ h ≤ k) ∨ ((46 ≤ i ∧ i ≤ 52) ∧ p ≤ k) ∨ ((i = 53 ∨ i = 54) ∧ o ≤ k) ∨ i = 55 ∨ i = 56) : Hm8 h m p o μ (sF μ i k x) := by
  refine ⟨rfl, fun l c1 c2 c3 c4 c5 c6 c7 c8 c9 c0 => ?_, fun j l c1 c2 c3 c4 c5 c6 c7 c8 => ?_, gh_F (by omega) (by omega)⟩
  · rw [sF_at, if_neg (by omega)]
  · rw [sF_at, if_neg (by omega)]
theorem W9.hop {P : Nat} {C : List Th3} {G : List Fn5} {v b b2 a a2 h h0 h2 D m m0 m2 bc bc0 bc2 ob ob2 p o : Nat} {N : List Int32} {μx μm q z : Mem} {It Bk It2 Bk2 : List Nat} {cl cl2 : Nat → Prop} (W : W9 P C G v b a h D N m bc ob μx μm It Bk cl) (fx : Hx8 v h0 bc0 μx q) (fm : Hm8 h0 m0 p o μm z) (hR : Re7 q z It2 Bk2 cl2 v b2 a2) (hB : Bb7 q Bk2) (hS : Sk7 q z h2) (hm : (z.1 0 65).toInt = (m2 : Int)) (h12 : (q.1 137 12).toInt = (bc2 : Int)) (h13 : (q.1 137 13).toInt = (ob2 : Int)) (h90 : (z.1 0 90).toInt = (ob2 : Int)) (hcl : ∀ x, cl2 x → (x : Int) < (q.1 39 6).toInt) (hbd : (q.1 39 6).toInt + (q.1 39 2).toInt ≤ (v : Int) + 2 + 2 * (It2.length : Int) + 2 * (ob2 : Int)) (hq : Cq9 q z It2) : W9 P C G v b2 a2 h2 D N m2 bc2 ob2 q z It2 Bk2 cl2 := by
  have v111 := W.1.v111
  obtain ⟨⟨_, _, _, hV, hNv, ⟨d1, d2, d3, d4⟩, _, _, ⟨u1, u2, u3⟩, hL, hA⟩, hP, hPa, _, _, hs, _⟩ := W
  obtain ⟨f1, f2, f3, f4, f5, f6, f7, f8, f9⟩ := fx
  obtain ⟨g1, g2, g3, g4⟩ := fm
  have x1 : ∀ i k, i ≠ 30 → i ≠ 33 → i ≠ 34 → i ≠ 39 → i ≠ 40 → i ≠ 42 → i ≠ 43 → i ≠ 45 → i ≠ 137 → i ≠ 138 → q.1 i k = μx.1 i k := f2
  have mm : ∀ i k, i ≠ 0 → ¬ (30 ≤ i ∧ i ≤ 34) → ¬ (37 ≤ i ∧ i ≤ 40) → ¬ (46 ≤ i ∧ i ≤ 56) → z.1 i k = μm.1 i k := fun i k a1 a2 a3 a4 => g3 i k a1 a2 (by omega) (by omega) (by omega) (by omega) (by omega) (by omega)
  have z0 : ∀ k, k ≠ 0 → k ≠ 1 → k ≠ 56 → k ≠ 65 → k ≠ 66 → k ≠ 87 → k ≠ 88 → k ≠ 89 → k ≠ 90 → k ≠ 93 → z.1 0 k = μm.1 0 k := g2
  refine ⟨⟨hR, hB, hS, hV.of f9 g4 (fun k _ => f8 37 _ (by decide) (by decide) (by decide) (by decide) (by omega) (by omega)) (fun c _ => mm 41 _ (by decide) (by omega) (by omega) (by omega)), hNv, ⟨by rw [f3 10 (by decide) (by decide)]; exact d1, by rw [z0 67 (by decide) (by decide) (by decide) (by decide) (by decide) (by decide) (by decide) (by decide) (by decide) (by decide)]; exact d2, by rw [z0 92 (by decide) (by decide) (by decide) (by decide) (by decide) (by decide) (by decide) (by decide) (by decide) (by decide)]; exact d3, d4⟩, ⟨h12, h13, h90⟩, hm, ⟨by rw [f5 3 (by decide) (by decide), z0 91 (by decide) (by decide) (by decide) (by decide) (by decide) (by decide) (by decide) (by decide) (by decide) (by decide)]; exact u1, by rw [f5 4 (by decide) (by decide), z0 96 (by decide) (by decide) (by decide) (by decide) (by decide) (by decide) (by decide) (by decide) (by decide) (by decide)]; exact u2, by rw [f5 5 (by decide) (by decide), z0 97 (by decide) (by decide) (by decide) (by decide) (by decide) (by decide) (by decide) (by decide) (by decide) (by decide)]; exact u3⟩, fun k hk => by rw [f4 k (by omega) (by omega) (by omega) (by omega), mm 29 k (by decide) (by omega) (by omega) (by omega)]; exact hL k hk, by rw [z0 111 (by decide) (by decide) (by decide) (by decide) (by decide) (by decide) (by decide) (by decide) (by decide) (by decide), f4 7 (by decide) (by decide) (by decide) (by decide)]; exact hA⟩, ?_, ?_, hcl, hbd, hs.of f1, hq⟩
  · refine hP.of (by rw [f1]) (fun i k a1 a2 => x1 i k (by omega) (by omega) (by omega) (by omega) (by omega) (by omega) (by omega) (by omega) (by omega) (by omega)) (fun k hk => z0 k (by omega) (by omega) (by omega) (by omega) (by omega) (by omega) (by omega) (by omega) (by omega) (by omega)) (fun i k a1 a2 => mm i k (by omega) (by omega) (by omega) (by omega)) (bh_cong hP.2.2.2.2.2.2.2.2.2 (z0 18 (by decide) (by decide) (by decide) (by decide) (by decide) (by decide) (by decide) (by decide) (by decide) (by decide)) (fun k => mm 9 k (by decide) (by omega) (by omega) (by omega)) (fun k => mm 10 k (by decide) (by omega) (by omega) (by omega)))
  · exact hPa.of (f5 2 (by decide) (by decide)) (fun i k a1 a2 => ⟨x1 i k (by omega) (by omega) (by omega) (by omega) (by omega) (by omega) (by omega) (by omega) (by omega) (by omega), f8 i k (by omega) (by omega) (by omega) (by omega) (by omega) (by omega)⟩) (fun u => f6 _ (by omega)) (z0 110 (by decide) (by decide) (by decide) (by decide) (by decide) (by decide) (by decide) (by decide) (by decide) (by decide)) (fun i k hi => mm i k (by omega) (by omega) (by omega) (by omega)) (fun u hu => f6 _ (by rw [v111] at hu; omega)) (z0 111 (by decide) (by decide) (by decide) (by decide) (by decide) (by decide) (by decide) (by decide) (by decide) (by decide))
theorem F9.hop {v b B h D n bc bc0 m h0 m0 p o : Nat} {μx μm q z : Mem} {It Bk It2 Bk2 : List Nat} {cl cl2 : Nat → Prop} (g : Gw8 b B μx μm It Bk cl q z It2 Bk2 cl2) (fx : Hx8 v h0 bc0 μx q) (fm : Hm8 h0 m0 p o μm z) (e1 : h ≤ h0) (e2 : m ≤ m0) (e3 : bc ≤ bc0) (e4 : (μx.1 39 6).toNatClampNeg ≤ (q.1 39 6).toNatClampNeg) (e5 : (q.1 39 6).toInt + 2 * (μx.1 39 1).toInt ≤ (μx.1 39 6).toInt + 2 * (q.1 39 1).toInt) : F9 v b B h D n bc m μx μm It Bk cl q z It2 Bk2 cl2 := by
  obtain ⟨f1, f2, f3, f4, f5, f6, f7, f8, f9⟩ := fx
  obtain ⟨g1, g2, g3, g4⟩ := fm
  refine ⟨g, ⟨fun k hk => f8 36 k (by decide) (by decide) (by decide) (by decide) (by omega) (by omega), fun k hk => f8 37 k (by decide) (by decide) (by decide) (by decide) (by omega) (by omega), fun k _ => f2 38 k (by decide) (by decide) (by decide) (by decide) (by decide) (by decide) (by decide) (by decide) (by decide) (by decide), fun k hk => f7 k (by omega), fun k hk => f8 139 k (by decide) (by decide) (by decide) (by decide) (by omega) (by omega), by rw [f1], fun k => f8 140 k (by decide) (by decide) (by decide) (by decide) (by omega) (by omega)⟩, ⟨fun k hk => g3 40 k (by decide) (by omega) (by omega) (by omega) (by omega) (by omega) (by decide) (by decide), fun k _ => g3 41 k (by decide) (by omega) (by omega) (by omega) (by omega) (by omega) (by decide) (by decide), fun i k hi hk => g3 i k (by omega) (by omega) (by omega) (by omega) (by omega) (by omega) (by omega) (by omega)⟩, ⟨f9, g4⟩, ⟨⟨by rw [f5 2 (by decide) (by decide)]; exact Int.le_refl _, e4⟩, fun j _ _ hj => f6 j hj, by rw [f5 2 (by decide) (by decide)]; omega⟩, fun i k a1 a2 => g3 i k (by omega) (by omega) (by omega) (by omega) (by omega) (by omega) (by omega) (by omega)⟩
end

section
theorem pk2_bd2 {α β γ δ : Type} {f : Option (γ × Mem)} {g : Option (δ × Mem)} {k : γ → Mem → Option α} {l : δ → Mem → Option β} {Q : γ × Mem → δ × Mem → Prop} {P : α → β → Prop} (h : pk2 f g Q) (hk : ∀ r μ s ν, Q (r, μ) (s, ν) → pk2 (k r μ) (l s ν) P) : pk2 (bd f k) (bd g l) P := by
  intro q z e e2
  cases hf : f with
  | none => rw [hf] at e; cases e
  | some r =>
    obtain ⟨r, μ⟩ := r
    cases hg : g with
    | none => rw [hg] at e2; cases e2
    | some s =>
      obtain ⟨s, ν⟩ := s
      rw [hf] at e
      rw [hg] at e2
      exact hk r μ s ν (h _ _ hf hg) q z e e2
theorem pk2_mono {α β : Type} {f : Option α} {g : Option β} {P Q : α → β → Prop} (h : pk2 f g P) (hp : ∀ a b, P a b → Q a b) : pk2 f g Q := fun q z e e2 => hp q z (h q z e e2)
theorem pk2_some {α β : Type} {a : α} {c : β} {P : α → β → Prop} (h : P a c) : pk2 (some a) (some c) P := fun q z e e2 => by
  have e := Option.some.inj e
  have e2 := Option.some.inj e2
  rw [← e, ← e2]; exact h
theorem pk2_gdr {α β : Type} {f : Option α} {g : Option β} {c : Bool} {P : α → β → Prop} (h : c = true → pk2 f g P) : pk2 f (gd c g) P := by
  intro q z e e2
  cases c with
  | false => cases e2
  | true => exact h rfl q z e e2
theorem pk2_bdvl {α β γ : Type} {f : Option (γ × Mem)} {k : γ → Mem → Option α} {g : Option β} {P : α → β → Prop} {r0 : γ} {μ0 : Mem} (h : pk f (fun r => r.1 = r0 ∧ r.2 = μ0)) (hk : pk2 (k r0 μ0) g P) : pk2 (bd f k) g P := pk2_bdl h (fun r μ he => by
  have e1 : r = r0 := he.1
  have e2 : μ = μ0 := he.2
  rw [e1, e2]; exact hk)
theorem pk2_bdvr {α β γ : Type} {f : Option (γ × Mem)} {k : γ → Mem → Option α} {g : Option β} {P : β → α → Prop} {r0 : γ} {μ0 : Mem} (h : pk f (fun r => r.1 = r0 ∧ r.2 = μ0)) (hk : pk2 g (k r0 μ0) P) : pk2 g (bd f k) P := pk2_bdr h (fun r μ he => by
  have e1 : r = r0 := he.1
  have e2 : μ = μ0 := he.2
  rw [e1, e2]; exact hk)
theorem pk2_bwvl {α β : Type} {f : Option Mem} {k : Mem → Option α} {g : Option β} {P : α → β → Prop} {μ0 : Mem} (h : pk f (fun q => q = μ0)) (hk : pk2 (k μ0) g P) : pk2 (bw f k) g P := pk2_bwl h (fun μ e => by rw [e]; exact hk)
def Lq8 (v b a : Nat) (μx μm : Mem) (It Bk : List Nat) (cl : Nat → Prop) (r : Int64 × Mem) (s : Int32 × Mem) : Prop := (∃ (It2 Bk2 : List Nat) (y : Nat), Re7 r.2 s.2 It2 Bk2 cl v b a ∧ Gl8 b μx μm It Bk cl r.2 s.2 It2 Bk2 cl ∧ Va7 r.2 s.2 r.1 y 1 0 ∧ s.1.toInt = (y : Int) ∧ Fx7 v μx r.2 ∧ Fm7 (μm.1 0 87).toNatClampNeg (μm.1 0 88).toNatClampNeg μm s.2) ∨ (r.2.1 137 6 = -2 ∧ s.2.1 0 68 = -2 ∧ r.2.2.2 = μx.2.2)
theorem lift_both {μx μm : Mem} {It Bk : List Nat} {cl : Nat → Prop} {v b a y w d : Nat} {x : Int64} {a1 a3 : Int32} (hR : Re7 μx μm It Bk cl v b a) (hv : Va7 μx μm x y w d) (hw : w ≤ 40) (h1 : a1.toInt = (y : Int)) (h3 : a3.toInt = ((0 : Nat) : Int)) : pk2 (pr_X10_lift 50 x a3 μx) (p_X12_lift a1 μm) (Lq8 v b a μx μm It Bk cl) := by
  have e0 : (0 : Int32).toInt = ((0 : Nat) : Int) := by decide
  have e0' : (0 : Int32).toInt = 0 := by decide
  have e1 : (1 : Int32).toInt = ((0 + 1 : Nat) : Int) := by decide
  have hd := va_pos hv
  rw [p_X12_lift_eq]
  refine pk2_gdr (fun _ => ?_)
  have t0 : (0 : Int32).toNatClampNeg = 0 := by decide
  show pk2 _ (p_X12_lift_b11 FUEL a1 0 1 (sF μm 55 (0 : Int32).toNatClampNeg a1)) _
  rw [t0]
  have sc : Sc8 μx μm μx (sF μm 55 0 a1) := ⟨fun _ => rfl, fun _ => rfl, ⟨by rw [sF_i (by decide)], by rw [sF_i (by decide)]⟩, fun i k x1 x2 => by rw [sF_i (by omega)]⟩
  have hR1 := hR.put 55 (Or.inl rfl) a1 (k := 0)
  have F1 : Fm7 (μm.1 0 87).toNatClampNeg (μm.1 0 88).toNatClampNeg μm (sF μm 55 0 a1) := Fm7.put55 55 (Or.inl rfl) a1
  have key := lift7 (a1 := a1) (Post := fun (r : Int64 × Mem) s => Lq8 v b a μx μm It Bk cl r s) d x y w It Bk μx (sF μm 55 0 a1) 50 0 a3 0 1 0 0 FUEL (fun x' q => some (x', q)) (hv.gr Gs7.rf F1.2.2.2.1) hR1 h3 (by omega) (by omega) (by rw [sF_v]; exact h1) e0 e1 ?_ ?_
  · have e : bd (pr_X10_lift 50 x a3 μx) (fun x' q => some (x', q)) = pr_X10_lift 50 x a3 μx := by
      cases pr_X10_lift 50 x a3 μx with
      | none => rfl
      | some r => rfl
    rw [e] at key; exact key
  · intro x' y' q z It' Bk' fu' m2 a2' R2 G2 V2 h56 _ _ fx fm hm2 ha2
    cases fu' with
    | zero => intro q2 z2 _ e; rw [p_X12_lift_b11_z] at e; cases e
    | succ fu' =>
      rw [p_X12_lift_b11_s, if_pos (by rw [ti_le, e0', hm2]; omega), p_X12_lift_b139_eq, if_pos R2.2.2.2.2.2.1.1]
      refine pk2_gdr (fun _ => pk2_some (Or.inl ⟨It', Bk', y', R2, (Gl8.same sc).tr G2, V2, ?_, fx, ?_⟩))
      · show (z.1 56 (0 : Int32).toNatClampNeg).toInt = _; rw [t0]; exact h56
      · have e87 : (sF μm 55 0 a1).1 0 87 = μm.1 0 87 := by rw [sF_i (by decide)]
        have e88 : (sF μm 55 0 a1).1 0 88 = μm.1 0 88 := by rw [sF_i (by decide)]
        rw [e87, e88] at fm
        exact F1.tr fm
  · intro x' q z fu' m2 a2' h6 h68 h22
    cases fu' with
    | zero => intro q2 z2 _ e; rw [p_X12_lift_b11_z] at e; cases e
    | succ fu' =>
      have n0 : ¬ z.1 0 68 = 0 := by rw [h68]; decide
      rw [p_X12_lift_b11_s]
      have fin : pk2 (some (x', q)) (p_X12_lift_b139 a1 z) (Lq8 v b a μx μm It Bk cl) := by
        rw [p_X12_lift_b139_eq, if_neg n0]
        exact pk2_some (Or.inr ⟨h6, h68, h22⟩)
      by_cases c : m2 ≤ 0
      · rw [if_pos c]; exact fin
      · rw [if_neg c, if_neg n0]; exact fin
theorem op_run2 {β : Type} {K : Mem → Option β} {Post : Int32 × Mem → β → Prop} {P : Nat} {C : List Th3} {G : List Fn5} {v b a h D m bc ob nn fu : Nat} {N : List Int32} {μx μm : Mem} {It Bk : List Nat} {cl : Nat → Prop} {a1 : Int32} {X Y : Int} {R : Mem → Mem → Prop} (W : W9 P C G v b a h D N (m + 1) bc ob μx μm It Bk cl) (hbu : Bu9 a1 μx X Y) (hX : X + 1 ≤ 1000000) (hAB : pk2 (p_X10_step μx) (p_X12_goOne (μm.1 37 m) (μm.1 38 m) (μm.1 39 m) (sF μm 0 65 (μm.1 0 65 - 1))) R) (hK : ∀ q z n fu, R q z → Rn9 K Post n (a1 + 1) q fu z) : Rn9 K Post nn a1 μx fu μm := by
  obtain ⟨_, _, _, ⟨s1, s2, _, s4, _⟩, _⟩ := W.1.1
  have hl := hbu.lt
  refine lx_step s1 (by rw [s2]; exact s4) (by omega) (pk2_pk hAB) (fun n' q _ hq => ?_)
  exact gx_step W.x65 W.x68.1 hq (fun f2 z _ hz => hK q z n' f2 hz)
theorem op_runx {β : Type} {K : Mem → Option β} {Post : Int32 × Mem → β → Prop} {P : Nat} {C : List Th3} {G : List Fn5} {v b a h D m bc ob nn fu : Nat} {N : List Int32} {μx μm : Mem} {It Bk : List Nat} {cl : Nat → Prop} {a1 : Int32} {X Y : Int} {A : Mem → Prop} (W : W9 P C G v b a h D N m bc ob μx μm It Bk cl) (hbu : Bu9 a1 μx X Y) (hX : X + 1 ≤ 1000000) (hA : pk (p_X10_step μx) A) (hK : ∀ q n, A q → Rn9 K Post n (a1 + 1) q fu μm) : Rn9 K Post nn a1 μx fu μm := by
  obtain ⟨_, _, _, ⟨s1, s2, _, s4, _⟩, _⟩ := W.1.1
  have hl := hbu.lt
  exact lx_step s1 (by rw [s2]; exact s4) (by omega) hA (fun n' q _ hq => hK q n' hq)
theorem Tr7.grow {μx μm q z : Mem} {It : List Nat} {v P2 O2 : Nat} (h : Tr7 μx μm It v) (c39 : q.1 39 1 = μx.1 39 1) (c40 : ∀ j, q.1 40 j = μx.1 40 j) (c45 : q.1 45 (4 * v + 2) = μx.1 45 (4 * v + 2)) (c41 : ∀ j, q.2.1 41 j = μx.2.1 41 j) (z89 : z.1 0 89 = μm.1 0 89) (z93 : z.1 0 93 = μm.1 0 93) (zP : (z.1 0 87).toInt = (P2 : Int)) (zO : (z.1 0 88).toInt = (O2 : Int)) (lP : (μm.1 0 87).toInt ≤ (P2 : Int)) (lO : (μm.1 0 88).toInt ≤ (O2 : Int)) (zi : ∀ i k, i = 46 ∨ i = 47 ∨ i = 48 ∨ i = 51 ∨ i = 52 → k ∈ It → z.1 i k = μm.1 i k) (zo : ∀ (i k : Nat), i = 53 ∨ i = 54 → (k : Int) < (μm.1 0 88).toInt → z.1 i k = μm.1 i k) (z62 : ∀ i k, i = 62 ∨ i = 63 → z.1 i k = μm.1 i k) : Tr7 q z It v := by
  obtain ⟨t1, t2, t3, t4, P, O, tP, tO, tb, tI⟩ := h
  refine ⟨by rw [c39]; exact t1, by rw [z89]; exact t2, t3, by rw [c45, z93]; exact t4, P2, O2, zP, zO, by rw [z62 62 v (Or.inl rfl)]; omega, fun i p hi => ?_⟩
  have hm : p ∈ It := List.mem_of_getElem? hi
  obtain ⟨a1, ⟨b1, b2, b3, f', m, b4, b5, b6, b7⟩, u, u1, u2, u3, u4⟩ := tI i p hi
  have fo : ∀ (j k : Nat), (k : Int) < (μm.1 0 88).toInt → Op7 μx μm j k → Op7 q z j k := fun j k hk ho => ho.cong (c41 j) (zo 53 k (Or.inl rfl) hk) (zo 54 k (Or.inr rfl) hk)
  refine ⟨by omega, ⟨by rw [c40, zi 46 p (by omega) hm]; exact b1, by rw [c40, zi 47 p (by omega) hm]; exact b2, by rw [c40, zi 48 p (by omega) hm]; exact b3, f', m, by rw [zi 51 p (by omega) hm]; exact b4, by rw [zi 52 p (by omega) hm]; exact b5, by omega, ?_⟩, u, by rw [c40]; exact u1, u2, by rw [z62 62 u (Or.inl rfl)]; exact u3, fun hu => by rw [z62 63 u (Or.inr rfl)]; exact u4 hu⟩
  rw [zi 46 p (by omega) hm, c40]
  rcases b7 with ⟨b7, b8, b9⟩ | ⟨b7, b8, b9, b10⟩
  · exact Or.inl ⟨b7, b8, fun k hk2 => fo _ _ (by omega) (b9 k hk2)⟩
  · exact Or.inr ⟨b7, b8, b9, fun k hk2 => fo _ _ (by omega) (b10 k hk2)⟩
theorem Sf8.keep {μx μm q z : Mem} {It Bk It2 Bk2 : List Nat} {cl cl2 : Nat → Prop} {b a p : Nat} (h : Sf8 μx μm It Bk cl b a p) (hp : p ≤ (μm.1 0 87).toNatClampNeg) (hI : ∀ (i x : Nat), It[i]? = some x → It2[i]? = some x) (c40 : ∀ (i x : Nat), It[i]? = some x → q.1 40 (8 * i + 3) = μx.1 40 (8 * i + 3) ∧ q.1 40 (8 * i + 4) = μx.1 40 (8 * i + 4)) (hc : ∀ x, cl x → Bl7 Bk2 x = Bl7 Bk x ∧ q.2.1 44 x = μx.2.1 44 x ∧ cl2 x) (hb : Bl7 Bk2 b = Bl7 Bk b) (lO : (μm.1 0 88).toNatClampNeg ≤ (z.1 0 88).toNatClampNeg) (zi : ∀ i k, i = 46 ∨ i = 49 ∨ i = 50 ∨ i = 51 → k < (μm.1 0 87).toNatClampNeg → z.1 i k = μm.1 i k) (zo : ∀ i k, i = 53 ∨ i = 54 → k < (μm.1 0 88).toNatClampNeg → z.1 i k = μm.1 i k) : Sf8 q z It2 Bk2 cl2 b a p := by
  unfold Sf8 at h ⊢
  rw [hb]
  exact h.cong hI c40 hc (fun f hf => ⟨zo 53 f (Or.inl rfl) hf, zo 54 f (Or.inr rfl) hf⟩) lO (fun k hk => ⟨zi 46 k (by omega) (by omega), zi 49 k (by omega) (by omega), zi 50 k (by omega) (by omega), zi 51 k (by omega) (by omega)⟩)
end

section
theorem Sg7.cong2 {it it2 : Nat → Option Nat} {kd c40 kd2 d40 : Nat → Int32} {bl bl2 : Nat → List Nat} {cl cl2 : Nat → Prop} {e44 f44 : Nat → Int64} {el en fr o53 o54 el2 en2 fr2 q53 q54 : Nat → Int32} {O O2 a b : Nat} {L : List Nat} (h : Sg7 it kd c40 bl cl e44 el en fr o53 o54 O L a b) (h1 : ∀ i p, it i = some p → it2 i = some p) (h3 : ∀ i p, it i = some p → d40 (8 * i + 3) = c40 (8 * i + 3) ∧ d40 (8 * i + 4) = c40 (8 * i + 4)) (h4 : ∀ x, cl x → bl2 x = bl x ∧ f44 x = e44 x ∧ cl2 x) (h5 : ∀ f, f < O → q53 f = o53 f ∧ q54 f = o54 f) (hO : O ≤ O2) : (∀ p, a ≤ p → p < b → kd2 p = kd p ∧ el2 p = el p ∧ en2 p = en p ∧ fr2 p = fr p) → Sg7 it2 kd2 d40 bl2 cl2 f44 el2 en2 fr2 q53 q54 O2 L a b := by
  have hen : ∀ x e, cl x → fr2 e = fr e → En7 e44 fr o53 o54 O x e → En7 f44 fr2 q53 q54 O2 x e := by
    rintro x e hx he ⟨m, y, f, a1, a2, a3, a4, a5, a6⟩
    exact ⟨m, y, f, a1, by rw [(h4 x hx).2.1]; exact a2, by rw [he]; exact a3, by omega, by rw [(h5 f a4).1]; exact a5, by rw [(h5 f a4).2]; exact a6⟩
  refine Sg7.ind (M := fun L a b => (∀ p, a ≤ p → p < b → kd2 p = kd p ∧ el2 p = el p ∧ en2 p = en p ∧ fr2 p = fr p) → Sg7 it2 kd2 d40 bl2 cl2 f44 el2 en2 fr2 q53 q54 O2 L a b) ?_ ?_ ?_ h
  · intro a _; exact Sg7.nil
  · intro L i a b g ih g1 g2 hp
    have := g.le
    exact Sg7.one (ih (fun p x y => hp p x (by omega))) (h1 i b g1) (by rw [(hp b (by omega) (by omega)).1]; exact g2)
  · intro L i a b b1 b2 e1 e2 g ih g1 g2 k1 i1 g3 k2 i2 g4 hp
    have l0 := g.le
    have l1 := k1.le
    have l2 := k2.le
    obtain ⟨c3, c4⟩ := h3 i b g1.1
    obtain ⟨x1, x2, x3⟩ := h4 b1 g2.1
    obtain ⟨y1, y2, y3⟩ := h4 b2 g2.2
    obtain ⟨p1, p2, p3, _⟩ := hp b (by omega) (by omega)
    obtain ⟨q1, _, _, q4⟩ := hp e1 (by omega) (by omega)
    obtain ⟨r1, _, _, r4⟩ := hp e2 (by omega) (by omega)
    refine Sg7.iff (b1 := b1) (b2 := b2) (ih (fun p x y => hp p x (by omega))) ⟨h1 i b g1.1, by rw [p1]; exact g1.2.1, by rw [c3]; exact g1.2.2.1, by rw [c4]; exact g1.2.2.2⟩ ⟨x3, y3⟩ ?_ ⟨by rw [q1]; exact g3.1, by rw [p2]; exact g3.2.1, hen b1 e1 g2.1 q4 g3.2.2⟩ ?_ ⟨by rw [r1]; exact g4.1, by rw [p3]; exact g4.2.1, hen b2 e2 g2.2 r4 g4.2.2⟩
    · rw [x1]; exact i1 (fun p x y => hp p (by omega) (by omega))
    · rw [y1]; exact i2 (fun p x y => hp p (by omega) (by omega))
theorem Sf8.keep2 {μx μm q z : Mem} {It Bk It2 Bk2 : List Nat} {cl cl2 : Nat → Prop} {b a p : Nat} (h : Sf8 μx μm It Bk cl b a p) (hI : ∀ (i x : Nat), It[i]? = some x → It2[i]? = some x) (c40 : ∀ (i x : Nat), It[i]? = some x → q.1 40 (8 * i + 3) = μx.1 40 (8 * i + 3) ∧ q.1 40 (8 * i + 4) = μx.1 40 (8 * i + 4)) (hc : ∀ x, cl x → Bl7 Bk2 x = Bl7 Bk x ∧ q.2.1 44 x = μx.2.1 44 x ∧ cl2 x) (hb : Bl7 Bk2 b = Bl7 Bk b) (lO : (μm.1 0 88).toNatClampNeg ≤ (z.1 0 88).toNatClampNeg) (zi : ∀ i k, i = 46 ∨ i = 49 ∨ i = 50 ∨ i = 51 → a ≤ k → k < p → z.1 i k = μm.1 i k) (zo : ∀ i k, i = 53 ∨ i = 54 → k < (μm.1 0 88).toNatClampNeg → z.1 i k = μm.1 i k) : Sf8 q z It2 Bk2 cl2 b a p := by
  unfold Sf8 at h ⊢
  rw [hb]
  exact h.cong2 hI c40 hc (fun f hf => ⟨zo 53 f (Or.inl rfl) hf, zo 54 f (Or.inr rfl) hf⟩) lO (fun k hk hk2 => ⟨zi 46 k (by omega) hk hk2, zi 49 k (by omega) hk hk2, zi 50 k (by omega) hk hk2, zi 51 k (by omega) hk hk2⟩)
def Oi8 (h m p0 o : Nat) (s bt : Int32) (z2 ze : Mem) : Prop := ((z2.1 0 87).toInt = (p0 : Int) ∧ (z2.1 0 88).toInt = (o : Int) ∧ (ze.1 0 87).toInt = ((p0 + 1 : Nat) : Int) ∧ (ze.1 0 88).toInt = ((o + 1 : Nat) : Int)) ∧ (ze.1 0 89 = z2.1 0 89 ∧ ze.1 0 93 = z2.1 0 93 ∧ ze.1 0 66 = z2.1 0 66) ∧ (ze.1 46 p0 = 6 ∧ ze.1 48 p0 = 0 ∧ (ze.1 51 p0).toInt = (o : Int) ∧ (ze.1 52 p0).toInt = 1 ∧ ze.1 53 o = s ∧ ze.1 54 o = bt) ∧ Hm8 h m p0 o z2 ze
theorem Cn7.of {μ q : Mem} {Bk : List Nat} (h : Cn7 μ Bk) (h6 : q.1 39 6 = μ.1 39 6) (h42 : ∀ k, q.1 42 k = μ.1 42 k) (h43 : ∀ k, q.1 43 k = μ.1 43 k) (h40 : ∀ k, q.1 40 k = μ.1 40 k) : Cn7 q Bk := fun b hb => by
  rw [h6] at hb
  exact (h b hb).cong (h42 b) (h43 b) (fun i _ => h40 _)
theorem cho_open {P : Nat} {C : List Th3} {G : List Fn5} {v b a h D m m2 bc ob B p0 o : Nat} {N : List Int32} {q2 z2 qa qb qf ze : Mem} {It Bk : List Nat} {cl : Nat → Prop} {u : Int64} {s bt : Int32} (W : W9 P C G v b a h D N m bc ob q2 z2 It Bk cl) (hB : (q2.1 39 6).toInt = (B : Int)) (nb : Nb7 B q2 qa) (ob7 : Ob7 bc u (nI B) qa qb) (hB6 : B < 672) (hqf : qf = sF (sF qb 137 13 (qb.1 137 13 + 1)) 137 8 (nI B)) (oi : Oi8 h m p0 o s bt z2 ze) (h90 : ze.1 0 90 = z2.1 0 90 + 1) (hob : ob ≤ 40) (hm2 : (ze.1 0 65).toInt = (m2 : Int)) : W9 P C G v B (p0 + 1) h D N m2 (bc + 1) (ob + 1) qf ze It Bk cl ∧ (qf.1 39 6).toInt = ((B + 1 : Nat) : Int) ∧ (∀ x, x < B → qf.2.1 44 x = q2.2.1 44 x) ∧ (∀ b2 a2 p2, b2 < B → p2 ≤ p0 → Sf8 q2 z2 It Bk cl b2 a2 p2 → Sf8 qf ze It Bk cl b2 a2 p2) ∧ Hx8 v h bc q2 qf ∧ qf.1 138 (3 * bc) = q2.1 137 8 ∧ qf.1 138 (3 * bc + 1) = nI B ∧ qf.2.1 139 bc = u := by
  have e1 : (1 : Int32).toInt = 1 := by decide
  obtain ⟨⟨i1, i2, i3, i4⟩, ⟨i5, i6, i7⟩, ⟨j1, j1', j2, j3, j4, j5⟩, hm⟩ := oi
  have hx : Hx8 v h bc q2 qf := by rw [hqf]; exact ((nb.hx.tr (ob7.hx (Nat.le_refl _))).tr (Hx8.w _ (by omega))).tr (Hx8.w _ (by omega))
  obtain ⟨n1, n2, n3, n4, n5, n6, n7⟩ := nb
  obtain ⟨o1, o2, o3, o4, o5, o6⟩ := ob7
  obtain ⟨⟨hT, hL, hC, ⟨s1, s2, s3, s4, s5, s6⟩, hcb, ⟨m68, m69⟩, hS⟩, hBb, hSk, _⟩ := W.1
  obtain ⟨c12, c13, c90⟩ := W.1.2.2.2.2.2.2.1
  have f : ∀ i k, i ≠ 137 → qf.1 i k = qb.1 i k := fun i k hi => by rw [hqf, sF_i hi, sF_i hi]
  have f2 : ∀ i k, i ≠ 137 → i ≠ 138 → qf.1 i k = qa.1 i k := fun i k a1 a2 => by rw [f i k a1, o6 i k a1 a2]
  have fl : ∀ i k, i ≠ 139 → qf.2.1 i k = qa.2.1 i k := fun i k hi => by rw [hqf]; show qb.2.1 i k = _; rw [o5, if_neg (fun e => hi e.1)]
  have f6 : (qf.1 39 6).toInt = ((B + 1 : Nat) : Int) := by rw [f2 39 6 (by decide) (by decide)]; exact n2
  have f44 : ∀ x, x ≠ B → qf.2.1 44 x = q2.2.1 44 x := fun x hx => by rw [fl 44 x (by decide), n6, if_neg (fun e => hx e.2)]
  have f40 : ∀ j, qf.1 40 j = q2.1 40 j := fun j => by rw [f2 40 j (by decide) (by decide), n7 40 j (by decide) (by decide) (by decide)]
  have f39 : ∀ k, k ≠ 6 → qf.1 39 k = q2.1 39 k := fun k hk => by rw [f2 39 k (by decide) (by decide), n3 k hk]
  have f45 : ∀ k, qf.1 45 k = q2.1 45 k := fun k => by rw [f2 45 k (by decide) (by decide), n7 45 k (by decide) (by decide) (by decide)]
  have b13 : qb.1 137 13 = q2.1 137 13 := by rw [o3 13 (by decide), n7 137 13 (by decide) (by decide) (by decide)]
  have hI : ∀ x, x ∈ It → x < p0 := fun x hx => by have := W.1.1.ilt x hx; rw [tn_of i1] at this; exact this
  have hBk := hBb
  have cn : Cn7 qa Bk ∧ Bb7 qa Bk := cn_new ⟨n1, n2, n3, n4, n5, n6, n7⟩ hB hC hBb
  have hncl : ¬ cl B := fun hc => by have := W.2.2.2.1 B hc; omega
  have g0 : ∀ k, k ≠ 0 → k ≠ 1 → k ≠ 56 → k ≠ 65 → k ≠ 66 → k ≠ 87 → k ≠ 88 → k ≠ 89 → k ≠ 90 → k ≠ 93 → ze.1 0 k = z2.1 0 k := hm.2.1
  have gi : ∀ i k, 46 ≤ i → i ≤ 52 → k < p0 → ze.1 i k = z2.1 i k := fun i k a1 a2 a3 => hm.2.2.1 i k (by omega) (by omega) (by omega) (by omega) (by omega) (by omega) (by omega) (by omega)
  have go : ∀ i k, i = 53 ∨ i = 54 → k < o → ze.1 i k = z2.1 i k := fun i k a1 a2 => hm.2.2.1 i k (by omega) (by omega) (by omega) (by omega) (by omega) (by omega) (by omega) (by omega)
  have gh : ∀ i k, 57 ≤ i → i ≤ 66 → ze.1 i k = z2.1 i k := fun i k a1 a2 => hm.2.2.1 i k (by omega) (by omega) (by omega) (by omega) (by omega) (by omega) (by omega) (by omega)
  have R : Re7 qf ze It Bk cl v B (p0 + 1) := by
    refine ⟨hT.grow (f39 1 (by decide)) f40 (f45 _) (fun j => by rw [fl 41 j (by decide), n6, if_neg (by omega)]) i5 i6 i3 i4 (by omega) (by omega) (fun i k a1 a2 => gi i k (by omega) (by omega) (hI k a2)) (fun i k a1 a2 => go i k a1 (by omega)) (fun i k a1 => gh i k (by omega) (by omega)), hL, ?_, ⟨?_, ?_, ?_, ?_, s5, ?_⟩, hncl, ⟨?_, ?_⟩, ?_⟩
    · exact cn.1.of (f2 39 6 (by decide) (by decide)) (fun k => f2 42 k (by decide) (by decide)) (fun k => f2 43 k (by decide) (by decide)) (fun k => f2 40 k (by decide) (by decide))
    · rw [hqf, sF_k (by decide), sF_k (by decide), o3 6 (by decide), n7 137 6 (by decide) (by decide) (by decide)]; exact s1
    · rw [hqf, sF_k (by decide), sF_k (by decide), o3 7 (by decide), n7 137 7 (by decide) (by decide) (by decide)]; exact s2
    · rw [hqf, sF_v]; exact ni_ti (by omega)
    · rw [f39 2 (by decide)]; exact s4
    · rw [f6]; omega
    · rw [g0 68 (by decide) (by decide) (by decide) (by decide) (by decide) (by decide) (by decide) (by decide) (by decide) (by decide)]; exact m68
    · rw [g0 69 (by decide) (by decide) (by decide) (by decide) (by decide) (by decide) (by decide) (by decide) (by decide) (by decide)]; exact m69
    · rw [bl_none (fun x hx => by have := hBb x hx; omega), tn_of i3]; exact Sg7.nil
  refine ⟨W.hop hx hm R (fun x hx => by have := hBb x hx; rw [f6]; omega) ?_ hm2 ?_ ?_ ?_ (fun x hx => by have := W.2.2.2.1 x hx; rw [f6]; omega) ?_ ?_, f6, fun x hx => f44 x (by omega), ?_, hx, ?_, ?_, ?_⟩
  · exact hSk.of hx.2.2.2.2.2.2.2.2 hm.2.2.2 (by rw [hqf, sF_i (by decide), sF_i (by decide), o6 30 7 (by decide) (by decide), n7 30 7 (by decide) (by decide) (by decide)]) i7 (fun k hk => hx.2.2.2.2.2.2.2.1 36 k (by decide) (by decide) (by decide) (by decide) (by omega) (by omega)) (fun k hk => hm.2.2.1 40 k (by decide) (by omega) (by omega) (by omega) (by omega) (by omega) (by decide) (by decide))
  · rw [hqf, sF_k (by decide), sF_k (by decide)]; exact o2
  · rw [hqf, sF_k (by decide), sF_v, b13, ti_add (by omega) (by omega), c13, e1]; omega
  · rw [h90, ti_add (by omega) (by omega), c90, e1]; omega
  · rw [f6, f39 2 (by decide)]
    have := W.2.2.2.2.1
    omega
  · intro u2 hu2
    rw [f39 2 (by decide), f45, W.2.2.2.2.2.2 u2 hu2]
    unfold Ct9
    refine congrArg (fun (L : List Nat) => (L.length : Int)) (List.filter_congr (fun x hx => ?_))
    rw [gi 46 x (by decide) (by decide) (hI x hx), gi 48 x (by decide) (by decide) (hI x hx)]
  · intro b2 a2 p2 hb2 hp2 hs
    exact hs.keep2 (fun _ _ e => e) (fun i x _ => ⟨f40 _, f40 _⟩) (fun x hx => ⟨rfl, f44 x (fun e => hncl (e ▸ hx)), hx⟩) rfl (by rw [tn_of i2, tn_of i4]; omega) (fun i k a1 _ a3 => gi i k (by omega) (by omega) (by omega)) (fun i k a1 a2 => go i k a1 (by rw [tn_of i2] at a2; exact a2))
  · rw [f 138 _ (by decide), o4, if_neg (by omega), if_neg (by omega), if_pos rfl, n7 137 8 (by decide) (by decide) (by decide)]
  · rw [f 138 _ (by decide), o4, if_neg (by omega), if_pos rfl]
  · rw [hqf]; show qb.2.1 139 bc = u; rw [o5, if_pos ⟨rfl, rfl⟩]
end

section
theorem W9.lifted {P : Nat} {C : List Th3} {G : List Fn5} {v b a h D m bc ob y : Nat} {N : List Int32} {q1 z1 : Mem} {It Bk It2 Bk2 : List Nat} {cl : Nat → Prop} {r : Int64 × Mem} {s : Int32 × Mem} (W : W9 P C G v b a h D N m bc ob q1 z1 It Bk cl) (hR : Re7 r.2 s.2 It2 Bk2 cl v b a) (g : Gl8 b q1 z1 It Bk cl r.2 s.2 It2 Bk2 cl) (fx : Fx7 v q1 r.2) (fm : Fm7 (z1.1 0 87).toNatClampNeg (z1.1 0 88).toNatClampNeg z1 s.2) : W9 P C G v b a h D N m bc ob r.2 s.2 It2 Bk2 cl ∧ ∀ B, F9 v b B h D N.length bc m q1 z1 It Bk cl r.2 s.2 It2 Bk2 cl := by
  have FX : Cx8 v h q1 r.2 := fx.cx
  have FM : Cm8 h m (z1.1 0 87).toNatClampNeg (z1.1 0 88).toNatClampNeg z1 s.2 := fm.cm
  have c7 : r.2.1 30 7 = q1.1 30 7 := fx.2.1 30 7 (by decide) (by decide) (by decide) (by decide) (by decide)
  have d66 : s.2.1 0 66 = z1.1 0 66 := fm.2.1 66 (by decide) (by decide) (by decide) (by decide) (by decide)
  have d65 : s.2.1 0 65 = z1.1 0 65 := fm.2.1 65 (by decide) (by decide) (by decide) (by decide) (by decide)
  have hb : Bb7 r.2 Bk2 := by
    intro x hx
    rw [FX.2.2.2.2.1 6 (by decide)]
    obtain ⟨⟨E, F, _, e2, e3, _⟩, _⟩ := g.1 ((q1.1 39 6).toInt.toNat + (Bk2.foldl Nat.max 0) + 1)
    rw [e2] at hx
    rcases List.mem_append.mp hx with e | e
    · exact W.1.2.1 x e
    · rcases e3 x e with e4 | e4
      · rw [e4]; exact W.1.1.2.2.2.1.2.2.2.2.2
      · exfalso
        have mx : ∀ (L : List Nat) (i y : Nat), y ∈ L → y ≤ L.foldl Nat.max i ∧ i ≤ L.foldl Nat.max i := by
          intro L
          induction L with
          | nil => intro i y hy; cases hy
          | cons w L ih =>
            intro i y hy
            have mono : ∀ (L : List Nat) (i : Nat), i ≤ L.foldl Nat.max i := by
              intro L
              induction L with
              | nil => intro i; exact Nat.le_refl _
              | cons w L ih => intro i; exact Nat.le_trans (Nat.le_max_left i w) (ih _)
            refine ⟨?_, mono _ _⟩
            rcases List.mem_cons.mp hy with e | e
            · subst e
              exact Nat.le_trans (Nat.le_max_right i y) (mono L _)
            · exact (ih _ y e).1
        have := (mx Bk2 0 x (by rw [e2]; exact List.mem_append.mpr (Or.inr e))).1
        omega
  exact ⟨W.move (W.1.move FX FM hR hb (W.1.2.2.1.low FX FM (Nat.le_refl _) (by rw [c7]; exact W.x7.1) (by rw [d66]; exact W.x7.2)) (by rw [d65]; exact W.x65)) FX FM g, fun B => F9.of (g.1 B) FX FM (Nat.le_refl _) (Nat.le_refl _) (re_le W.1.1 hR (g.1 0))⟩
def Mi8 (h m p0 e1 o : Nat) (s bt : Int32) (z4 z : Mem) : Prop := ((z4.1 0 87).toInt = (e1 : Int) ∧ (z4.1 0 88).toInt = (o : Int) ∧ (z.1 0 87).toInt = ((e1 + 1 : Nat) : Int) ∧ (z.1 0 88).toInt = ((o + 1 : Nat) : Int)) ∧ (z.1 0 89 = z4.1 0 89 ∧ z.1 0 93 = z4.1 0 93 ∧ z.1 0 66 = z4.1 0 66 ∧ z.1 0 90 = z4.1 0 90) ∧ (z.1 46 e1 = 13 ∧ (z.1 51 e1).toInt = (o : Int) ∧ (z.1 49 p0).toInt = (e1 : Int) ∧ z.1 53 o = s ∧ z.1 54 o = bt) ∧ Hm8 h m p0 o z4 z ∧ ∀ i k, 46 ≤ i → i ≤ 52 → k < e1 → ¬ (i = 49 ∧ k = p0) → z.1 i k = z4.1 i k
theorem cho_mid {P : Nat} {C : List Th3} {G : List Fn5} {v a h D m m2 bc ob B B2 p0 e1 o : Nat} {N : List Int32} {q4 z4 q6 q8 z : Mem} {It Bk : List Nat} {cl : Nat → Prop} {x : Int64} {mk : Nat} {bt : Int32} (W : W9 P C G v B a h D N m (bc + 1) (ob + 1) q4 z4 It Bk cl) (hB : (q4.1 39 6).toInt = (B2 : Int)) (nb : Nb7 B2 (sL q4 44 B x) q6) (hB6 : B2 < 672) (hq8 : q8 = sF (sF q6 137 8 (nI B2)) 138 (3 * bc + 2) (nI B2)) (mi : Mi8 h m p0 e1 o (nI mk) bt z4 z) (hmk : mk = 0 ∨ mk = 1 ∨ mk = 3) (hx : x = s_X0_make (nI mk) bt) (hp0 : p0 ∉ It) (hbd : (B2 : Int) + 1 + (q4.1 39 2).toInt ≤ (v : Int) + 2 + 2 * (It.length : Int) + 2 * ((ob + 1 : Nat) : Int)) (hm2 : (z.1 0 65).toInt = (m2 : Int)) : W9 P C G v B2 (e1 + 1) h D N m2 (bc + 1) (ob + 1) q8 z It Bk (fun y => cl y ∨ y = B) ∧ (q8.1 39 6).toInt = ((B2 + 1 : Nat) : Int) ∧ (∀ y, y < B2 → y ≠ B → q8.2.1 44 y = q4.2.1 44 y) ∧ (∀ b2 a2 p2, b2 < B2 → (p2 ≤ p0 ∨ p0 < a2) → p2 ≤ e1 → Sf8 q4 z4 It Bk cl b2 a2 p2 → Sf8 q8 z It Bk (fun y => cl y ∨ y = B) b2 a2 p2) ∧ Hx8 v h bc q4 q8 ∧ (q8.1 138 (3 * bc) = q4.1 138 (3 * bc) ∧ q8.1 138 (3 * bc + 1) = q4.1 138 (3 * bc + 1) ∧ q8.1 138 (3 * bc + 2) = nI B2 ∧ q8.2.1 139 bc = q4.2.1 139 bc) ∧ En7 (q8.2.1 44) (z.1 51) (z.1 53) (z.1 54) (z.1 0 88).toNatClampNeg B e1 ∧ (∀ i k, 46 ≤ i → i ≤ 52 → k < e1 → ¬ (i = 49 ∧ k = p0) → z.1 i k = z4.1 i k) := by
  obtain ⟨⟨i1, i2, i3, i4⟩, ⟨i5, i6, i7, i8⟩, ⟨j1, j2, j3, j4, j5⟩, hm, hfin⟩ := mi
  have hBB : (B : Int) < (B2 : Int) := by rw [← hB]; exact W.1.1.2.2.2.1.2.2.2.2.2
  have hx0 : Hx8 v h bc q4 q8 := by rw [hq8]; exact (((Hx8.e44 (k := B) x).tr nb.hx).tr (Hx8.w _ (by omega))).tr (Hx8.br _ (by omega))
  obtain ⟨n1, n2, n3, n4, n5, n6, n7⟩ := nb
  obtain ⟨⟨hT, hL, hC, ⟨s1, s2, s3, s4, s5, s6⟩, hcb, ⟨m68, m69⟩, hS⟩, hBb, hSk, _⟩ := W.1
  obtain ⟨c12, c13, c90⟩ := W.1.2.2.2.2.2.2.1
  have f : ∀ i k, i ≠ 137 → i ≠ 138 → q8.1 i k = q6.1 i k := fun i k a1 a2 => by rw [hq8, sF_i a2, sF_i a1]
  have f7 : ∀ i k, i ≠ 137 → i ≠ 138 → i ≠ 39 → i ≠ 42 → i ≠ 43 → q8.1 i k = q4.1 i k := fun i k a1 a2 a3 a4 a5 => by rw [f i k a1 a2, n7 i k a3 a4 a5]; rfl
  have f6 : (q8.1 39 6).toInt = ((B2 + 1 : Nat) : Int) := by rw [f 39 6 (by decide) (by decide)]; exact n2
  have fl : ∀ i k, i ≠ 44 → q8.2.1 i k = q4.2.1 i k := fun i k hi => by
    rw [hq8]; show q6.2.1 i k = _
    rw [n6, if_neg (fun e => hi e.1), sL_at, if_neg (fun e => hi e.1)]
  have f44 : ∀ y, y ≠ B2 → y ≠ B → q8.2.1 44 y = q4.2.1 44 y := fun y h1 h2 => by
    rw [hq8]; show q6.2.1 44 y = _
    rw [n6, if_neg (fun e => h1 e.2), sL_at, if_neg (fun e => h2 e.2)]
  have f44B : q8.2.1 44 B = x := by
    rw [hq8]; show q6.2.1 44 B = _
    rw [n6, if_neg (by omega), sL_at, if_pos ⟨rfl, rfl⟩]
  have f40 : ∀ j, q8.1 40 j = q4.1 40 j := fun j => f7 40 j (by decide) (by decide) (by decide) (by decide) (by decide)
  have f39 : ∀ k, k ≠ 6 → q8.1 39 k = q4.1 39 k := fun k hk => by rw [f 39 k (by decide) (by decide), n3 k hk]; rfl
  have f45 : ∀ k, q8.1 45 k = q4.1 45 k := fun k => f7 45 k (by decide) (by decide) (by decide) (by decide) (by decide)
  have f137 : ∀ k, k ≠ 8 → q8.1 137 k = q4.1 137 k := fun k hk => by rw [hq8, sF_i (by decide), sF_k hk, n7 137 k (by decide) (by decide) (by decide)]; rfl
  have hI : ∀ y, y ∈ It → y < e1 := fun y hy => by have := W.1.1.ilt y hy; rw [tn_of i1] at this; exact this
  have cn : Cn7 q6 Bk ∧ Bb7 q6 Bk := cn_new (μ := sL q4 44 B x) ⟨n1, n2, n3, n4, n5, n6, n7⟩ hB hC hBb
  have hn2 : ¬ (cl B2 ∨ B2 = B) := by
    rintro (hc | hc)
    · have := W.2.2.2.1 B2 hc; omega
    · omega
  have g0 : ∀ k, k ≠ 0 → k ≠ 1 → k ≠ 56 → k ≠ 65 → k ≠ 66 → k ≠ 87 → k ≠ 88 → k ≠ 89 → k ≠ 90 → k ≠ 93 → z.1 0 k = z4.1 0 k := hm.2.1
  have gi : ∀ i k, 46 ≤ i → i ≤ 52 → i ≠ 49 → k < e1 → z.1 i k = z4.1 i k := fun i k a1 a2 a4 a3 => hfin i k a1 a2 a3 (fun e => a4 e.1)
  have go : ∀ i k, i = 53 ∨ i = 54 → k < o → z.1 i k = z4.1 i k := fun i k a1 a2 => hm.2.2.1 i k (by omega) (by omega) (by omega) (by omega) (by omega) (by omega) (by omega) (by omega)
  have gh : ∀ i k, 57 ≤ i → i ≤ 66 → z.1 i k = z4.1 i k := fun i k a1 a2 => hm.2.2.1 i k (by omega) (by omega) (by omega) (by omega) (by omega) (by omega) (by omega) (by omega)
  have R : Re7 q8 z It Bk (fun y => cl y ∨ y = B) v B2 (e1 + 1) := by
    refine ⟨hT.grow (f39 1 (by decide)) f40 (f45 _) (fun j => fl 41 j (by decide)) i5 i6 i3 i4 (by omega) (by omega) (fun i k a1 a2 => gi i k (by omega) (by omega) (by omega) (hI k a2)) (fun i k a1 a2 => go i k a1 (by omega)) (fun i k a1 => gh i k (by omega) (by omega)), hL, ?_, ⟨?_, ?_, ?_, ?_, s5, ?_⟩, hn2, ⟨?_, ?_⟩, ?_⟩
    · exact cn.1.of (f 39 6 (by decide) (by decide)) (fun k => f 42 k (by decide) (by decide)) (fun k => f 43 k (by decide) (by decide)) (fun k => f 40 k (by decide) (by decide))
    · rw [f137 6 (by decide)]; exact s1
    · rw [f137 7 (by decide)]; exact s2
    · rw [hq8, sF_i (by decide), sF_v]; exact ni_ti (by omega)
    · rw [f39 2 (by decide)]; exact s4
    · rw [f6]; omega
    · rw [g0 68 (by decide) (by decide) (by decide) (by decide) (by decide) (by decide) (by decide) (by decide) (by decide) (by decide)]; exact m68
    · rw [g0 69 (by decide) (by decide) (by decide) (by decide) (by decide) (by decide) (by decide) (by decide) (by decide) (by decide)]; exact m69
    · rw [bl_none (fun y hy => by have := hBb y hy; omega), tn_of i3]; exact Sg7.nil
  refine ⟨W.hop hx0 hm R (fun y hy => by have := hBb y hy; rw [f6]; omega) ?_ hm2 ?_ ?_ ?_ ?_ ?_ ?_, f6, fun y h1 h2 => f44 y (by omega) h2, ?_, hx0, ⟨?_, ?_, ?_, fl 139 bc (by decide)⟩, ?_, hfin⟩
  · exact hSk.of hx0.2.2.2.2.2.2.2.2 hm.2.2.2 (f7 30 7 (by decide) (by decide) (by decide) (by decide) (by decide)) i7 (fun k hk => fl 36 k (by decide)) (fun k hk => hm.2.2.1 40 k (by decide) (by omega) (by omega) (by omega) (by omega) (by omega) (by decide) (by decide))
  · rw [f137 12 (by decide)]; exact c12
  · rw [f137 13 (by decide)]; exact c13
  · rw [i8]; exact c90
  · rintro y (hy | hy)
    · have := W.2.2.2.1 y hy; rw [f6]; omega
    · rw [f6]; omega
  · rw [f6, f39 2 (by decide)]
    omega
  · intro u2 hu2
    rw [f39 2 (by decide), f45, W.2.2.2.2.2.2 u2 hu2]
    unfold Ct9
    refine congrArg (fun (L : List Nat) => (L.length : Int)) (List.filter_congr (fun y hy => ?_))
    rw [gi 46 y (by decide) (by decide) (by decide) (hI y hy), gi 48 y (by decide) (by decide) (by decide) (hI y hy)]
  · intro b2 a2 p2 hb2 hp2 hp3 hs
    refine hs.keep2 (fun _ _ e => e) (fun i y _ => ⟨f40 _, f40 _⟩) (fun y hy => ⟨rfl, f44 y (fun e => hn2 (Or.inl (e ▸ hy))) (fun e => hcb (e ▸ hy)), Or.inl hy⟩) rfl (by rw [tn_of i2, tn_of i4]; omega) (fun i k a1 a2' a3 => hfin i k (by omega) (by omega) (by omega) (by omega)) (fun i k a1 a2' => go i k a1 (by rw [tn_of i2] at a2'; exact a2'))
  · rw [hq8, sF_k (by omega), sF_i (by decide), n7 138 _ (by decide) (by decide) (by decide)]; rfl
  · rw [hq8, sF_k (by omega), sF_i (by decide), n7 138 _ (by decide) (by decide) (by decide)]; rfl
  · rw [hq8, sF_v]
  · exact ⟨mk, bt, o, hmk, by rw [f44B]; exact hx, j2, by rw [tn_of i4]; omega, j4, j5⟩
end

section
def Ci8 (h m p0 e2 o n : Nat) (s bt : Int32) (z6 z : Mem) : Prop := ((z6.1 0 87).toInt = (e2 : Int) ∧ (z6.1 0 88).toInt = (o : Int) ∧ (z.1 0 87).toInt = ((e2 + 1 : Nat) : Int) ∧ (z.1 0 88).toInt = ((o + 1 : Nat) : Int)) ∧ ((z.1 0 89).toInt = ((n + 1 : Nat) : Int) ∧ z.1 0 93 = z6.1 0 93 + 1 ∧ z.1 0 66 = z6.1 0 66 ∧ z.1 0 90 = z6.1 0 90 - 1) ∧ (z.1 46 e2 = 14 ∧ (z.1 51 e2).toInt = (o : Int) ∧ (z.1 50 p0).toInt = (e2 : Int) ∧ z.1 47 p0 = z6.1 0 93 ∧ z.1 53 o = s ∧ z.1 54 o = bt) ∧ Hm8 h m p0 o z6 z ∧ ∀ i k, 46 ≤ i → i ≤ 52 → k < e2 → ¬ (i = 50 ∧ k = p0) → ¬ (i = 47 ∧ k = p0) → z.1 i k = z6.1 i k
theorem cho_close {P : Nat} {C : List Th3} {G : List Fn5} {v a a6 h D m m2 bc ob b B B2 p0 e1 e2 o o0 : Nat} {N : List Int32} {q6 z6 q7 q9 q z : Mem} {It Bk : List Nat} {cl : Nat → Prop} {cond : Int64} {cbt bt t13 : Int32} {mk : Nat} {x : Int64} (W : W9 P C G v B2 a6 h D N m (bc + 1) (ob + 1) q6 z6 It Bk cl) (hn : It.length < 300) (hq7 : q7 = sF (sL q6 44 B2 x) 137 8 (nI b)) (lv : Lv7 6 0 cond 0 v b It.length q7 q9) (hq : q = sF (sF (sF (sF q9 137 12 (q9.1 137 12 - 1)) 137 13 t13) 40 (8 * It.length + 3) (nI B)) 40 (8 * It.length + 4) (nI B2)) (ht13 : t13.toInt = (ob : Int)) (ci : Ci8 h m p0 e2 o It.length (nI mk) bt z6 z) (hmk : mk = 0 ∨ mk = 1 ∨ mk = 3) (hx : x = s_X0_make (nI mk) bt) (hp0 : p0 ∉ It) (hp2 : p0 < e1 ∧ e1 < e2) (ha6 : a6 = e1 + 1) (k46 : z6.1 46 p0 = 6) (k48 : z6.1 48 p0 = 0) (k51 : (z6.1 51 p0).toInt = (o0 : Int)) (k52 : (z6.1 52 p0).toInt = 1) (ko : o0 < o) (k53 : z6.1 53 o0 = nI 3) (k54 : z6.1 54 o0 = cbt) (hcond : cond = s_X0_make (nI 3) cbt) (k62 : (z6.1 62 v).toInt ≤ (p0 : Int)) (hbB : b < B ∧ B < B2) (hclb : ¬ cl b) (hclB : cl B) (S1 : Sf8 q6 z6 It Bk cl b a p0) (S2 : Sf8 q6 z6 It Bk cl B (p0 + 1) e1) (r46 : z6.1 46 e1 = 13) (r49 : (z6.1 49 p0).toInt = (e1 : Int)) (E1 : En7 (q6.2.1 44) (z6.1 51) (z6.1 53) (z6.1 54) (z6.1 0 88).toNatClampNeg B e1) (hm2 : (z.1 0 65).toInt = (m2 : Int)) : W9 P C G v b a h D N m2 bc ob q z (It ++ [p0]) (Bk ++ [b]) (fun y => cl y ∨ y = B2) ∧ (∀ b' a' p', b' ≠ b → b' < B2 → (p' ≤ p0 ∨ p0 < a') → p' ≤ e2 → Sf8 q6 z6 It Bk cl b' a' p' → Sf8 q z (It ++ [p0]) (Bk ++ [b]) (fun y => cl y ∨ y = B2) b' a' p') ∧ (∀ y, y ≠ B2 → q.2.1 44 y = q6.2.1 44 y) ∧ Hx8 v h bc q6 q ∧ q.1 39 6 = q6.1 39 6 ∧ (q.1 39 1).toInt = ((It.length + 1 : Nat) : Int) ∧ (∀ i k, 46 ≤ i → i ≤ 52 → k < e2 → ¬ (i = 50 ∧ k = p0) → ¬ (i = 47 ∧ k = p0) → z.1 i k = z6.1 i k) := by
  have e1' : (1 : Int32).toInt = 1 := by decide
  obtain ⟨⟨i1, i2, i3, i4⟩, ⟨i5, i6, i7, i8⟩, ⟨j1, j2, j3, j3', j4, j5⟩, hm, hfin⟩ := ci
  obtain ⟨⟨hT, hL, hC, ⟨s1, s2, s3, s4, s5, s6⟩, hcb, ⟨m68, m69⟩, hS⟩, hBb, hSk, _⟩ := W.1
  obtain ⟨c12, c13, c90⟩ := W.1.2.2.2.2.2.2.1
  have hfx := lv.fx
  obtain ⟨w, hA, qi, qr, ql⟩ := lv
  have hA' := hA
  obtain ⟨w2, w1, wk, ⟨r0, r1, r2, r3, r4, r5, r6, r7⟩, w40, w45, w42, w43, wo⟩ := hA'
  have q7i : ∀ i k, ¬ (i = 137 ∧ k = 8) → q7.1 i k = q6.1 i k := fun i k h => by
    rw [hq7, sF_at, if_neg h]; rfl
  have q7l : ∀ i k, i ≠ 44 → q7.2.1 i k = q6.2.1 i k := fun i k h => by
    rw [hq7]; show (sL q6 44 B2 x).2.1 i k = _; rw [sL_at, if_neg (fun e => h e.1)]
  have el : (It ++ [p0]).length = It.length + 1 := by rw [List.length_append]; rfl
  have f : ∀ i k, ¬ (i = 137 ∧ (k = 12 ∨ k = 13)) → ¬ (i = 40 ∧ (k = 8 * It.length + 3 ∨ k = 8 * It.length + 4)) → q.1 i k = q9.1 i k := fun i k h1 h2 => by
    rw [hq, sF_at, if_neg (by omega), sF_at, if_neg (by omega), sF_at, if_neg (by omega), sF_at, if_neg (by omega)]
  have fl : ∀ i k, q.2.1 i k = q9.2.1 i k := fun i k => by rw [hq]; rfl
  have f3 : q.1 40 (8 * It.length + 3) = nI B := by rw [hq, sF_k (by omega), sF_v]
  have f4 : q.1 40 (8 * It.length + 4) = nI B2 := by rw [hq, sF_v]
  have f12 : q.1 137 12 = q9.1 137 12 - 1 := by rw [hq, sF_i (by decide), sF_i (by decide), sF_k (by decide), sF_v]
  have f13 : q.1 137 13 = t13 := by rw [hq, sF_i (by decide), sF_i (by decide), sF_v]
  have f39 : ∀ k, k ≠ 1 → q.1 39 k = q6.1 39 k := fun k hk => by rw [f 39 k (by omega) (by omega), qi, wk k hk, q7i _ _ (by omega)]
  have f391 : (q.1 39 1).toInt = ((It.length + 1 : Nat) : Int) := by
    rw [f 39 1 (by omega) (by omega), qi, w1, q7i _ _ (by omega), ti_add (by have := W.1.1.1.1; omega) (by have := W.1.1.1.1; omega), hT.1, e1']; omega
  have f137 : ∀ k, k ≠ 8 → k ≠ 12 → k ≠ 13 → q.1 137 k = q6.1 137 k := fun k h1 h2 h3 => by
    rw [f 137 k (by omega) (by omega), hfx.2.1 137 k (by decide) (by decide) (by decide) (by decide) (by decide), q7i _ _ (by omega)]
  have f8 : (q.1 137 8).toInt = (b : Int) := by
    rw [f 137 8 (by omega) (by omega), hfx.2.1 137 8 (by decide) (by decide) (by decide) (by decide) (by decide), hq7, sF_v]
    exact ni_ti (by have := ti_hi (q6.1 39 6); omega)
  have f9 : ∀ i k, i ≠ 39 → i ≠ 40 → i ≠ 42 → i ≠ 43 → i ≠ 45 → i ≠ 137 → q.1 i k = q6.1 i k := fun i k a1 a2 a3 a4 a5 a6 => by
    rw [f i k (fun e => a6 e.1) (fun e => a2 e.1), hfx.2.1 i k a1 a2 a3 a4 a5, q7i _ _ (fun e => a6 e.1)]
  have l41 : ∀ i k, i ≠ 41 → i ≠ 44 → q.2.1 i k = q6.2.1 i k := fun i k a1 a2 => by rw [fl, hfx.2.2.2.2 i k a1, q7l i k a2]
  have l44 : ∀ y, y ≠ B2 → q.2.1 44 y = q6.2.1 44 y := fun y hy => by
    rw [fl, hfx.2.2.2.2 44 y (by decide), hq7]; show (sL q6 44 B2 x).2.1 44 y = _; rw [sL_at, if_neg (fun e => hy e.2)]
  have l44B : q.2.1 44 B2 = x := by
    rw [fl, hfx.2.2.2.2 44 B2 (by decide), hq7]; show (sL q6 44 B2 x).2.1 44 B2 = _; rw [sL_at, if_pos ⟨rfl, rfl⟩]
  have l22 : q.2.2 = q6.2.2 := by rw [hq]; show q9.2.2 = _; rw [hfx.1, hq7]; rfl
  have hlast : ∀ l : Nat, (q7.1 43 b).toInt = (l : Int) → l < It.length := by
    intro l hl2
    rw [q7i _ _ (by omega)] at hl2
    have hne : q6.1 43 b ≠ -1 := by
      intro e; rw [e] at hl2
      have : (-1 : Int32).toInt = -1 := by decide
      omega
    obtain ⟨l2, e, hl3⟩ := cn_last hC (by omega) hne
    omega
  have hlast2 : q7.1 43 b ≠ -1 → (q7.1 43 b).toNatClampNeg < It.length := by
    intro hne
    rw [q7i _ _ (by omega)] at hne ⊢
    obtain ⟨l2, e, hl3⟩ := cn_last hC (by omega) hne
    rw [tn_of e]; omega
  have row : ∀ i k, i < It.length → k ≠ 5 → k < 8 → q.1 40 (8 * i + k) = q6.1 40 (8 * i + k) := by
    intro i k hi hk hk8
    rw [f 40 _ (by omega) (by omega), qi, w40 _ (by omega)]
    by_cases e : q7.1 43 b ≠ -1 ∧ 8 * i + k = 8 * (q7.1 43 b).toNatClampNeg + 5
    · omega
    · rw [if_neg e, q7i 40 _ (by omega)]
  have rown : ∀ k, k ≠ 3 → k ≠ 4 → k < 8 → q.1 40 (8 * It.length + k) = w.1 40 (8 * It.length + k) := fun k a1 a2 a3 => by rw [f 40 _ (by omega) (by omega), qi]
  have f45 : ∀ k, k ≠ 4 * v + 2 → q.1 45 k = q6.1 45 k := fun k hk => by rw [f 45 k (by omega) (by omega), qi, w45, if_neg (fun e => hk e.2), q7i _ _ (by omega)]
  have f45v : q.1 45 (4 * v + 2) = z.1 0 93 := by
    rw [f 45 _ (by omega) (by omega), qi, w45, if_pos ⟨by decide, rfl⟩, q7i _ _ (by omega), hT.2.2.2.1, i6]
  have hI : ∀ y, y ∈ It → y < e2 := fun y hy => by have := W.1.1.ilt y hy; rw [tn_of i1] at this; exact this
  have g0 : ∀ k, k ≠ 0 → k ≠ 1 → k ≠ 56 → k ≠ 65 → k ≠ 66 → k ≠ 87 → k ≠ 88 → k ≠ 89 → k ≠ 90 → k ≠ 93 → z.1 0 k = z6.1 0 k := hm.2.1
  have gI : ∀ i k, 46 ≤ i → i ≤ 52 → k < e2 → k ≠ p0 → z.1 i k = z6.1 i k := fun i k a1 a2 a3 a4 => hfin i k a1 a2 a3 (fun e => a4 e.2) (fun e => a4 e.2)
  have go : ∀ i k, i = 53 ∨ i = 54 → k < o → z.1 i k = z6.1 i k := fun i k a1 a2 => hm.2.2.1 i k (by omega) (by omega) (by omega) (by omega) (by omega) (by omega) (by omega) (by omega)
  have gh : ∀ i k, 57 ≤ i → i ≤ 66 → z.1 i k = z6.1 i k := fun i k a1 a2 => hm.2.2.1 i k (by omega) (by omega) (by omega) (by omega) (by omega) (by omega) (by omega) (by omega)
  have ncB2 : ¬ cl B2 := hcb
  have hIt : ∀ (i y : Nat), It[i]? = some y → (It ++ [p0])[i]? = some y := fun i y hi => by rw [List.getElem?_append_left (lt_some hi)]; exact hi
  have keepL : ∀ L a' p', Sg7 (fun i => It[i]?) (z6.1 46) (q6.1 40) (Bl7 Bk) cl (q6.2.1 44) (z6.1 49) (z6.1 50) (z6.1 51) (z6.1 53) (z6.1 54) (z6.1 0 88).toNatClampNeg L a' p' → (p' ≤ p0 ∨ p0 < a') → p' ≤ e2 → Sg7 (fun i => (It ++ [p0])[i]?) (z.1 46) (q.1 40) (Bl7 (Bk ++ [b])) (fun y => cl y ∨ y = B2) (q.2.1 44) (z.1 49) (z.1 50) (z.1 51) (z.1 53) (z.1 54) (z.1 0 88).toNatClampNeg L a' p' := by
    intro L a' p' hs h1 h2
    refine hs.cong2 hIt (fun i y hi => ⟨row i 3 (lt_some hi) (by decide) (by decide), row i 4 (lt_some hi) (by decide) (by decide)⟩) (fun y hy => ⟨by rw [bl_add, if_neg (show ¬ y = b from fun e => hclb (e ▸ hy))], l44 y (fun e => ncB2 (e ▸ hy)), Or.inl hy⟩) (fun g hg => ?_) (by rw [tn_of i2, tn_of i4]; omega) (fun k hk hk2 => ?_)
    · rw [tn_of i2] at hg
      exact ⟨go 53 g (Or.inl rfl) hg, go 54 g (Or.inr rfl) hg⟩
    · exact ⟨gI 46 k (by decide) (by decide) (by omega) (by omega), gI 49 k (by decide) (by decide) (by omega) (by omega), gI 50 k (by decide) (by decide) (by omega) (by omega), gI 51 k (by decide) (by decide) (by omega) (by omega)⟩
  have e88 : (z.1 0 88).toNatClampNeg = o + 1 := tn_of i4
  have R : Re7 q z (It ++ [p0]) (Bk ++ [b]) (fun y => cl y ∨ y = B2) v b a := by
    obtain ⟨t1, t2, t3, t4, Pp, O, tP, tO, tb, tI⟩ := hT
    have hPp : Pp = e2 := by omega
    have hOo : O = o := by omega
    subst hPp; subst hOo
    refine ⟨⟨by rw [el]; exact f391, by rw [el]; exact i5, by rw [el]; omega, f45v, Pp + 1, O + 1, i3, i4, by rw [gh 62 v (by decide) (by decide)]; omega, fun i y hi => ?_⟩, by rw [List.length_append, el, hL]; rfl, ?_, ⟨by rw [f137 6 (by decide) (by decide) (by decide)]; exact s1, by rw [f137 7 (by decide) (by decide) (by decide)]; exact s2, f8, by rw [f39 2 (by decide)]; exact s4, s5, by rw [f39 6 (by decide)]; omega⟩, ?_, ⟨by rw [g0 68 (by decide) (by decide) (by decide) (by decide) (by decide) (by decide) (by decide) (by decide) (by decide) (by decide)]; exact m68, by rw [g0 69 (by decide) (by decide) (by decide) (by decide) (by decide) (by decide) (by decide) (by decide) (by decide) (by decide)]; exact m69⟩, ?_⟩
    · by_cases ei : i = It.length
      · subst ei
        rw [List.getElem?_append_right (Nat.le_refl _), Nat.sub_self] at hi
        have hi : p0 = y := Option.some.inj hi
        subst hi
        have g46 : z.1 46 p0 = 6 := by rw [hfin 46 p0 (by decide) (by decide) (by omega) (by omega) (by omega)]; exact k46
        refine ⟨by omega, ⟨?_, ?_, ?_, o0, 1, by rw [hfin 51 p0 (by decide) (by decide) (by omega) (by omega) (by omega)]; exact k51, by rw [hfin 52 p0 (by decide) (by decide) (by omega) (by omega) (by omega)]; exact k52, by omega, Or.inl ⟨by rw [g46]; decide, by decide, fun k hk => ?_⟩⟩, v, ?_, Nat.le_refl _, by rw [gh 62 v (by decide) (by decide)]; exact k62, fun e => absurd e (by omega)⟩
        · rw [g46]; exact (rown 0 (by decide) (by decide) (by decide)).trans r0
        · rw [rown 1 (by decide) (by decide) (by decide), r1, j3', if_neg (by decide), q7i _ _ (by omega)]; exact t4
        · rw [rown 2 (by decide) (by decide) (by decide), r2, hfin 48 p0 (by decide) (by decide) (by omega) (by omega) (by omega), k48]
        · have ek : k = 0 := by omega
          subst ek
          refine ⟨3, cbt, Or.inr (Or.inr rfl), ?_, by rw [Nat.add_zero, go 53 o0 (Or.inl rfl) ko]; exact k53, by rw [Nat.add_zero, go 54 o0 (Or.inr rfl) ko]; exact k54⟩
          rw [fl, ql, if_neg (by omega), if_pos ⟨rfl, rfl⟩]; exact hcond
        · rw [rown 6 (by decide) (by decide) (by decide)]; exact r6
      · have hil : i < It.length := by
          have := lt_some hi
          rw [el] at this; omega
        rw [List.getElem?_append_left hil] at hi
        obtain ⟨a1, ⟨b1, b2, b3, f', mm, b4, b5, b6, b7⟩, u, u1, u2, u3, u4⟩ := tI i y hi
        have hyI : y ∈ It := List.mem_of_getElem? hi
        have hyp : y ≠ p0 := fun e => hp0 (e ▸ hyI)
        have zi : ∀ j, 46 ≤ j → j ≤ 52 → z.1 j y = z6.1 j y := fun j x1 x2 => gI j y x1 x2 (hI y hyI) hyp
        have s40 : ∀ k, k ≠ 5 → k < 8 → q.1 40 (8 * i + k) = q6.1 40 (8 * i + k) := fun k h1 h2 => row i k hil h1 h2
        have s41 : ∀ k, k < 10 → q.2.1 41 (10 * i + k) = q6.2.1 41 (10 * i + k) := fun k hk => by rw [fl, ql, if_neg (by omega), if_neg (by omega), q7l 41 _ (by decide)]
        have fo : ∀ j k, q.2.1 41 j = q6.2.1 41 j → k < O → Op7 q6 z6 j k → Op7 q z j k := fun j k h1 h2 ho => ho.cong h1 (go 53 k (Or.inl rfl) h2) (go 54 k (Or.inr rfl) h2)
        refine ⟨by omega, ⟨?_, by rw [s40 1 (by decide) (by decide), zi 47 (by decide) (by decide)]; exact b2, by rw [s40 2 (by decide) (by decide), zi 48 (by decide) (by decide)]; exact b3, f', mm, by rw [zi 51 (by decide) (by decide)]; exact b4, by rw [zi 52 (by decide) (by decide)]; exact b5, by omega, ?_⟩, u, by rw [s40 6 (by decide) (by decide)]; exact u1, u2, by rw [gh 62 u (by decide) (by decide)]; exact u3, fun hu => by rw [gh 63 u (by decide) (by decide)]; exact u4 hu⟩
        · have := s40 0 (by decide) (by decide)
          rw [Nat.add_zero] at this
          rw [this, zi 46 (by decide) (by decide)]; exact b1
        · rw [zi 46 (by decide) (by decide), s40 7 (by decide) (by decide)]
          rcases b7 with ⟨b7, b8, b9⟩ | ⟨b7, b8, b9, b10⟩
          · exact Or.inl ⟨b7, b8, fun k hk2 => fo _ _ (s41 k (by omega)) (by omega) (b9 k hk2)⟩
          · exact Or.inr ⟨b7, b8, b9, fun k hk2 => fo _ _ (by rw [Nat.add_assoc]; exact s41 _ (by omega)) (by omega) (b10 k hk2)⟩
    · have C7 : Cn7 q7 Bk := hC.of (q7i _ _ (by omega)) (fun k => q7i _ _ (by omega)) (fun k => q7i _ _ (by omega)) (fun k => q7i _ _ (by omega))
      have := cn_add (Bk := Bk) (by rw [hL]; exact hA) C7 (b := b) (by rw [q7i _ _ (by omega)]; omega) (by omega)
      intro b' hb'
      have hw6 : w.1 39 6 = q6.1 39 6 := by rw [wk 6 (by decide), q7i _ _ (by omega)]
      rw [f39 6 (by decide)] at hb'
      refine (this b' (by rw [hw6]; exact hb')).cong ?_ ?_ (fun i _ => ?_)
      · rw [f 42 b' (by omega) (by omega), qi]
      · rw [f 43 b' (by omega) (by omega), qi]
      · rw [f 40 _ (by omega) (by omega), qi]
    · rintro (hc | hc)
      · exact hclb hc
      · omega
    · rw [bl_add, if_pos rfl, tn_of i3, hL]
      have k1 := keepL _ _ _ S1 (Or.inl (Nat.le_refl _)) (by omega)
      have k2 := keepL _ _ _ S2 (Or.inr (by omega)) (by omega)
      have k3 := keepL _ _ _ hS (Or.inr (by omega)) (by rw [tn_of i1]; exact Nat.le_refl _)
      rw [tn_of i1, ha6] at k3
      have bB : Bl7 (Bk ++ [b]) B = Bl7 Bk B := by rw [bl_add, if_neg (by omega)]
      have bB2 : Bl7 (Bk ++ [b]) B2 = Bl7 Bk B2 := by rw [bl_add, if_neg (by omega)]
      refine Sg7.iff (i := It.length) (b1 := B) (b2 := B2) (e1 := e1) (e2 := Pp) k1 ⟨?_, by rw [hfin 46 p0 (by decide) (by decide) (by omega) (by omega) (by omega)]; exact k46, by rw [f3]; exact ni_ti (by have := ti_hi (q6.1 39 6); omega), by rw [f4]; exact ni_ti (by have := ti_hi (q6.1 39 6); omega)⟩ ⟨Or.inl hclB, Or.inr rfl⟩ (by rw [bB]; exact k2) ⟨by rw [gI 46 e1 (by decide) (by decide) (by omega) (by omega)]; exact r46, by rw [hfin 49 p0 (by decide) (by decide) (by omega) (by omega) (by omega)]; exact r49, ?_⟩ (by rw [bB2]; exact k3) ⟨j1, j3, mk, bt, O, hmk, by rw [l44B]; exact hx, j2, by rw [e88]; omega, j4, j5⟩
      · show (It ++ [p0])[It.length]? = some p0
        rw [List.getElem?_append_right (Nat.le_refl _), Nat.sub_self]; rfl
      · obtain ⟨m', y', f', a1, a2, a3, a4, a5, a6'⟩ := E1
        rw [tn_of i2] at a4
        exact ⟨m', y', f', a1, by rw [l44 B (by omega)]; exact a2, by rw [gI 51 e1 (by decide) (by decide) (by omega) (by omega)]; exact a3, by rw [e88]; omega, by rw [go 53 f' (Or.inl rfl) a4]; exact a5, by rw [go 54 f' (Or.inr rfl) a4]; exact a6'⟩
  have hx0 : Hx8 v h bc q6 q := by
    refine ⟨l22, fun i k _ _ _ c4 c5 c6 c7 c8 c9 _ => f9 i k c4 c5 c6 c7 c8 c9, fun k _ _ => f9 30 k (by decide) (by decide) (by decide) (by decide) (by decide) (by decide), fun k c1 _ c3 c4 => f137 k c1 c3 c4, fun k c _ => f39 k c, f45, fun k _ => f9 138 k (by decide) (by decide) (by decide) (by decide) (by decide) (by decide), fun i k _ _ c3 c4 _ _ => l41 i k c3 c4, gs_same (f9 30 5 (by decide) (by decide) (by decide) (by decide) (by decide) (by decide)) (fun k => l41 31 k (by decide) (by decide)) (fun k => l41 32 k (by decide) (by decide)) (fun k => f9 33 k (by decide) (by decide) (by decide) (by decide) (by decide) (by decide)) (fun k => f9 34 k (by decide) (by decide) (by decide) (by decide) (by decide) (by decide))⟩
  refine ⟨W.hop hx0 hm R (fun y hy => ?_) ?_ hm2 ?_ ?_ ?_ ?_ ?_ ?_, ?_, l44, hx0, f39 6 (by decide), f391, hfin⟩
  · rw [f39 6 (by decide)]
    rcases List.mem_append.mp hy with e | e
    · exact hBb y e
    · rw [List.mem_singleton.mp e]; omega
  · exact hSk.of hx0.2.2.2.2.2.2.2.2 hm.2.2.2 (f9 30 7 (by decide) (by decide) (by decide) (by decide) (by decide) (by decide)) i7 (fun k hk => l41 36 k (by decide) (by decide)) (fun k hk => hm.2.2.1 40 k (by decide) (by omega) (by omega) (by omega) (by omega) (by omega) (by decide) (by decide))
  · have hi := ti_hi (q6.1 137 12)
    rw [f12, hfx.2.1 137 12 (by decide) (by decide) (by decide) (by decide) (by decide), q7i _ _ (by omega), ti_sub (by omega) (by omega), c12, e1']; omega
  · rw [f13]; exact ht13
  · have hi := ti_hi (z6.1 0 90)
    rw [i8, ti_sub (by omega) (by omega), c90, e1']; omega
  · rintro y (hy | hy)
    · have := W.2.2.2.1 y hy; rw [f39 6 (by decide)]; omega
    · rw [f39 6 (by decide)]; omega
  · rw [f39 6 (by decide), f39 2 (by decide), el]
    have := W.2.2.2.2.1
    omega
  · intro u2 hu2
    rw [f39 2 (by decide), f45 _ (by omega), W.2.2.2.2.2.2 u2 hu2]
    unfold Ct9
    rw [List.filter_append]
    have hnil : [p0].filter (fun p => decide (z.1 46 p = 11 ∧ z.1 48 p = nI u2)) = [] := by
      refine List.filter_eq_nil_iff.mpr (fun y hy e => ?_)
      have ey := List.mem_singleton.mp hy
      subst ey
      have g46 : z.1 46 y = 6 := by rw [hfin 46 y (by decide) (by decide) (by omega) (by omega) (by omega)]; exact k46
      have := (of_decide_eq_true e).1
      rw [g46] at this
      exact absurd this (by decide)
    rw [hnil, List.append_nil]
    refine congrArg (fun (L : List Nat) => (L.length : Int)) (List.filter_congr (fun y hy => ?_))
    have hyp : y ≠ p0 := fun e => hp0 (e ▸ hy)
    rw [gI 46 y (by decide) (by decide) (hI y hy) hyp, gI 48 y (by decide) (by decide) (hI y hy) hyp]
  · intro b' a' p' h1 h2 h3 h4 hs
    unfold Sf8
    rw [bl_add, if_neg h1]
    exact keepL _ _ _ hs h3 h4
end

section
theorem gw_if {b B B2 X1 X2 p0 e1 e2 o4 o6 o2 : Nat} {q2 z2 qf ze q4 z4 q8 z8 q6 z6 q z : Mem} {It Bk It1 Bk1 It2 Bk2 : List Nat} {cl cl1 cl2 : Nat → Prop} (G1 : Gw8 B X1 qf ze It Bk cl q4 z4 It1 Bk1 cl1) (G2 : Gw8 B2 X2 q8 z8 It1 Bk1 (fun y => cl1 y ∨ y = B) q6 z6 It2 Bk2 cl2) (hX1 : B < X1) (hX2 : B2 < X2) (hBB : B < B2) (pz2 : (z2.1 0 87).toInt = (p0 : Int)) (pze : (ze.1 0 87).toInt = ((p0 + 1 : Nat) : Int)) (pz4 : (z4.1 0 87).toInt = (e1 : Int)) (pz8 : (z8.1 0 87).toInt = ((e1 + 1 : Nat) : Int)) (pz6 : (z6.1 0 87).toInt = (e2 : Int)) (pz : (z.1 0 87).toInt = ((e2 + 1 : Nat) : Int)) (oz2 : (z2.1 0 88).toInt = (o2 : Int)) (oze : (ze.1 0 88).toInt = ((o2 + 1 : Nat) : Int)) (oz4 : (z4.1 0 88).toInt = (o4 : Int)) (oz8 : (z8.1 0 88).toInt = ((o4 + 1 : Nat) : Int)) (oz6 : (z6.1 0 88).toInt = (o6 : Int)) (oz : (z.1 0 88).toInt = ((o6 + 1 : Nat) : Int)) (k1 : ∀ b2 a p, b2 < B → p ≤ p0 → Sf8 q2 z2 It Bk cl b2 a p → Sf8 qf ze It Bk cl b2 a p) (k2 : ∀ b2 a p, b2 < B2 → (p ≤ p0 ∨ p0 < a) → p ≤ e1 → Sf8 q4 z4 It1 Bk1 cl1 b2 a p → Sf8 q8 z8 It1 Bk1 (fun y => cl1 y ∨ y = B) b2 a p) (k3 : ∀ b' a p, b' ≠ b → b' < B2 → (p ≤ p0 ∨ p0 < a) → p ≤ e2 → Sf8 q6 z6 It2 Bk2 cl2 b' a p → Sf8 q z (It2 ++ [p0]) (Bk2 ++ [b]) (fun y => cl2 y ∨ y = B2) b' a p) (l1 : ∀ x, x < B → qf.2.1 44 x = q2.2.1 44 x) (l2 : ∀ y, y < B2 → y ≠ B → q8.2.1 44 y = q4.2.1 44 y) (l3 : ∀ y, y ≠ B2 → q.2.1 44 y = q6.2.1 44 y) (i1 : ∀ i k, 46 ≤ i → i ≤ 52 → k < p0 → ze.1 i k = z2.1 i k) (i2 : ∀ i k, 46 ≤ i → i ≤ 52 → k < e1 → ¬ (i = 49 ∧ k = p0) → z8.1 i k = z4.1 i k) (i3 : ∀ i k, 46 ≤ i → i ≤ 52 → k < e2 → ¬ (i = 50 ∧ k = p0) → ¬ (i = 47 ∧ k = p0) → z.1 i k = z6.1 i k) (k46 : ze.1 46 p0 = 6) (k13 : z8.1 46 e1 = 13) (k14 : z.1 46 e2 = 14) (o1 : ∀ i k, i = 53 ∨ i = 54 → k < o2 → ze.1 i k = z2.1 i k) (o5 : ∀ i k, i = 53 ∨ i = 54 → k < o4 → z8.1 i k = z4.1 i k) (o7 : ∀ i k, i = 53 ∨ i = 54 → k < o6 → z.1 i k = z6.1 i k) : Gw8 b B q2 z2 It Bk cl q z (It2 ++ [p0]) (Bk2 ++ [b]) (fun y => cl2 y ∨ y = B2) := by
  obtain ⟨⟨E1, F1, a1, a2, a3, a4, a5, a6⟩, ⟨a7, a8⟩, ka, ca, ia, oa⟩ := G1
  obtain ⟨⟨E2, F2, b1, b2, b3, b4, b5, b6⟩, ⟨b7, b8⟩, kb, cb, ib, ob⟩ := G2
  rw [tn_of pze] at a5 a6 a7 ia ka
  rw [tn_of pz4] at a5 a6 a7
  rw [tn_of pz8] at b5 b6 b7 ib kb
  rw [tn_of pz6] at b5 b6 b7
  rw [tn_of oze] at a8 oa
  rw [tn_of oz4] at a8
  rw [tn_of oz8] at b8 ob
  rw [tn_of oz6] at b8
  have c46 : ∀ k, k < e1 → z.1 46 k = z4.1 46 k := fun k hk => by rw [i3 46 k (by decide) (by decide) (by omega) (by omega) (by omega), ib 46 k (by decide) (by decide) (by omega), i2 46 k (by decide) (by decide) hk (by omega)]
  have d46 : ∀ k, k < e2 → z.1 46 k = z6.1 46 k := fun k hk => i3 46 k (by decide) (by decide) hk (by omega) (by omega)
  have p46 : z.1 46 p0 = 6 := by rw [c46 p0 (by omega), ia 46 p0 (by decide) (by decide) (by omega)]; exact k46
  have e13 : z.1 46 e1 = 13 := by rw [d46 e1 (by omega), ib 46 e1 (by decide) (by decide) (by omega)]; exact k13
  refine ⟨⟨E1 ++ E2 ++ [p0], F1 ++ F2 ++ [b], by rw [b1, a1, List.append_assoc, List.append_assoc, List.append_assoc], by rw [b2, a2, List.append_assoc, List.append_assoc, List.append_assoc], fun x hx => ?_, ?_, fun p hp => ?_, fun p h1 h2 => ?_⟩, ⟨by rw [tn_of pz2, tn_of pz]; omega, by rw [tn_of oz2, tn_of oz]; omega⟩, fun b' a p h1 h2 h3 hs => ?_, fun x hx => ⟨?_, fun _ => ?_⟩, fun i k h1 h2 h3 => ?_, fun i k h1 h2 => ?_⟩
  · rcases List.mem_append.mp hx with h | h
    · rcases List.mem_append.mp h with h | h
      · rcases a3 x h with e | e
        · exact Or.inr (by omega)
        · exact Or.inr (by omega)
      · rcases b3 x h with e | e
        · exact Or.inr (by omega)
        · exact Or.inr (by omega)
    · exact Or.inl (List.mem_singleton.mp h)
  · refine List.nodup_append.mpr ⟨List.nodup_append.mpr ⟨a4, b4, fun x hx y hy e => ?_⟩, List.nodup_cons.mpr ⟨by simp, List.nodup_nil⟩, fun x hx y hy e => ?_⟩
    · have := a5 x hx; have := b5 y hy; omega
    · have hy := List.mem_singleton.mp hy
      rcases List.mem_append.mp hx with h | h
      · have := a5 x h; omega
      · have := b5 x h; omega
  · rw [tn_of pz2, tn_of pz]
    rcases List.mem_append.mp hp with h | h
    · rcases List.mem_append.mp h with h | h
      · obtain ⟨x1, x2, x3, x4⟩ := a5 p h
        rw [c46 p x2]; exact ⟨by omega, by omega, x3, x4⟩
      · obtain ⟨x1, x2, x3, x4⟩ := b5 p h
        rw [d46 p x2]; exact ⟨by omega, by omega, x3, x4⟩
    · have e := List.mem_singleton.mp h
      subst e
      rw [p46]; exact ⟨Nat.le_refl _, by omega, by decide, by decide⟩
  · rw [tn_of pz2] at h1
    rw [tn_of pz] at h2
    rcases (show p = p0 ∨ (p0 < p ∧ p < e1) ∨ p = e1 ∨ (e1 < p ∧ p < e2) ∨ p = e2 by omega) with e | ⟨x1, x2⟩ | e | ⟨x1, x2⟩ | e
    · subst e; exact Or.inr (Or.inr (List.mem_append.mpr (Or.inr (List.mem_singleton.mpr rfl))))
    · rw [c46 p x2]
      rcases a6 p (by omega) x2 with y | y | y
      · exact Or.inl y
      · exact Or.inr (Or.inl y)
      · exact Or.inr (Or.inr (List.mem_append.mpr (Or.inl (List.mem_append.mpr (Or.inl y)))))
    · subst e; exact Or.inl e13
    · rw [d46 p x2]
      rcases b6 p (by omega) x2 with y | y | y
      · exact Or.inl y
      · exact Or.inr (Or.inl y)
      · exact Or.inr (Or.inr (List.mem_append.mpr (Or.inl (List.mem_append.mpr (Or.inr y)))))
    · subst e; exact Or.inr (Or.inl k14)
  · rw [tn_of pz2] at h3
    exact k3 b' a p h1 (by omega) (Or.inl h3) (by omega) (kb b' a p (by omega) (by omega) (by omega) (k2 b' a p (by omega) (Or.inl h3) (by omega) (ka b' a p (by omega) (by omega) (by omega) (k1 b' a p h2 h3 hs))))
  · have h1 := (cb x (by omega)).1
    have h2 := (ca x (by omega)).1
    constructor
    · rintro (h | h)
      · rcases h1.mp h with h | h
        · exact h2.mp h
        · omega
      · omega
    · intro h; exact Or.inl (h1.mpr (Or.inl (h2.mpr h)))
  · rw [l3 x (by omega), (cb x (by omega)).2 (by omega), l2 x (by omega) (by omega), (ca x (by omega)).2 (by omega), l1 x hx]
  · rw [tn_of pz2] at h3
    rw [i3 i k h1 h2 (by omega) (by omega) (by omega), ib i k h1 h2 (by omega), i2 i k h1 h2 (by omega) (by omega), ia i k h1 h2 (by omega), i1 i k h1 h2 h3]
  · rw [tn_of oz2] at h2
    rw [o7 i k h1 (by omega), ob i k h1 (by omega), o5 i k h1 (by omega), oa i k h1 (by omega), o1 i k h1 h2]
def Fy9 (v h D n bc m : Nat) (μx μm q z : Mem) : Prop := Xs8 h D n bc μx q ∧ Ms8 h D m μm z ∧ (Gs7 μx q ∧ Gh7 μm z) ∧ (((μx.1 39 2).toInt ≤ (q.1 39 2).toInt ∧ (μx.1 39 6).toNatClampNeg ≤ (q.1 39 6).toNatClampNeg) ∧ ∀ j : Nat, (j : Int) < 4 * (μx.1 39 2).toInt → j % 4 ≠ 1 → j ≠ 4 * v + 2 → q.1 45 j = μx.1 45 j) ∧ Ym9 μm z
theorem F9.fy {v b B h D n bc m : Nat} {μx μm q z : Mem} {It Bk It2 Bk2 : List Nat} {cl cl2 : Nat → Prop} (F : F9 v b B h D n bc m μx μm It Bk cl q z It2 Bk2 cl2) : Fy9 v h D n bc m μx μm q z := ⟨F.2.1, F.2.2.1, F.2.2.2.1, ⟨F.2.2.2.2.1.1, F.2.2.2.2.1.2.1⟩, F.2.2.2.2.2⟩
theorem Fy9.tr {v h D n bc m h2 n2 bc2 m2 : Nat} {μx μm q z q2 z2 : Mem} (x : Fy9 v h D n bc m μx μm q z) (y : Fy9 v h2 D n2 bc2 m2 q z q2 z2) (e1 : h ≤ h2) (e2 : n ≤ n2) (e3 : bc ≤ bc2) (e4 : m ≤ m2) : Fy9 v h D n bc m μx μm q2 z2 := ⟨x.1.tr y.1 e1 e2 e3, x.2.1.tr y.2.1 e1 e4, ⟨x.2.2.1.1.tr y.2.2.1.1, x.2.2.1.2.tr y.2.2.1.2⟩, ⟨⟨Int.le_trans x.2.2.2.1.1.1 y.2.2.2.1.1.1, Nat.le_trans x.2.2.2.1.1.2 y.2.2.2.1.1.2⟩, fun j c1 c2 c3 => (y.2.2.2.1.2 j (by have := x.2.2.2.1.1.1; omega) c2 c3).trans (x.2.2.2.1.2 j c1 c2 c3)⟩, fun i k a b => (y.2.2.2.2 i k a b).trans (x.2.2.2.2 i k a b)⟩
theorem Fy9.hop {v h D n bc bc0 m h0 m0 p o : Nat} {μx μm q z : Mem} (fx : Hx8 v h0 bc0 μx q) (fm : Hm8 h0 m0 p o μm z) (e1 : h ≤ h0) (e2 : m ≤ m0) (e3 : bc ≤ bc0) (e4 : (μx.1 39 6).toNatClampNeg ≤ (q.1 39 6).toNatClampNeg) : Fy9 v h D n bc m μx μm q z := by
  obtain ⟨f1, f2, f3, f4, f5, f6, f7, f8, f9⟩ := fx
  obtain ⟨g1, g2, g3, g4⟩ := fm
  exact ⟨⟨fun k hk => f8 36 k (by decide) (by decide) (by decide) (by decide) (by omega) (by omega), fun k hk => f8 37 k (by decide) (by decide) (by decide) (by decide) (by omega) (by omega), fun k _ => f2 38 k (by decide) (by decide) (by decide) (by decide) (by decide) (by decide) (by decide) (by decide) (by decide) (by decide), fun k hk => f7 k (by omega), fun k hk => f8 139 k (by decide) (by decide) (by decide) (by decide) (by omega) (by omega), by rw [f1], fun k => f8 140 k (by decide) (by decide) (by decide) (by decide) (by omega) (by omega)⟩, ⟨fun k hk => g3 40 k (by decide) (by omega) (by omega) (by omega) (by omega) (by omega) (by decide) (by decide), fun k _ => g3 41 k (by decide) (by omega) (by omega) (by omega) (by omega) (by omega) (by decide) (by decide), fun i k hi hk => g3 i k (by omega) (by omega) (by omega) (by omega) (by omega) (by omega) (by omega) (by omega)⟩, ⟨f9, g4⟩, ⟨⟨by rw [f5 2 (by decide) (by decide)]; exact Int.le_refl _, e4⟩, fun j _ _ hj => f6 j hj⟩, fun i k a1 a2 => g3 i k (by omega) (by omega) (by omega) (by omega) (by omega) (by omega) (by omega) (by omega)⟩
theorem Fy9.f9 {v b B h D n bc m : Nat} {μx μm q z : Mem} {It Bk It2 Bk2 : List Nat} {cl cl2 : Nat → Prop} (x : Fy9 v h D n bc m μx μm q z) (g : Gw8 b B μx μm It Bk cl q z It2 Bk2 cl2) (hb : (q.1 39 6).toInt + (q.1 39 2).toInt + 2 * (μx.1 39 1).toInt ≤ (μx.1 39 6).toInt + (μx.1 39 2).toInt + 2 * (q.1 39 1).toInt) : F9 v b B h D n bc m μx μm It Bk cl q z It2 Bk2 cl2 := ⟨g, x.1, x.2.1, x.2.2.1, ⟨x.2.2.2.1.1, x.2.2.2.1.2, hb⟩, x.2.2.2.2⟩
theorem m_open {z2 : Mem} {m h y1 o v5 : Nat} {r4 w5 w10 : Int32} (h4 : r4.toInt = (y1 : Int)) (h5 : w5.toInt = (v5 : Int)) (ho : (z2.1 0 88).toInt = (o : Int)) (z65 : (z2.1 0 65).toInt = (m : Int)) (b10 : z2.1 10 v5 = w10) : pk (bd (p_X12_item 6 z2) (fun r10 μ9 => bw (p_X12_operand r10 r4 μ9) (fun μ11 => bv (sF μ11 0 90 ((μ11.1 0 90) + 1)) (fun μ13 => gd (inb w5 800) (bw (p_X12_push 6 r10 (μ13.1 10 w5.toNatClampNeg) μ13) (fun μ14 => bw (p_X12_push 0 w5 0 μ14) (fun μ16 => some μ16))))))) (fun ze => ∃ p0 : Nat, m < 6000 ∧ Oi8 h m p0 o (z2.1 30 y1) (z2.1 31 y1) z2 ze ∧ ze.1 0 90 = z2.1 0 90 + 1 ∧ (ze.1 0 65).toInt = ((m + 2 : Nat) : Int) ∧ (ze.1 37 m = 6 ∧ (ze.1 38 m).toInt = (p0 : Int) ∧ ze.1 39 m = w10) ∧ (ze.1 37 (m + 1) = 0 ∧ ze.1 38 (m + 1) = w5)) := by
  have e1 : (1 : Int32).toInt = 1 := by decide
  refine pk_bd (m_item 6 ho) ?_
  rintro r10 z3 ⟨p0, hp, hp9, hr, im⟩
  have hr : r10.toInt = (p0 : Int) := hr
  have im : Im7 6 p0 o z2 z3 := im
  obtain ⟨m0, m1, m2, ⟨m3, m4, m5, m6, m7⟩, m8, m9⟩ := im
  have ho3 : (z3.1 0 88).toInt = (o : Int) := by rw [m2 88 (by decide)]; exact ho
  refine pk_bw (m_operand (m := 0) hr h4 ho3 (by rw [m7]; decide) (by decide)) (fun z4 h => ?_)
  obtain ⟨n1, n2, n3, n4, n5, n6, n7⟩ := h
  refine pk_bvs ?_
  generalize hz5 : sF z4 0 90 (z4.1 0 90 + 1) = z5
  have c5 : ∀ i k, ¬ (i = 0 ∧ k = 90) → z5.1 i k = z4.1 i k := fun i k h => by rw [← hz5, sF_at, if_neg h]
  have d5 : z5.1 0 90 = z2.1 0 90 + 1 := by rw [← hz5, sF_v, n3 90 (by decide), m2 90 (by decide)]
  have a65 : (z5.1 0 65).toInt = (m : Int) := by rw [c5 _ _ (by omega), n3 65 (by decide), m2 65 (by decide)]; exact z65
  have a10 : z5.1 10 v5 = w10 := by rw [c5 _ _ (by omega), n7 10 v5 (by decide) (by omega) (by omega) (by omega), m8 10 v5 (by decide) (by omega)]; exact b10
  rw [tn_of h5, a10]
  refine pk_gd (fun _ => pk_bw (m_push 6 r10 w10 a65) (fun z6 h6 => ?_))
  obtain ⟨hz6, hm6⟩ := h6
  have c6 : ∀ i l, z6.1 i l = if i = 0 ∧ l = 65 then z5.1 0 65 + 1 else if i = 39 ∧ l = m then w10 else if i = 38 ∧ l = m then r10 else if i = 37 ∧ l = m then 6 else z5.1 i l := by
    intro i l
    rw [hz6, sF_at, sF_at, sF_at, sF_at]
  have i65 : (z6.1 0 65).toInt = ((m + 1 : Nat) : Int) := by rw [c6, if_pos ⟨rfl, rfl⟩, ti_add (by omega) (by omega), a65, e1]; omega
  refine pk_bw (m_push 0 w5 0 i65) (fun z7 h7 => pk_some ?_)
  obtain ⟨hz7, _⟩ := h7
  have c7 : ∀ i l, z7.1 i l = if i = 0 ∧ l = 65 then z6.1 0 65 + 1 else if i = 39 ∧ l = m + 1 then 0 else if i = 38 ∧ l = m + 1 then w5 else if i = 37 ∧ l = m + 1 then 0 else z6.1 i l := by
    intro i l
    rw [hz7, sF_at, sF_at, sF_at, sF_at]
  have all : ∀ i l, ¬ (i = 0 ∧ l = 65) → ¬ (37 ≤ i ∧ i ≤ 39) → z7.1 i l = z5.1 i l := fun i l h1 h2 => by
    rw [c7, if_neg h1, if_neg (by omega), if_neg (by omega), if_neg (by omega), c6, if_neg h1, if_neg (by omega), if_neg (by omega), if_neg (by omega)]
  have g0 : ∀ k, k ≠ 65 → k ≠ 87 → k ≠ 88 → k ≠ 90 → z7.1 0 k = z2.1 0 k := fun k h1 h2 h3 h4 => by rw [all _ _ (by omega) (by omega), c5 _ _ (by omega), n3 k h3, m2 k h2]
  have gi : ∀ i k, i ≠ 0 → ¬ (37 ≤ i ∧ i ≤ 39) → ¬ (i = 53 ∧ k = o) → ¬ (i = 54 ∧ k = o) → ¬ ((46 ≤ i ∧ i ≤ 52) ∧ k = p0) → z7.1 i k = z2.1 i k := fun i k h1 h2 h3 h4 h5 => by
    rw [all _ _ (by omega) h2, c5 _ _ (by omega), n7 i k h1 h3 h4 (by omega), m8 i k h1 h5]
  have gp : ∀ i, i ≠ 0 → i ≠ 52 → ¬ (37 ≤ i ∧ i ≤ 39) → i ≠ 53 → i ≠ 54 → z7.1 i p0 = z3.1 i p0 := fun i h1 h2 h3 h4 h5 => by
    rw [all _ _ (by omega) h3, c5 _ _ (by omega), n7 i p0 h1 (by omega) (by omega) (by omega)]
  have z3i : z3.1 30 y1 = z2.1 30 y1 ∧ z3.1 31 y1 = z2.1 31 y1 := ⟨m8 30 y1 (by decide) (by omega), m8 31 y1 (by decide) (by omega)⟩
  refine ⟨p0, by omega, ⟨⟨hp, ho, ?_, ?_⟩, ⟨g0 89 (by decide) (by decide) (by decide) (by decide), g0 93 (by decide) (by decide) (by decide) (by decide), g0 66 (by decide) (by decide) (by decide) (by decide)⟩, ⟨?_, ?_, ?_, ?_, ?_, ?_⟩, ⟨?_, fun k c1 c2 c3 c4 c5 c6 c7 c8 c9 c0 => g0 k c4 c6 c7 c9, fun i k d1 d2 d3 d4 dd5 d6 d7 d8 => ?_, gh_same (g0 56 (by decide) (by decide) (by decide) (by decide)) (fun i k x1 x2 => gi i k (by omega) (by omega) (by omega) (by omega) (by omega))⟩⟩, ?_, ?_, ⟨?_, ?_, ?_⟩, ?_, ?_⟩
  · rw [all _ _ (by omega) (by omega), c5 _ _ (by omega), n3 87 (by decide)]; exact m1
  · rw [all _ _ (by omega) (by omega), c5 _ _ (by omega)]; exact n2
  · rw [gp 46 (by decide) (by decide) (by omega) (by decide) (by decide)]; exact m3
  · rw [gp 48 (by decide) (by decide) (by omega) (by decide) (by decide)]; exact m5
  · rw [gp 51 (by decide) (by decide) (by omega) (by decide) (by decide)]; exact m6
  · rw [all _ _ (by omega) (by omega), c5 _ _ (by omega)]; exact n6
  · rw [all _ _ (by omega) (by omega), c5 _ _ (by omega), n4]; exact z3i.1
  · rw [all _ _ (by omega) (by omega), c5 _ _ (by omega), n5]; exact z3i.2
  · rw [hz7, hz6, ← hz5]; exact n1.trans m0
  · by_cases hk : k = p0 ∧ (46 ≤ i ∧ i ≤ 52)
    · exact absurd ⟨hk.2, by omega⟩ dd5
    · by_cases h37 : 37 ≤ i ∧ i ≤ 39
      · have : k < m := by omega
        rw [c7, if_neg (by omega), if_neg (by omega), if_neg (by omega), if_neg (by omega), c6, if_neg (by omega), if_neg (by omega), if_neg (by omega), if_neg (by omega)]
        rw [show z5.1 i k = z4.1 i k from by rw [← hz5, sF_at, if_neg (by omega)], n7 i k d1 (by omega) (by omega) (by omega), m8 i k d1 (by omega)]
      · exact gi i k d1 h37 (by omega) (by omega) (by omega)
  · rw [all _ _ (by omega) (by omega)]; exact d5
  · rw [c7, if_pos ⟨rfl, rfl⟩, ti_add (by omega) (by omega), i65, e1]; omega
  · rw [c7, if_neg (by omega), if_neg (by omega), if_neg (by omega), if_neg (by omega), c6, if_neg (by omega), if_neg (by omega), if_neg (by omega), if_pos ⟨rfl, rfl⟩]
  · rw [c7, if_neg (by omega), if_neg (by omega), if_neg (by omega), if_neg (by omega), c6, if_neg (by omega), if_neg (by omega), if_pos ⟨rfl, rfl⟩]; exact hr
  · rw [c7, if_neg (by omega), if_neg (by omega), if_neg (by omega), if_neg (by omega), c6, if_neg (by omega), if_pos ⟨rfl, rfl⟩]
  · rw [c7, if_neg (by omega), if_neg (by omega), if_neg (by omega), if_pos ⟨rfl, rfl⟩]
  · rw [c7, if_neg (by omega), if_neg (by omega), if_pos ⟨rfl, rfl⟩]
end
