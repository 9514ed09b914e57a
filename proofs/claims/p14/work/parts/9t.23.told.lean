def Vr5 (F : Nat) (μ : Mem) : List Int32 → Prop
  | [] => True
  | x :: N => μ.1 13 (5 * F + N.length) = x - 109 ∧ Vr5 F μ N
theorem Vr5.cong {F : Nat} {μ q : Mem} : ∀ {N : List Int32}, Vr5 F μ N → (∀ j, j < N.length → q.1 13 (5 * F + j) = μ.1 13 (5 * F + j)) → Vr5 F q N := by
  intro N
  induction N with
  | nil => intro _ _; trivial
  | cons x N ih =>
    intro h c
    exact ⟨by rw [c _ (by simp)]; exact h.1, ih h.2 (fun j hj => c j (by simp; omega))⟩
def Mv5 (F : Nat) (μ q : Mem) : Prop := (∀ i k, i ≠ 0 → i ≠ 12 → i ≠ 13 → i ≠ 21 → q.1 i k = μ.1 i k) ∧ (∀ k, k ≠ F → q.1 12 k = μ.1 12 k) ∧ (∀ k, k < 5 * F → q.1 13 k = μ.1 13 k) ∧ ∀ k, k ≠ 4 → k ≠ 5 → k ≠ 6 → k ≠ 7 → q.1 0 k = μ.1 0 k
theorem Mv5.rf {F : Nat} {μ : Mem} : Mv5 F μ μ := ⟨fun _ _ _ _ _ _ => rfl, fun _ _ => rfl, fun _ _ => rfl, fun _ _ _ _ _ => rfl⟩
theorem Mv5.tr {F : Nat} {μ q z : Mem} (h : Mv5 F μ q) (h2 : Mv5 F q z) : Mv5 F μ z := ⟨fun i k a b c d => (h2.1 i k a b c d).trans (h.1 i k a b c d), fun k a => (h2.2.1 k a).trans (h.2.1 k a), fun k a => (h2.2.2.1 k a).trans (h.2.2.1 k a), fun k a b c d => (h2.2.2.2 k a b c d).trans (h.2.2.2 k a b c d)⟩
theorem Me.mv5 {F : Nat} {μ q : Mem} (h : Me μ q) : Mv5 F μ q := ⟨fun i k a _ _ _ => h i k (fun e => a e.1), fun k _ => h 12 k (by omega), fun k _ => h 13 k (by omega), fun k a b c d => h 0 k (by omega)⟩
def Mn5 (t : Nat → Int32) (n F : Nat) (μ : Mem) (o : Rd Nl) (r : Int32 × Mem) : Prop := Mv5 F μ r.2 ∧ (match o with | .inl f => r.1 = 0 ∧ Mf t n f r.2 | .inr v => r.1 = 1 ∧ MwT t n v.1 r.2 ∧ Tl r.2 v.2 ∧ (r.2.1 12 F).toInt = (v.2.length : Int) ∧ Vr5 F r.2 v.2)
theorem q_Mnames5 {t : Nat → Int32} {n F : Nat} {μ0 : Mem} (h27 : (μ0.1 0 27).toInt = (F : Int)) (hF8 : F ≤ 800) : ∀ (fu : Nat) (a1 : Int32) (v : Nl) (μ : Mem), a1.toInt = (v.2.length : Int) → v.2.length ≤ 4 → Mv5 F μ0 μ → MwT t n v.1 μ → Tl μ v.2 → Vr5 F μ v.2 → pk (p_X12_readVars_b46 fu a1 1 μ) (Mn5 t n F μ0 (nms t n (4 - v.2.length) (nm1 t n v))) := by
  have e0 : (0 : Int32).toInt = 0 := by decide
  have e1 : (1 : Int32).toInt = 1 := by decide
  have e5 : (5 : Int32).toInt = 5 := by decide
  intro fu
  induction fu with
  | zero => intro a1 v μ _ _ _ _ _ _ r e; rw [p_X12_readVars_b46_z] at e; cases e
  | succ fu ih =>
    intro a1 v μ h1 hl hV hw hT hR
    have fin : ∀ (a : Int32) (w : Nl) (q : Mem), a.toInt = (w.2.length : Int) → Mv5 F μ0 q → MwT t n w.1 q → Tl q w.2 → Vr5 F q w.2 → pk (p_X12_readVars_b46 fu a 0 q) (Mn5 t n F μ0 (.inr w)) := by
      intro a w q ha hV hw hT hR
      cases fu with
      | zero => intro r e; rw [p_X12_readVars_b46_z] at e; cases e
      | succ fu =>
        rw [p_X12_readVars_b46_s, if_pos rfl]
        refine pk_gd (fun _ => pk_bvy (fun μ7 e7 => pk_some ?_))
        rw [hV.2.2.2 27 (by decide) (by decide) (by decide) (by decide), tn_of h27] at e7
        refine ⟨hV.tr ⟨fun i k x y _ _ => by show μ7.1 i k = _; rw [e7, sF_i y], fun k hk => by show μ7.1 12 k = _; rw [e7, sF_k hk], fun k _ => by show μ7.1 13 k = _; rw [e7, sF_i (by decide)], fun k _ _ _ _ => by show μ7.1 0 k = _; rw [e7, sF_i (by decide)]⟩, rfl, ?_, ?_, ?_, ?_⟩
        · show MwT t n w.1 μ7
          rw [e7]; exact mw_of hw (by rw [sF_i (by decide)]) (by rw [sF_i (by decide)]) (by rw [sF_i (by decide)]) (fun j => by rw [sF_i (by decide)])
        · intro x hx; show (μ7.1 21 _).toInt = _; rw [e7, sF_i (by decide)]; exact hT x hx
        · show (μ7.1 12 F).toInt = _; rw [e7, sF_v]; exact ha
        · exact hR.cong (fun j _ => by show μ7.1 13 _ = _; rw [e7, sF_i (by decide)])
    rw [p_X12_readVars_b46_s, if_neg (by decide)]
    refine pk_bd (q_Mhere hw) ?_
    rintro r9 μ8 ⟨e, hh⟩
    have hh : r9 = hr t n v.1 := hh
    have e : μ8 = μ := e
    subst e
    subst hh
    have bad : ¬ (isVa (hr t n v.1) = true ∧ ¬ hr t n v.1 ∈ v.2) → pk (bd (p_X12_fails (μ8.1 0 4) μ8) (fun r12 μ11 => gd (isB r12) (some (r12, μ11)))) (Mn5 t n F μ0 (nms t n (4 - v.2.length) (nm1 t n v))) := by
      intro c
      have : nm1 t n v = .inl v.1 := by unfold nm1; rw [if_neg c]
      rw [this, nms_l]
      exact pk_mono (q_Mfailb hw) (fun r hr => ⟨hV.tr hr.1.mv5, hr.2.1, hr.2.2⟩)
    refine pk_ite (fun cv => ?_) (fun cv => ?_)
    · rw [isVa_M] at cv
      exact bad (fun hx => by rw [cv] at hx; exact absurd hx.1 (by decide))
    rw [isVa_M] at cv
    have cv : isVa (hr t n v.1) = true := by simpa using cv
    have hcount := hT (hr t n v.1) cv
    refine pk_gd (fun _ => pk_ite (fun c0 => ?_) (fun c0 => ?_))
    · rw [ti_le, e0, hcount] at c0
      have hn : ¬ hr t n v.1 ∈ v.2 := List.count_eq_zero.mp (by omega)
      have hm1 : nm1 t n v = .inr (v.1 + 1, hr t n v.1 :: v.2) := by unfold nm1; rw [if_pos ⟨cv, hn⟩]
      rw [hm1]
      refine pk_bvy (fun v15 e15 => pk_gd (fun _ => pk_gd (fun _ => pk_bvy (fun μ16 e16 => pk_gd (fun _ => pk_bvy (fun μ17 e17 => pk_bvy (fun v18 e18 => pk_bvy (fun μ19 e19 => ?_))))))))
      have e5' : (5 : Int32).toInt = 5 := by decide
      have ix : ((5 : Int32) * (μ16.1 0 27) + a1).toNatClampNeg = 5 * F + v.2.length := by
        rw [e16, sF_i (by decide), hV.2.2.2 27 (by decide) (by decide) (by decide) (by decide)]
        have h5F : ((5 : Int32) * (μ0.1 0 27)).toInt = 5 * (F : Int) := by rw [Int32.mul_comm, ti_mulc e5' (by omega) (by omega), h27]; omega
        exact tn_of (by rw [ti_add (by omega) (by omega), h5F, h1]; omega)
      rw [ix] at e17
      have h18 : v18.toInt = ((hr t n v.1 :: v.2).length : Int) := by rw [e18, ti_add (by omega) (by omega), h1, e1]; simp
      have w17 : MwT t n v.1 μ17 := by
        rw [e17, e16]; exact mw_of hw (by rw [sF_i (by decide), sF_i (by decide)]) (by rw [sF_i (by decide), sF_i (by decide)]) (by rw [sF_i (by decide), sF_i (by decide)]) (fun j => by rw [sF_i (by decide), sF_i (by decide)])
      have w19 : MwT t n (v.1 + 1) μ19 := by rw [e19]; exact mw_next w17 (hr_lt (cls_ne (by decide) cv))
      have V19 : Mv5 F μ0 μ19 := hV.tr ⟨fun i k x y z w => by rw [e19, sF_i x, e17, sF_i z, e16, sF_i w], fun k hk => by rw [e19, sF_i (by decide), e17, sF_i (by decide), e16, sF_i (by decide)], fun k hk => by rw [e19, sF_i (by decide), e17, sF_k (by omega), e16, sF_i (by decide)], fun k x _ _ _ => by rw [e19, sF_k x, e17, sF_i (by decide), e16, sF_i (by decide)]⟩
      have T19 : Tl μ19 (hr t n v.1 :: v.2) := by
        intro a ha
        rw [e19, sF_i (by decide), e17, sF_i (by decide), e16, e15]
        by_cases hx : a = hr t n v.1
        · rw [hx, List.count_cons_self, sF_v, ti_add (by omega) (by omega), hcount, e1]; omega
        · rw [List.count_cons_of_ne (Ne.symm hx), sF_k (fun e => hx (va_inj ha cv e))]; exact hT a ha
      have R19 : Vr5 F μ19 (hr t n v.1 :: v.2) := ⟨by rw [e19, sF_i (by decide), e17, sF_v], hR.cong (fun j hj => by rw [e19, sF_i (by decide), e17, sF_k (by omega), e16, sF_i (by decide)])⟩
      refine pk_bd (q_Mhere w19) ?_
      rintro r21 μ20 ⟨e, hh21⟩
      have hh21 : r21 = hr t n (v.1 + 1) := hh21
      have e : μ20 = μ19 := e
      subst e
      have stop : nms t n (4 - v.2.length) (.inr (v.1 + 1, hr t n v.1 :: v.2)) = .inr (v.1 + 1, hr t n v.1 :: v.2) → pk (p_X12_readVars_b144 (p_X12_readVars_b46 fu) v18 μ20) (Mn5 t n F μ0 (nms t n (4 - v.2.length) (.inr (v.1 + 1, hr t n v.1 :: v.2)))) := by
        intro hs
        rw [hs, p_X12_readVars_b144_eq, p_X12_readVars_b145_eq, if_pos rfl, p_X12_readVars_b160_eq]
        exact fin v18 _ μ20 h18 V19 w19 T19 R19
      refine pk_ite (fun c44 => pk_ite (fun c5 => ?_) (fun c5 => ?_)) (fun c44 => ?_)
      · rw [ti_le, e5, h18] at c5
        refine stop ?_
        have : (hr t n v.1 :: v.2).length = v.2.length + 1 := rfl
        rw [show 4 - v.2.length = 0 by omega]; rfl
      · rw [ti_le, e5, h18] at c5
        have hll : (hr t n v.1 :: v.2).length = v.2.length + 1 := rfl
        rw [hh21] at c44
        rw [show 4 - v.2.length = (4 - (v.2.length + 1)) + 1 by omega, nms_y (v := (v.1 + 1, hr t n v.1 :: v.2)) c44]
        rw [p_X12_readVars_b145_eq, if_neg (by decide)]
        refine pk_bvy (fun μ24 e24 => ?_)
        rw [p_X12_readVars_b160_eq]
        have hE : Me μ20 μ24 := by rw [e24]; exact Me.put (by omega) _
        exact ih v18 (v.1 + 1 + 1, hr t n v.1 :: v.2) μ24 h18 (by show (hr t n v.1 :: v.2).length ≤ 4; omega) (V19.tr hE.mv5) (by rw [e24]; exact mw_next w19 (hr_lt (by rw [c44]; decide))) (fun a ha => by rw [hE 21 _ (by omega)]; exact T19 a ha) (R19.cong (fun j _ => hE 13 _ (by omega)))
      · rw [hh21] at c44
        exact stop (nms_n (v := (v.1 + 1, hr t n v.1 :: v.2)) c44 _)
    · rw [ti_le, e0, hcount] at c0
      refine bad (fun hx => ?_)
      rw [List.count_eq_zero.mpr hx.2] at c0
      omega
theorem q_Mvars5 {t : Nat → Int32} {n F p : Nat} {μ : Mem} (h27 : (μ.1 0 27).toInt = (F : Int)) (hF8 : F ≤ 800) (hw : MwT t n p μ) : pk (p_X12_readVars μ) (Mn5 t n F μ (rnl t n (.inr (p, [])))) := by
  have e0 : (0 : Int32).toInt = 0 := by decide
  have e1 : (1 : Int32).toInt = 1 := by decide
  have e14 : (14 : Int32).toInt = 14 := by decide
  have loop : ∀ (fu j : Nat) (a2 : Int32) (q : Mem), a2.toInt = (j : Int) → j ≤ 14 → Mv5 F μ q → MwT t n p q → (∀ k, k < j → q.1 21 k = 0) → pk (p_X12_readVars_b4 fu 0 a2 q) (Mn5 t n F μ (rnl t n (.inr (p, [])))) := by
    intro fu
    induction fu with
    | zero => intro j a2 q _ _ _ _ _ r e; rw [p_X12_readVars_b4_z] at e; cases e
    | succ fu ih =>
      intro j a2 q h2 hj hV hw hk
      rw [p_X12_readVars_b4_s]
      refine pk_ite (fun c => ?_) (fun c => ?_)
      · rw [ti_le, e14, h2] at c
        refine pk_gd (fun _ => pk_bvy (fun μ2 m2 => ?_))
        rw [hV.2.2.2 27 (by decide) (by decide) (by decide) (by decide), tn_of h27] at m2
        have V2 : Mv5 F μ μ2 := hV.tr ⟨fun i k x y _ _ => by rw [m2, sF_i y], fun k hk => by rw [m2, sF_k hk], fun k _ => by rw [m2, sF_i (by decide)], fun k _ _ _ _ => by rw [m2, sF_i (by decide)]⟩
        have w2 : MwT t n p μ2 := by rw [m2]; exact mw_of hw (by rw [sF_i (by decide)]) (by rw [sF_i (by decide)]) (by rw [sF_i (by decide)]) (fun j => by rw [sF_i (by decide)])
        have T2 : Tl μ2 [] := by
          intro a ha
          have r := isVa_r ha
          have x := (va_ix ha).2
          rw [m2, sF_i (by decide), hk _ (by omega)]; rfl
        refine pk_bd (q_Mhere w2) ?_
        rintro r4 μ3 ⟨e, hh⟩
        have hh : r4 = hr t n p := hh
        have e : μ3 = μ2 := e
        subst e
        show pk _ (Mn5 t n F μ (if hr t n p = 41 then .inr (p, []) else nms t n 4 (nm1 t n (p, []))))
        refine pk_ite (fun c1 => ?_) (fun c1 => ?_)
        · rw [hh] at c1
          rw [if_pos c1]
          exact pk_some ⟨V2, rfl, w2, T2, by show (μ3.1 12 F).toInt = 0; rw [m2, sF_v]; exact e0, trivial⟩
        · rw [hh] at c1
          rw [if_neg c1]
          exact q_Mnames5 h27 hF8 FUEL 0 (p, []) μ3 e0 (Nat.zero_le _) V2 w2 T2 trivial
      · rw [ti_le, e14, h2] at c
        refine pk_gd (fun _ => pk_bvy (fun μ29 m29 => pk_bv (ih (j + 1) _ μ29 (by rw [ti_add (by omega) (by omega), e1, h2]; omega) (by omega) (hV.tr ⟨fun i k _ _ _ w => by rw [m29, sF_i w], fun k hk => by rw [m29, sF_i (by decide)], fun k _ => by rw [m29, sF_i (by decide)], fun k _ _ _ _ => by rw [m29, sF_i (by decide)]⟩) (by rw [m29]; exact mw_of hw (by rw [sF_i (by decide)]) (by rw [sF_i (by decide)]) (by rw [sF_i (by decide)]) (fun j => by rw [sF_i (by decide)])) (fun k hk' => ?_))))
        rw [m29, tn_of h2]
        by_cases ck : k = j
        · rw [ck, sF_v]
        · rw [sF_k ck]; exact hk k (by omega)
  rw [p_X12_readVars_eq]
  exact loop FUEL 0 0 μ e0 (by omega) Mv5.rf hw (fun k hk => by omega)
