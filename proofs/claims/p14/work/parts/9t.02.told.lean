theorem i2f_u (v : Int32) : (s_X12_floatOf 0 v).toUInt32 = FP.i2f v := by
  rw [i2f_bits]
  show (nI _).toUInt32 = UInt32.ofNat _
  rfl
theorem i2f_fin (v : Int32) : nn (s_X12_floatOf 0 v) % 2147483648 ≤ 2139095040 := by
  have h := enc_dat (D := .fin (decide (v.toInt < 0)) v.toInt.natAbs 0) (by intro e; cases e)
  rw [i2f_bits]
  have hn : nn (nI (Jvm.FP.Core.encode B (Jvm.FP.Core.roundRatio B (decide (v.toInt < 0)) v.toInt.natAbs 1 0))) = Jvm.FP.Core.encode B (Jvm.FP.Core.roundRatio B (decide (v.toInt < 0)) v.toInt.natAbs 1 0) := by
    show (BitVec.ofNat 32 _).toNat = _
    rw [BitVec.toNat_ofNat]; exact Nat.mod_eq_of_lt h.2
  rw [hn]
  exact h.1
theorem fdv_ok (v : Int32) (d : Nat) (k : UInt32) (hk : s_X12_floatOf 0 (p10 d) = k.toInt32) (h0 : ¬ nn k.toInt32 % 2147483648 = 0) (h1 : ¬ nn k.toInt32 % 2147483648 = 2139095040) : s_X12_bitsOf (FP.fdiv (FP.i2f v) k) = fdv v d := by
  unfold fdv
  have hf := i2f_fin v
  have hg := i2f_fin (p10 d)
  rw [hk] at hg
  rw [i2f_ok, i2f_ok, hk, lx_div, div_ok _ _ hf hg, m_br47_eq, noN47_iff _ _ hf hg (fun e => h1 e.2) (fun e => h0 e.2), if_pos rfl, lm_bitsOf, i2f_u]
  rfl
theorem fdv_1 (v : Int32) : s_X12_bitsOf (FP.fdiv (FP.i2f v) 1092616192) = fdv v 1 := fdv_ok v 1 1092616192 (by rw [i2f_bits]; decide +kernel) (by decide +kernel) (by decide +kernel)
theorem fdv_2 (v : Int32) : s_X12_bitsOf (FP.fdiv (FP.i2f v) 1120403456) = fdv v 2 := fdv_ok v 2 1120403456 (by rw [i2f_bits]; decide +kernel) (by decide +kernel) (by decide +kernel)
theorem fdv_3 (v : Int32) : s_X12_bitsOf (FP.fdiv (FP.i2f v) 1148846080) = fdv v 3 := fdv_ok v 3 1148846080 (by rw [i2f_bits]; decide +kernel) (by decide +kernel) (by decide +kernel)
theorem q_MdigitsV {t : Nat → Int32} {n k : Nat} {a1 a2 : Int32} (ha : a1.toInt = (k : Int)) (hk : k ≤ 5) {p : Nat} {μ : Mem} (h : MwT t n p μ) : pk (p_X12_digits a1 a2 μ) (fun r => r.1 = dv t n k p a2) := by
  have e1 : (1 : Int32).toInt = 1 := by decide
  rw [p_X12_digits_eq]
  refine pk_bvy (fun v1 ev => ?_)
  have hv : v1.toInt = (p : Int) := by rw [ev]; exact h.2.2.1
  have loop : ∀ (fu j : Nat) (a3 : Int32) (μ2 : Mem), j ≤ k → MwT t n (p + j) μ2 → dv t n (k - j) (p + j) a3 = dv t n k p a2 → pk (p_X12_digits_b8 fu a1 a3 v1 μ2) (fun r => r.1 = dv t n k p a2) := by
    intro fu
    induction fu with
    | zero => intro j a3 μ2 _ _ _ r e; rw [p_X12_digits_b8_z] at e; cases e
    | succ fu ih =>
      intro j a3 μ2 hj hw hd
      have hn := hw.1.2.1
      have hpn := hw.2.2.2
      rw [p_X12_digits_b8_s]
      refine pk_bd (q_Mhere hw) ?_
      rintro r3 μ3 ⟨e, hh⟩
      have e : μ3 = μ2 := e
      subst e
      have hh : r3 = hr t n (p + j) := hh
      refine pk_ite (fun c => pk_some ?_) (fun c => ?_)
      · rw [isD_M, hh] at c
        show a3 = _
        rw [← hd]
        cases h5 : k - j with
        | zero => rfl
        | succ d => rw [dv_s, if_neg (by rw [c]; decide)]
      · rw [isD_M, hh] at c
        have c : isD (hr t n (p + j)) = true := by simpa using c
        have hs : (μ3.1 0 4 - v1).toInt = (j : Int) := by rw [ti_sub (by have := hw.2.2.1; omega) (by have := hw.2.2.1; omega), hw.2.2.1, hv]; omega
        refine pk_ite (fun c2 => pk_some ?_) (fun c2 => ?_)
        · rw [ti_le, ha, hs] at c2
          have : k - j = 0 := by omega
          rw [this] at hd
          exact hd
        · rw [ti_le, ha, hs] at c2
          obtain ⟨d, hd'⟩ : ∃ d, k - j = d + 1 := ⟨k - j - 1, by omega⟩
          rw [hd', dv_s, if_pos c] at hd
          refine pk_bd (q_Mhere hw) ?_
          rintro r7 μ6 ⟨e, hh7⟩
          have e : μ6 = μ3 := e
          subst e
          have hh7 : r7 = hr t n (p + j) := hh7
          exact pk_bvy (fun v8 e8 => pk_bvy (fun μ9 e9 => ih (j + 1) _ _ (by omega) (by rw [e9]; exact mw_next hw (hr_lt (isD_ne c))) (by rw [show k - (j + 1) = d by omega, e8, hh7, Int32.mul_comm]; exact hd)))
  exact loop FUEL 0 a2 μ (by omega) h rfl
set_option maxHeartbeats 1000000 in
theorem q_MnumV {t : Nat → Int32} {n p : Nat} {μ : Mem} (h : MwT t n p μ) : pk (p_X12_readNumber μ) (fun r => ∀ e, rn t n p = .inr e → r.2.1 0 6 = (nvl t n p).1 ∧ r.2.1 0 7 = (nvl t n p).2) := by
  have e1 : (1 : Int32).toInt = 1 := by decide
  have e2 : (2 : Int32).toInt = 2 := by decide
  have e5 : (5 : Int32).toInt = ((5 : Nat) : Int) := by decide
  have e3 : (3 : Int32).toInt = ((3 : Nat) : Int) := by decide
  have bad : ∀ {f : Nat} {x : Option (Int32 × Mem)}, rn t n p = .inl f → pk x (fun r => ∀ e, rn t n p = .inr e → r.2.1 0 6 = (nvl t n p).1 ∧ r.2.1 0 7 = (nvl t n p).2) := by
    intro f x hf r _ e he
    rw [hf] at he; cases he
  have b29 : ∀ (a1 : Int32) (q : Mem), MwT t n (nmp t n p) q → (∀ v, sg1 a1 v = sgn (hr t n p) v) → pk (p_X12_readNumber_b29 a1 q) (fun r => ∀ e, rn t n p = .inr e → r.2.1 0 6 = (nvl t n p).1 ∧ r.2.1 0 7 = (nvl t n p).2) := by
    intro a1 q hw hsg
    rw [p_X12_readNumber_b29_eq]
    refine pk_bd (q_Mhere hw) ?_
    rintro r6 μ5 ⟨e, hh⟩
    have e : μ5 = q := e
    subst e
    have hh : r6 = hr t n (nmp t n p) := hh
    refine pk_ite (fun c => ?_) (fun c => ?_)
    · rw [isD_M, hh] at c
      have hd : dg t n 5 (nmp t n p) = nmp t n p := by rw [dg_s, if_neg (by rw [c]; decide)]
      exact bad (f := nmp t n p) (by rw [rn_e, if_pos hd])
    · rw [isD_M, hh] at c
      have c : isD (hr t n (nmp t n p)) = true := by simpa using c
      have hd : dg t n 5 (nmp t n p) ≠ nmp t n p := dg_pos.mp c
      refine pk_bd (pk_both (q_Mdigits (a2 := 0) e5 (by omega) hw) (q_MdigitsV (a2 := 0) e5 (by omega) hw)) ?_
      rintro r9 μ8 ⟨⟨hE8, hw8⟩, hv⟩
      have hw8 : MwT t n (dg t n 5 (nmp t n p)) μ8 := hw8
      have hv : r9 = dv t n 5 (nmp t n p) 0 := hv
      have b71 : ∀ k0 : Int32, k0 = sg1 a1 r9 → pk (p_X12_readNumber_b71 a1 r9 k0 (sF μ8 0 6 0)) (fun r => ∀ e, rn t n p = .inr e → r.2.1 0 6 = (nvl t n p).1 ∧ r.2.1 0 7 = (nvl t n p).2) := by
        intro k0 hk0
        rw [p_X12_readNumber_b71_eq]
        refine pk_bvy (fun μ12 e12 => ?_)
        have hw12 : MwT t n (dg t n 5 (nmp t n p)) μ12 := by rw [e12]; exact mw_put (mw_put hw8 (by omega) _) (by omega) _
        refine pk_bd (q_Mhere hw12) ?_
        rintro r14 μ13 ⟨e, hh⟩
        have e : μ13 = μ12 := e
        subst e
        have hh : r14 = hr t n (dg t n 5 (nmp t n p)) := hh
        refine pk_ite (fun c1 => pk_bvy (fun μ16 e16 => ?_)) (fun c1 => pk_some (fun e _ => ?_))
        · rw [hh] at c1
          have hw16 : MwT t n (dg t n 5 (nmp t n p) + 1) μ16 := by rw [e16]; exact mw_next hw12 (hr_lt (by rw [c1]; decide))
          refine pk_bd (q_Mhere hw16) ?_
          rintro r18 μ17 ⟨e, hh⟩
          have e : μ17 = μ16 := e
          subst e
          have hh : r18 = hr t n (dg t n 5 (nmp t n p) + 1) := hh
          refine pk_ite (fun c2 => ?_) (fun c2 => pk_bvy (fun v20 e20 => ?_))
          · rw [isD_M, hh] at c2
            exact bad (f := dg t n 5 (nmp t n p) + 1) (by rw [rn_e, if_neg hd, if_pos c1, if_pos (by rw [dg_s, if_neg (by rw [c2]; decide)])])
          · rw [isD_M, hh] at c2
            have c2 : isD (hr t n (dg t n 5 (nmp t n p) + 1)) = true := by simpa using c2
            refine pk_bd (pk_both (q_Mdigits (a2 := r9) e3 (by omega) hw16) (q_MdigitsV (a2 := r9) e3 (by omega) hw16)) ?_
            rintro r22 μ21 ⟨⟨hE21, hw21⟩, hv22⟩
            have hw21 : MwT t n (dg t n 3 (dg t n 5 (nmp t n p) + 1)) μ21 := hw21
            have hv22 : r22 = dv t n 3 (dg t n 5 (nmp t n p) + 1) r9 := hv22
            have hpos : dg t n 3 (dg t n 5 (nmp t n p) + 1) ≠ dg t n 5 (nmp t n p) + 1 := (dg_pos (k := 2)).mp c2
            have hle := dg_le t n 3 (dg t n 5 (nmp t n p) + 1)
            have h3 : dg t n 3 (dg t n 5 (nmp t n p) + 1) ≤ dg t n 5 (nmp t n p) + 1 + 3 := dg_hi t n 3 _
            have hv20 : v20.toInt = ((dg t n 5 (nmp t n p) + 1 : Nat) : Int) := by rw [e20]; exact hw16.2.2.1
            have h800 := hw21.1.2.1
            have hpn := hw21.2.2.2
            have hdiff : (μ21.1 0 4 - v20).toInt = ((dg t n 3 (dg t n 5 (nmp t n p) + 1) - (dg t n 5 (nmp t n p) + 1) : Nat) : Int) := by
              have := hw21.2.2.1
              rw [ti_sub (by omega) (by omega), this, hv20]; omega
            have b161 : ∀ k0 : UInt32, (∀ v, s_X12_bitsOf (FP.fdiv (FP.i2f v) k0) = fdv v (dg t n 3 (dg t n 5 (nmp t n p) + 1) - (dg t n 5 (nmp t n p) + 1))) → pk (p_X12_readNumber_b161 a1 r22 k0 μ21) (fun r => ∀ e, rn t n p = .inr e → r.2.1 0 6 = (nvl t n p).1 ∧ r.2.1 0 7 = (nvl t n p).2) := by
              intro k0 hk
              have hn : nvl t n p = (1, fdv (sgn (hr t n p) (dv t n 3 (dg t n 5 (nmp t n p) + 1) (dv t n 5 (nmp t n p) 0))) (dg t n 3 (dg t n 5 (nmp t n p) + 1) - (dg t n 5 (nmp t n p) + 1))) := by unfold nvl; rw [if_pos c1]
              rw [p_X12_readNumber_b161_eq]
              refine pk_bvy (fun μ25 e25 => pk_ite (fun cz => pk_gd (fun _ => pk_bvy (fun μ28 e28 => pk_some (fun e _ => ?_)))) (fun cz => pk_gd (fun _ => pk_bvy (fun μ28 e28 => pk_some (fun e _ => ?_)))))
              · show μ28.1 0 6 = _ ∧ μ28.1 0 7 = _
                rw [hn, e28, sF_k (by decide), sF_v, e25, sF_v, hk, ← hsg, hv22, hv]
                refine ⟨rfl, ?_⟩
                show _ = fdv (sg1 a1 _) _
                unfold sg1; rw [if_pos cz]
              · show μ28.1 0 6 = _ ∧ μ28.1 0 7 = _
                rw [hn, e28, sF_k (by decide), sF_v, e25, sF_v, hk, ← hsg, hv22, hv]
                refine ⟨rfl, ?_⟩
                show _ = fdv (sg1 a1 _) _
                unfold sg1; rw [if_neg cz]
            refine pk_ite (fun q1 => b161 _ ?_) (fun q1 => pk_ite (fun q2 => b161 _ ?_) (fun q2 => b161 _ ?_))
            · rw [ti_eq, hdiff, e1] at q1
              rw [show dg t n 3 (dg t n 5 (nmp t n p) + 1) - (dg t n 5 (nmp t n p) + 1) = 1 by omega]; exact fdv_1
            · rw [ti_eq, hdiff, e2] at q2
              rw [show dg t n 3 (dg t n 5 (nmp t n p) + 1) - (dg t n 5 (nmp t n p) + 1) = 2 by omega]; exact fdv_2
            · rw [ti_eq, hdiff, e1] at q1
              rw [ti_eq, hdiff, e2] at q2
              rw [show dg t n 3 (dg t n 5 (nmp t n p) + 1) - (dg t n 5 (nmp t n p) + 1) = 3 by omega]; exact fdv_3
        · rw [hh] at c1
          have hn : nvl t n p = (0, sgn (hr t n p) (dv t n 5 (nmp t n p) 0)) := by unfold nvl; rw [if_neg c1]
          show μ13.1 0 6 = _ ∧ μ13.1 0 7 = _
          rw [hn, e12, sF_k (by decide), sF_v, sF_v, hk0, hsg, hv]
          exact ⟨rfl, rfl⟩
      refine pk_bvy (fun μ10 e10 => ?_)
      rw [e10]
      exact pk_ite (fun cz => b71 _ (by unfold sg1; rw [if_pos cz])) (fun cz => b71 _ (by unfold sg1; rw [if_neg cz]))
  rw [p_X12_readNumber_eq]
  refine pk_bd (q_Mhere h) ?_
  rintro r2 μ1 ⟨e, hh⟩
  have e : μ1 = μ := e
  subst e
  have hh : r2 = hr t n p := hh
  refine pk_ite (fun c => ?_) (fun c => ?_)
  · rw [hh] at c
    rw [p_X12_readNumber_b14_eq, if_neg (by decide)]
    refine pk_bvy (fun μ37 e37 => b29 _ _ ?_ (fun v => ?_))
    · rw [e37]; unfold nmp; rw [if_pos c]; exact mw_next h (hr_lt (by rw [c]; decide))
    · unfold sg1 sgn; rw [if_pos c, if_neg (by decide)]
  · rw [hh] at c
    rw [p_X12_readNumber_b14_eq, if_pos rfl]
    refine b29 _ _ ?_ (fun v => ?_)
    · unfold nmp; rw [if_neg c]; exact h
    · unfold sg1 sgn; rw [if_neg c, if_pos rfl]
