/-! WRITE -/
theorem q_isVariant (a1 : Int32) (μ : Mem) : pk (p_X12_isVariant a1 μ) (fun r => r.2 = μ ∧ (r.1 = 0 ∨ (μ.1 0 95 ≠ 0 ∧ 0 ≤ a1.toInt ∧ a1.toInt ≤ (μ.1 0 110 - 1).toInt))) := by
  have e0 : (0 : Int32).toInt = 0 := by decide
  rw [p_X12_isVariant_eq]
  refine pk_ite (fun _ => pk_some ⟨rfl, Or.inl rfl⟩) (fun h => pk_ite (fun _ => pk_some ⟨rfl, Or.inl rfl⟩) (fun h2 => pk_some ⟨rfl, Or.inr ⟨h, ?_⟩⟩))
  rcases tf_isIn a1 0 (μ.1 0 110 - 1) with ⟨x, _⟩ | ⟨_, x⟩
  · exact absurd (ti_eq.mpr (by rw [x, e0])) h2
  · rw [e0] at x; exact x
theorem Ip.fr {μ μ' : Mem} {OB i : Nat} (h : Ip μ OB i) (f : Fr frPt true μ μ') : Ip μ' OB i := by
  unfold Ip
  rw [f.a (c := 51) (by decide +kernel), f.a (c := 46) (by decide +kernel), f.a (c := 52) (by decide +kernel)]
  exact h
set_option maxHeartbeats 2000000 in
theorem k_write {μ : Mem} (h : IW μ) (a1 : Int32) : ok (p_X12_write a1 μ) (fun q => KpW μ q.2) := by
  have e0 : (0 : Int32).toInt = 0 := by decide
  have e1 : (1 : Int32).toInt = 1 := by decide
  have e210 : (210 : Int32).toInt = 210 := by decide
  rw [p_X12_write_eq]
  refine ok_bd (ok_pk (k_X12_isVariant a1 μ h.1) (q_isVariant a1 μ)) ?_
  rintro r2 μ1 ⟨_, q1, q2⟩
  have q1 : μ = μ1 := Eq.symm q1
  subst q1
  have q2 : r2 = 0 ∨ (μ.1 0 95 ≠ 0 ∧ 0 ≤ a1.toInt ∧ a1.toInt ≤ (μ.1 0 110 - 1).toInt) := q2
  refine ok_ite (fun _ => ok_some ⟨h, rfl⟩) (fun hr => ok_bv (fun μ4 em => ?_))
  obtain ⟨h95, l1, l2⟩ := q2.resolve_left hr
  have g110 := rgm_0_110 h.1
  have n110 := ti_nat (a := μ.1 0 110) (by omega)
  have en110 : nv μ 110 = (μ.1 0 110).toNatClampNeg := rfl
  rw [ti_sub (by omega) (by omega), e1] at l2
  obtain ⟨ks, hS, hks, hVP, _⟩ := h.2.2.2.2.2.2 h95
  obtain ⟨v, hv⟩ : ∃ v : Nat, a1.toInt = (v : Int) := ⟨a1.toInt.toNat, by omega⟩
  have hvn : v < nv μ 110 := by omega
  obtain ⟨_, b0, e, o, V, w1, w2, w3, w4, w5, w6⟩ := hS.2.2.2 v (by omega)
  have w7 := w6.1
  have g87 := rgm_0_87 h.1
  have n87 := ti_nat (a := μ.1 0 87) (by omega)
  have en87 : nv μ 87 = (μ.1 0 87).toNatClampNeg := rfl
  have g88 := rgm_0_88 h.1
  have n88 := ti_nat (a := μ.1 0 88) (by omega)
  have en88 : nv μ 88 = (μ.1 0 88).toNatClampNeg := rfl
  have g89 := rgm_0_89 h.1
  have n89 := ti_nat (a := μ.1 0 89) (by omega)
  have en89 : nv μ 89 = (μ.1 0 89).toNatClampNeg := rfl
  have hbe := w5.le
  have hcs := hS.2.1 lc 14 132 lc_ad
  simp only [List.length_nil, pend] at hcs
  have hsu := Su.le (fun i => lc (iv μ 46 i)) e (nv μ 87) w4
  have hsb := Su.le (fun i => lc (iv μ 46 i)) b0 e hbe
  have b1 : inb a1 25 = true := inb_iff.mpr (by omega)
  have f4 : Fr frPt true μ μ4 := by rw [em]; exact Fr.put Fr.rf (by decide +kernel)
  have hI4 : IM μ4 := by rw [em]; exact IM_F h.1 (rpm_0_139 (by omega))
  have n4 : nv μ4 139 = 0 := tn_of (by rw [em, sF_v, e0]; rfl)
  have g57 := rgm_57 hI4 v
  have g58 : ∀ q, IM q → 0 ≤ (q.1 58 v).toInt ∧ (q.1 58 v).toInt ≤ 210 := fun q hq => rgm_58 hq v
  rw [tn_of hv]
  refine ok_gd b1 (ok_gd (inb_iff.mpr (by omega)) ?_)
  have h4 : Lt μ4 0 μ4 := Lt.rf hI4
  have fin : ∀ (q : Mem) (j : Nat), Lt μ4 j q → KpW μ q := by
    intro q j hq
    have F : Fr frPt true μ q := f4.trans hq.2.1
    exact ⟨h.fr F hq.1 (by rw [F.v (by decide +kernel)]; exact h.2.2.2.2.2.1) (by decide +kernel), F.v (by decide +kernel)⟩
  have loop : ∀ (n i j : Nat) (a2 : Int32) (q : Mem), a2.toInt = (i : Int) → b0 ≤ i → i ≤ e → e < n + i → Lt μ4 j q → j + Su (fun i => lc (iv μ 46 i)) b0 ≤ 2944 + Su (fun i => lc (iv μ 46 i)) i → ok (p_X12_write_b83 n a1 a2 q) (fun q => KpW μ q.2) := by
    intro n
    induction n with
    | zero => intro i j a2 q _ _ h1 h2; omega
    | succ n ih =>
      intro i j a2 q h2 hb hi hn hq hj
      have F : Fr frPt true μ q := f4.trans hq.2.1
      have k63 : (q.1 63 v).toInt = (e : Int) := by
        have := F.a (c := 63) (by decide +kernel) v
        show iv q 63 v = _
        rw [this, w2]
      have k64 : (q.1 64 v).toInt = (o : Int) := by
        have := F.a (c := 64) (by decide +kernel) v
        show iv q 64 v = _
        rw [this, w3]
      have hsi := Su.le (fun i => lc (iv μ 46 i)) i e hi
      have hq2 := hq.2.2
      rw [p_X12_write_b83_s, tn_of hv]
      refine ok_gd b1 (ok_ite (fun hle => ok_gd b1 ?_) (fun hle => ?_))
      · have ho : ok (p_X12_putOperand (q.1 64 v) q) (Lt q 12) := by
          rw [p_X12_putOperand_eq]
          have hb4 : inb (q.1 64 v) 4200 = true := inb_iff.mpr (by omega)
          exact ok_gd hb4 (ok_gd hb4 (ls_one (Lt.rf hq.1) (by omega) (fun z hz => ok_some (hz.mono (by omega)))))
        refine ok_bw ho (fun z hz => ?_)
        have hz2 := hz.2.2
        exact ok_bw (k_put hz.1 59 (by omega)) (fun y hy => ok_some (fin y (j + 12 + 1) ((hq.tr hz (Nat.le_refl _)).tr hy (Nat.le_refl _))))
      · rw [ti_le] at hle
        have hie : i < e := by omega
        have hsi1 := Su.le (fun i => lc (iv μ 46 i)) (i + 1) e hie
        have hss : Su (fun i => lc (iv μ 46 i)) (i + 1) = Su (fun i => lc (iv μ 46 i)) i + lc (iv μ 46 i) := rfl
        have k46 : iv q 46 i = iv μ 46 i := F.a (by decide +kernel) i
        refine ok_bw (k_putItem h2 (by omega) hq.1 ((w5.ip i hb hie).fr F) (by omega) (by omega)) (fun z hz => ok_bv (fun v23 e23 => ?_))
        rw [k46] at hz
        exact ih (i + 1) (j + lc (iv μ 46 i)) v23 z (by rw [e23, ti_add (by omega) (by omega), e1, h2]; omega) (by omega) (by omega) (by omega) (hq.tr hz (Nat.le_refl _)) (by omega)
  refine ok_bw (k_put hI4 _ (by omega)) (fun μ5 h5 => ok_bw (k_put h5.1 _ (by have := h5.2.2; omega)) (fun μ7 h7 => ok_gd b1 ?_))
  have h57 := (h4.tr h5 (Nat.le_refl _)).tr h7 (Nat.le_refl _)
  have gp := g58 μ7 h7.1
  have s60 : (sh 1 60).2 = 5250 := by rw [shm_60]
  have s61 : (sh 1 61).2 = 5250 := by rw [shm_61]
  have t210 : ((210 : Int32) * a1).toInt = ((210 * v : Nat) : Int) := by rw [ti_mul (by rw [e210, hv]; omega) (by rw [e210, hv]; omega), e210, hv]; omega
  have m58 := ti_nat (a := μ7.1 58 v) (by omega)
  have h572 := h57.2.2
  refine ok_bw (k_putParts h7.1 60 61 (f := 210 * v) (m := (μ7.1 58 v).toNatClampNeg) t210 (by omega) (by omega) (by omega) (by omega) (by omega) (by omega)) (fun μ9 h9 => ?_)
  have h9' := h57.tr h9 (Nat.le_refl _)
  have h92 := h9'.2.2
  refine ok_bw (k_put h9.1 _ (by omega)) (fun μ11 h11 => ?_)
  have h11' := h9'.tr h11 (Nat.le_refl _)
  have h112 := h11'.2.2
  refine ok_bw (k_put h11.1 _ (by omega)) (fun μ13 h13 => ok_gd b1 (ok_bv (fun v15 e15 => ?_)))
  have h13' := h11'.tr h13 (Nat.le_refl _)
  have k62 : v15.toInt = (b0 : Int) := by
    have := (f4.trans h13'.2.1).a (c := 62) (by decide +kernel) v
    rw [e15]
    show iv μ13 62 v = _
    rw [this, w1]
  exact loop FUEL b0 2944 v15 μ13 k62 (Nat.le_refl _) hbe (by show e < 10000000000 + b0; omega) (h13'.mono (by omega)) (Nat.le_refl _)
