/-! LETTERS -/
def frPt : List (Nat × Nat × Nat) := [(1, 88, 0), (0, 0, 139), (1, 89, 0)]
def Lt (μ : Mem) (n : Nat) (q : Mem) : Prop := IM q ∧ Fr frPt true μ q ∧ nv q 139 ≤ nv μ 139 + n
theorem Lt.rf {μ : Mem} (h : IM μ) : Lt μ 0 μ := ⟨h, Fr.rf, by omega⟩
theorem Lt.mono {μ q : Mem} {n m : Nat} (h : Lt μ n q) (hm : n ≤ m) : Lt μ m q := ⟨h.1, h.2.1, by have := h.2.2; omega⟩
theorem Lt.tr {μ q z : Mem} {n m k : Nat} (h : Lt μ n q) (h2 : Lt q m z) (hk : n + m ≤ k) : Lt μ k z := ⟨h2.1, h.2.1.trans h2.2.1, by have := h.2.2; have := h2.2.2; omega⟩
theorem ls {μs μ : Mem} {k n K : Nat} {f : Option Mem} {g : Mem → Option Mem} (h : Lt μs k μ) (hf : ok f (Lt μ n)) (hg : ∀ q, Lt μs (k + n) q → ok (g q) (Lt μs K)) : ok (bw f g) (Lt μs K) := ok_bw hf (fun q hq => hg q (h.tr hq (Nat.le_refl _)))
theorem k_put {μ : Mem} (hI : IM μ) (a : Int32) (h : nv μ 139 < 50000) : ok (p_X12_put a μ) (Lt μ 1) := by
  have e1 : (1 : Int32).toInt = 1 := by decide
  have g := rgm_0_139 hI
  have m := ti_nat (a := μ.1 0 139) (by omega)
  have en : nv μ 139 = (μ.1 0 139).toNatClampNeg := rfl
  rw [p_X12_put_eq]
  refine ok_gd (inb_iff.mpr (by omega)) (ok_bv (fun μ1 em1 => ok_bv (fun μ2 em2 => ok_some ?_)))
  have f1 : Fr frPt true μ μ1 := by rw [em1]; exact Fr.puta Fr.rf (by decide +kernel)
  have f2 : Fr frPt true μ1 μ2 := by rw [em2]; exact Fr.put Fr.rf (by decide +kernel)
  have t : μ1.1 0 139 = μ.1 0 139 := by rw [em1, sF_i (by decide)]
  have t2 : (μ1.1 0 139 + 1).toInt = (μ.1 0 139).toInt + 1 := by rw [t, ti_add (by omega) (by omega), e1]
  refine ⟨by rw [em2]; exact IM_F (by rw [em1]; exact IM_F hI (rtma_88 _ _)) (rpm_0_139 (by omega)), f1.trans f2, ?_⟩
  have : nv μ2 139 = nv μ 139 + 1 := tn_of (by rw [em2, sF_v, t2]; omega)
  omega
theorem ls_put {μs μ : Mem} {k K : Nat} {a : Int32} {g : Mem → Option Mem} (h : Lt μs k μ) (hb : nv μs 139 + k < 50000) (hg : ∀ q, Lt μs (k + 1) q → ok (g q) (Lt μs K)) : ok (bw (p_X12_put a μ) g) (Lt μs K) := ls h (k_put h.1 a (by have := h.2.2; omega)) hg
/-- the powers of ten -/
def pwt (k : Nat) : Int64 := Int64.ofNat (10 ^ k)
theorem pwt_nz : ∀ k, k < 10 → (!(pwt k == 0)) = true := by decide
theorem pwt_up : ∀ k, k < 9 → pwt k * (10 : Int64) = pwt (k + 1) := by decide
theorem pwt_dn : ∀ k, k < 9 → pwt (k + 1) / (10 : Int64) = pwt k := by decide
theorem pwt_dz : pwt 0 / (10 : Int64) = 0 := by decide
theorem pwt_ps : ∀ k, k < 10 → ¬ lg_cmp (pwt k) (0 : Int64) ≤ 0 := by decide
theorem k_digits (a2 : Int64) : ∀ (k n : Nat) (μs μ : Mem) (j : Nat), k < 10 → k + 2 ≤ n → Lt μs j μ → nv μs 139 + j + k + 1 ≤ 50000 → ok (p_X12_putNumber_b47 n a2 (pwt k) μ) (Lt μs (j + k + 1)) := by
  intro k
  induction k with
  | zero =>
    intro n μs μ j hk hn h hb
    obtain ⟨n, rfl⟩ : ∃ m, n = m + 2 := ⟨n - 2, by omega⟩
    rw [p_X12_putNumber_b47_s, if_neg (pwt_ps 0 (by omega))]
    refine ok_gd (pwt_nz 0 (by omega)) (ls_put h (by omega) (fun q hq => ok_bv (fun v9 e9 => ?_)))
    rw [e9, pwt_dz, p_X12_putNumber_b47_s, if_pos (by decide)]
    exact ok_some hq
  | succ k ih =>
    intro n μs μ j hk hn h hb
    obtain ⟨n, rfl⟩ : ∃ m, n = m + 1 := ⟨n - 1, by omega⟩
    rw [p_X12_putNumber_b47_s, if_neg (pwt_ps _ hk)]
    refine ok_gd (pwt_nz _ hk) (ls_put h (by omega) (fun q hq => ok_bv (fun v9 e9 => ?_)))
    rw [e9, pwt_dn k (by omega)]
    exact ok_imp (fun z hz => hz.mono (by omega)) (ih n μs q (j + 1) (by omega) (by omega) hq (by omega))
theorem k_width (a2 : Int64) (ha : 0 ≤ a2.toInt ∧ a2.toInt ≤ 2147483648) : ∀ (d k n : Nat) (μs μ : Mem) (j : Nat), k + d = 9 → d < n → Lt μs j μ → nv μs 139 + j + 10 ≤ 50000 → ok (p_X12_putNumber_b21 n a2 (pwt k) μ) (Lt μs (j + 10)) := by
  intro d
  induction d with
  | zero =>
    intro k n μs μ j hk hn h hb
    obtain ⟨n, rfl⟩ : ∃ m, n = m + 1 := ⟨n - 1, by omega⟩
    rw [p_X12_putNumber_b21_s]
    have hk9 : k = 9 := by omega
    subst hk9
    refine ok_gd (pwt_nz 9 (by omega)) ?_
    have h9 : lg_cmp (a2 / pwt 9) (9 : Int64) ≤ 0 := by
      rw [lg_cmp_le, Int64.le_iff_toInt_le, Int64.toInt_div]
      have e : (pwt 9).toInt = 1000000000 := by decide
      have e9 : (9 : Int64).toInt = 9 := by decide
      rw [e, e9, Int.tdiv_eq_ediv_of_nonneg ha.1]
      have h1 : a2.toInt / 1000000000 ≤ 2 := by omega
      have h2 : 0 ≤ a2.toInt / 1000000000 := by omega
      rw [Int.bmod_def]
      split <;> omega
    rw [if_pos h9]
    exact ok_imp (fun z hz => hz.mono (by omega)) (k_digits a2 9 FUEL μs μ j (by omega) (by show 11 ≤ 10000000000; omega) h (by omega))
  | succ d ih =>
    intro k n μs μ j hk hn h hb
    obtain ⟨n, rfl⟩ : ∃ m, n = m + 1 := ⟨n - 1, by omega⟩
    rw [p_X12_putNumber_b21_s]
    refine ok_gd (pwt_nz k (by omega)) (ok_ite (fun _ => ?_) (fun _ => ok_bv (fun v10 e10 => ?_)))
    · exact ok_imp (fun z hz => hz.mono (by omega)) (k_digits a2 k FUEL μs μ j (by omega) (by show k + 2 ≤ 10000000000; omega) h (by omega))
    · rw [e10, pwt_up k (by omega)]
      exact ih (k + 1) n μs μ j (by omega) (by omega) h hb
theorem k_putNumber {μ : Mem} (hI : IM μ) (a : Int32) (h : nv μ 139 + 11 ≤ 50000) : ok (p_X12_putNumber a μ) (Lt μ 11) := by
  have l1 := Int32.toInt_lt a
  have l2 := Int32.le_toInt a
  have p1 : (1 : Int64) = pwt 0 := by decide
  have b18 : ∀ (v : Int64) (μ1 : Mem) (j : Nat), 0 ≤ v.toInt ∧ v.toInt ≤ 2147483648 → Lt μ j μ1 → j ≤ 1 → ok (p_X12_putNumber_b18 v μ1) (Lt μ 11) := by
    intro v μ1 j hv h1 hj
    rw [p_X12_putNumber_b18_eq, p1]
    exact ok_imp (fun z hz => hz.mono (by omega)) (k_width v hv 9 0 FUEL μ μ1 j (by omega) (by show 9 < 10000000000; omega) h1 (by omega))
  rw [p_X12_putNumber_eq]
  have e0 : (0 : Int64).toInt = 0 := by decide
  refine ok_bv (fun v1 e1 => ok_ite (fun hp => ?_) (fun hp => ?_))
  · rw [lg_cmp_ge, Int64.le_iff_toInt_le, e0] at hp
    refine b18 v1 μ 0 ⟨hp, ?_⟩ (Lt.rf hI) (by omega)
    rw [e1, Int32.toInt_toInt64]; omega
  · rw [lg_cmp_ge, Int64.le_iff_toInt_le, e0] at hp
    refine ls_put (Lt.rf hI) (by omega) (fun q hq => ok_bv (fun v13 e13 => b18 v13 q 1 ?_ hq (by omega)))
    have t1 : v1.toInt = a.toInt := by rw [e1, Int32.toInt_toInt64]
    have : v13.toInt = -a.toInt := by
      rw [e13, Int64.toInt_neg, t1, Int.bmod_def]
      split <;> omega
    omega
theorem ls_num {μs μ : Mem} {k K : Nat} {a : Int32} {g : Mem → Option Mem} (h : Lt μs k μ) (hb : nv μs 139 + k + 11 ≤ 50000) (hg : ∀ q, Lt μs (k + 11) q → ok (g q) (Lt μs K)) : ok (bw (p_X12_putNumber a μ) g) (Lt μs K) := ls h (k_putNumber h.1 a (by have := h.2.2; omega)) hg
theorem k_putOne {μ : Mem} (hI : IM μ) (a b : Int32) (h : nv μ 139 + 12 ≤ 50000) : ok (p_X12_putOne a b μ) (Lt μ 12) := by
  rw [p_X12_putOne_eq]
  have h0 := Lt.rf hI
  refine ok_ite (fun _ => ls_num h0 (by omega) (fun q hq => ok_some (hq.mono (by omega)))) (fun _ => ok_ite (fun _ => ?_) (fun _ => ?_))
  · exact ls_put h0 (by omega) (fun q hq => ls_num hq (by omega) (fun z hz => ok_some (hz.mono (by omega))))
  · exact ls_put h0 (by omega) (fun q hq => ls_num hq (by omega) (fun z hz => ok_some (hz.mono (by omega))))
theorem ls_one {μs μ : Mem} {k K : Nat} {a b : Int32} {g : Mem → Option Mem} (h : Lt μs k μ) (hb : nv μs 139 + k + 12 ≤ 50000) (hg : ∀ q, Lt μs (k + 12) q → ok (g q) (Lt μs K)) : ok (bw (p_X12_putOne a b μ) g) (Lt μs K) := ls h (k_putOne h.1 a b (by have := h.2.2; omega)) hg
theorem ls_opd {μs μ : Mem} {k K : Nat} {a : Int32} {g : Mem → Option Mem} (h : Lt μs k μ) (ha : 0 ≤ a.toInt ∧ a.toInt < 4200) (hb : nv μs 139 + k + 12 ≤ 50000) (hg : ∀ q, Lt μs (k + 12) q → ok (g q) (Lt μs K)) : ok (bw (p_X12_putOperand a μ) g) (Lt μs K) := by
  refine ls h (n := 12) ?_ hg
  rw [p_X12_putOperand_eq]
  have h0 := Lt.rf h.1
  exact ok_gd (inb_iff.mpr (by omega)) (ok_gd (inb_iff.mpr (by omega)) (ls_one h0 (by have := h.2.2; omega) (fun q hq => ok_some (hq.mono (by omega)))))
