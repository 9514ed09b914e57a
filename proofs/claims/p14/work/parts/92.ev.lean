/-! A CALL -/
theorem k_enterVariant {μ : Mem} (hI : IM μ) {d : Nat} (hd : (μ.1 0 76).toInt = (d : Int) + 1) (hd2 : d < 31) (a1 a2 : Int32) : ok (p_X12_enterVariant a1 a2 μ) (fun q => IM q ∧ Fr [(1, 77, 0), (1, 78, 0)] true μ q ∧ iv q 77 d = a2.toInt ∧ iv q 78 d = a1.toInt ∧ ∀ j, j ≠ d → iv q 77 j = iv μ 77 j ∧ iv q 78 j = iv μ 78 j) := by
  have e1 : (1 : Int32).toInt = 1 := by decide
  have td : (μ.1 0 76 - 1).toInt = (d : Int) := by rw [ti_sub (by omega) (by omega), e1]; omega
  have nd : (μ.1 0 76 - 1).toNatClampNeg = d := tn_of td
  rw [p_X12_enterVariant_eq, nd]
  refine ok_gd (inb_iff.mpr (by omega)) (ok_bv (fun μ1 m1 => ?_))
  have x76 : μ1.1 0 76 = μ.1 0 76 := by rw [m1, sF_i (by decide)]
  rw [x76, nd]
  refine ok_gd (inb_iff.mpr (by omega)) (ok_bv (fun μ2 m2 => ok_some ?_))
  have f1 : Fr [(1, 77, 0), (1, 78, 0)] true μ μ1 := by rw [m1]; exact Fr.puta Fr.rf (by decide +kernel)
  have f2 : Fr [(1, 77, 0), (1, 78, 0)] true μ μ2 := by rw [m2]; exact Fr.puta f1 (by decide +kernel)
  refine ⟨?_, f2, ?_, ?_, fun j hj => ⟨?_, ?_⟩⟩
  · rw [m2]; exact IM_F (by rw [m1]; exact IM_F hI (rtma_77 _ _)) (rtma_78 _ _)
  · unfold iv; rw [m2, sF_i (by decide), m1, sF_v]
  · unfold iv; rw [m2, sF_v]
  · unfold iv; rw [m2, sF_i (by decide), m1, sF_k hj]
  · unfold iv; rw [m2, sF_k hj, m1, sF_i (by decide)]
