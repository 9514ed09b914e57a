/-! REGISTERS -/
theorem k_hold {μ : Mem} (hI : IM μ) (hH : HI μ) {V : Nat → Prop} {i F r x : Nat} {a1 a2 : Int32} (ha : a1.toInt = (i : Int)) (hi : i < 960) (h47 : iv μ 47 i = (r : Int)) (hr : r < 320) (hF : (μ.1 0 126).toInt = (F : Int)) (hF2 : F ≤ 9600) (ha2 : a2.toInt = (x : Int)) (hx : Gz μ x) (hR : Rg μ F V) : ok (p_X12_hold a1 a2 μ) (fun q => IM q ∧ HI q ∧ Gr μ q ∧ Fr [(1, 76, 0)] true μ q ∧ Rg q F (fun u => V u ∨ r = u) ∧ ∀ j, j < F → iv q 76 j = iv μ 76 j) := by
  have n1 : a1.toNatClampNeg = i := tn_of ha
  have b1 : inb a1 960 = true := inb_iff.mpr (by omega)
  have h47' : (μ.1 47 i).toInt = (r : Int) := h47
  have tt : (μ.1 0 126 + μ.1 47 i).toInt = ((F + r : Nat) : Int) := by rw [ti_add (by omega) (by omega), hF, h47']; omega
  rw [p_X12_hold_eq, n1, tn_of tt]
  refine ok_gd b1 (ok_gd (inb_iff.mpr (by omega)) (ok_bv (fun μ1 em => ok_some ?_)))
  have lx := hx.1.lt
  have ehp := hp_nv hI
  have g56 := rgm_0_56 hI
  have f1 : Fr [(1, 76, 0)] true μ μ1 := by rw [em]; exact Fr.puta Fr.rf (by decide +kernel)
  have G1 : Gr μ μ1 := f1.gr (by decide +kernel)
  refine ⟨by rw [em]; exact IM_F hI (rpm_76 (by rw [ha2]; omega)), hH.fr f1 (by decide +kernel), G1, f1, fun u hu => ?_, fun j hj => by rw [em]; unfold iv; rw [sF_k (by omega)]⟩
  by_cases e : u = r
  · refine ⟨by omega, x, ?_, hx.gr G1⟩
    rw [e, em]; unfold iv; rw [sF_v]; exact ha2
  · obtain ⟨h1, y, h2, h3⟩ := hR u (hu.resolve_right (fun h => e h.symm))
    refine ⟨h1, y, ?_, h3.gr G1⟩
    rw [em]; unfold iv; rw [sF_k (by omega)]; exact h2
