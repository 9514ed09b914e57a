/-! A CALL, ITS ARGUMENTS ARE LAID -/
def frCA : List (Nat × Nat × Nat) := frN ++ [(1, 76, 0), (0, 0, 68), (0, 0, 75), (0, 0, 76), (0, 0, 77)]
/-- k arguments are laid into the registers of the next frame -/
def Ca (μ μ2 : Mem) (F k : Nat) : Prop := IM μ2 ∧ HI μ2 ∧ Gr μ μ2 ∧ Fr frCA true μ μ2 ∧ (∀ j, j < F + 320 → iv μ2 76 j = iv μ 76 j) ∧ (∀ u, u < k → ∃ x : Nat, iv μ2 76 (F + 320 + u) = (x : Int) ∧ Gz μ2 x) ∧ nv μ2 56 ≤ nv μ 56 + k
theorem ca_step {μ μ2 : Mem} {F k o : Nat} {V : Nat → Prop} (h : Ca μ μ2 F k) (hF : (μ.1 0 126).toInt = (F : Int)) (hF2 : F ≤ 9280) (hR : Rg μ F V) (hO : Opd μ (nv μ 88) V (o + k)) (hk : k < 8) (hh : nv μ 56 ≤ 91030) {a b : Int32} (ha : a.toInt = ((o + k : Nat) : Int)) (hb : b.toInt = ((F + 320 + k : Nat) : Int)) {f : Mem → Option (Int32 × Mem)} {Q : Int32 × Mem → Prop} (hf : ∀ μ10, Ca μ μ10 F (k + 1) → μ10.1 0 68 = μ2.1 0 68 → μ10.1 0 75 = μ2.1 0 75 → μ10.1 0 76 = μ2.1 0 76 → ok (f μ10) Q) : ok (bd (p_X12_valueOf a μ2) (fun r9 μ8 => gd (inb b 10000) (bv (sF μ8 76 b.toNatClampNeg r9) f))) Q := by
  obtain ⟨c1, c2, c3, c4, c5, c6, c7⟩ := h
  have hR2 : Rg μ2 F V := by
    intro u hu
    obtain ⟨h1, x, h2, h3⟩ := hR u hu
    exact ⟨h1, x, by rw [c5 _ (by omega)]; exact h2, h3.gr c3⟩
  refine ok_bd (k_valueOf c1 c2 ha (hO.gr c4 (by decide +kernel)) (by rw [c4.v (by decide +kernel)]; exact hF) (by omega) hR2 (by omega)) ?_
  rintro r9 μ8 ⟨x, x1, x2, x3, x4, x5, x6, x7⟩
  have x1 : r9.toInt = (x : Int) := x1
  have x2 : IM μ8 := x2
  have x3 : HI μ8 := x3
  have x4 : Gr μ2 μ8 := x4
  have x5 : Fr frN true μ2 μ8 := x5
  have x6 : nv μ8 56 ≤ nv μ2 56 + 1 := x6
  have x7 : Gz μ8 x := x7
  have lx := x7.1.lt
  rw [tn_of hb]
  refine ok_gd (inb_iff.mpr (by omega)) (ok_bv (fun μ10 em => ?_))
  have f10 : Fr [(1, 76, 0)] true μ8 μ10 := by rw [em]; exact Fr.puta Fr.rf (by decide +kernel)
  have G10 := f10.gr (by decide +kernel)
  have e56 : nv μ10 56 = nv μ8 56 := (f10.heq (by decide +kernel)).1
  have o76 : ∀ j, j ≠ F + 320 + k → iv μ10 76 j = iv μ2 76 j := by
    intro j hj
    have : iv μ8 76 j = iv μ2 76 j := x5.a (by decide +kernel) j
    rw [← this, em]; unfold iv; rw [sF_k hj]
  refine hf μ10 ⟨by rw [em]; exact IM_F x2 (rpm_76 (by rw [x1]; omega)), x3.fr f10 (by decide +kernel), (c3.tr x4).tr G10, (c4.trans (Fr.mono x5 (by decide +kernel) (fun h => h))).trans (Fr.mono f10 (by decide +kernel) (fun h => h)), fun j hj => by rw [o76 j (by omega)]; exact c5 j hj, fun u hu => ?_, by omega⟩ ?_ ?_ ?_
  · by_cases e : u = k
    · refine ⟨x, ?_, x7.gr G10⟩
      rw [e, em]; unfold iv; rw [sF_v]; exact x1
    · obtain ⟨y, y1, y2⟩ := c6 u (by omega)
      exact ⟨y, by rw [o76 _ (by omega)]; exact y1, (y2.gr x4).gr G10⟩
  · rw [f10.v (by decide +kernel), x5.v (by decide +kernel)]
  · rw [f10.v (by decide +kernel), x5.v (by decide +kernel)]
  · rw [f10.v (by decide +kernel), x5.v (by decide +kernel)]
