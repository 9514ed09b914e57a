/-! A RUN OF WHAT IS LEFT: values -/
abbrev Gz (μ : Mem) (x : Nat) : Prop := Gd μ (fun _ => False) x
/-- registers of V are set -/
def Rg (μ : Mem) (F : Nat) (V : Nat → Prop) : Prop := ∀ u, V u → u < 320 ∧ ∃ x : Nat, iv μ 76 (F + u) = (x : Int) ∧ Gz μ x
theorem Rg.fr {L : List (Nat × Nat × Nat)} {bb : Bool} {μ μ' : Mem} {F : Nat} {V : Nat → Prop} (h : Rg μ F V) (f : Fr L bb μ μ') (g : Gr μ μ') (n : na L 76 = true) : Rg μ' F V := by
  intro u hu
  obtain ⟨h1, x, h2, h3⟩ := h u hu
  exact ⟨h1, x, by rw [f.a n]; exact h2, h3.gr g⟩
def Vz (μ : Mem) (q : Int32 × Mem) : Prop := ∃ x : Nat, q.1.toInt = (x : Int) ∧ IM q.2 ∧ HI q.2 ∧ Gr μ q.2 ∧ Fr frN true μ q.2 ∧ nv q.2 56 ≤ nv μ 56 + 1 ∧ Gz q.2 x
theorem k_valueOf {μ : Mem} (hI : IM μ) (hH : HI μ) {V : Nat → Prop} {o F : Nat} {a1 : Int32} (ha : a1.toInt = (o : Int)) (ho : Opd μ (nv μ 88) V o) (hF : (μ.1 0 126).toInt = (F : Int)) (hF2 : F ≤ 9600) (hR : Rg μ F V) (hh : nv μ 56 < 100000) : ok (p_X12_valueOf a1 μ) (Vz μ) := by
  have e3 : (3 : Int32).toInt = 3 := by decide
  have g88 := rgm_0_88 hI
  have m88 := ti_nat (a := μ.1 0 88) (by omega)
  have en88 : nv μ 88 = (μ.1 0 88).toNatClampNeg := rfl
  obtain ⟨o1, o2⟩ := ho
  have n1 : a1.toNatClampNeg = o := tn_of ha
  have b1 : inb a1 4200 = true := inb_iff.mpr (by omega)
  rw [p_X12_valueOf_eq, n1]
  refine ok_gd b1 (ok_ite (fun h3 => ?_) (fun h3 => ?_))
  · have h3' : iv μ 53 o = 3 := by unfold iv; rw [h3]; exact e3
    rcases o2 with o2 | ⟨_, o3, o4⟩
    · omega
    obtain ⟨hu, x, x1, x2⟩ := hR _ o4
    have hu54 : (μ.1 54 o).toInt = ((iv μ 54 o).toNat : Int) := by show iv μ 54 o = _; omega
    have tt : (μ.1 0 126 + μ.1 54 o).toInt = ((F + (iv μ 54 o).toNat : Nat) : Int) := by rw [ti_add (by omega) (by omega), hF, hu54]; omega
    rw [tn_of tt]
    exact ok_gd b1 (ok_gd (inb_iff.mpr (by omega)) (ok_some ⟨x, x1, hI, hH, Gr.rf, Fr.rf, by show nv μ 56 ≤ nv μ 56 + 1; omega, x2⟩))
  · have h3' : iv μ 53 o ≠ 3 := fun h => h3 (ti_eq.mpr (by rw [e3]; exact h))
    have h01 : (μ.1 53 o).toInt = 0 ∨ (μ.1 53 o).toInt = 1 := by
      rcases o2 with o2 | ⟨o2, _⟩
      · exact o2
      · exact absurd o2 h3'
    refine ok_gd b1 (ok_gd b1 (ok_bd (t_node hI hH (s := μ.1 53 o) (b := μ.1 54 o) (by omega) hh) ?_))
    rintro r μ9 ⟨hr, hI9, hF9, hH9, hG9, n9, s9, b9, w9⟩
    have n9 : nv μ9 56 = nv μ 56 + 1 := n9
    have s9 : iv μ9 30 (nv μ 56) = (μ.1 53 o).toInt := s9
    exact ok_some ⟨nv μ 56, hr, hI9, hH9, hG9, hF9, by show nv μ9 56 ≤ _; omega, Gd.one (by omega) (by omega) w9⟩
def frIV : List (Nat × Nat × Nat) := frN ++ [(0, 0, 0), (0, 0, 1), (0, 0, 68), (1, 42, 0)]
/-- the value of an item -/
def Vy (μ : Mem) (q : Int32 × Mem) : Prop := ∃ x : Nat, q.1.toInt = (x : Int) ∧ IM q.2 ∧ HI q.2 ∧ Gr μ q.2 ∧ Fr frIV true μ q.2 ∧ nv q.2 56 ≤ nv μ 56 + 3 ∧ x < nv q.2 56 ∧ (q.2.1 0 68 ≠ 0 ∨ (q.2.1 0 68 = μ.1 0 68 ∧ Gz q.2 x))
theorem vy_node {μ μ1 : Mem} (hI : IM μ1) (hH : HI μ1) (g : Gr μ μ1) (f : Fr frIV true μ μ1) (h68 : μ1.1 0 68 = μ.1 0 68) (hh : nv μ1 56 ≤ nv μ 56 + 2) (hl : nv μ1 56 < 100000) {s b : Int32} (hs : s.toInt = 0 ∨ s.toInt = 1) : ok (bd (p_X12_node s b μ1) (fun r41 μ40 => some (r41, μ40))) (Vy μ) := by
  refine ok_bd (t_node hI hH (s := s) (b := b) (by omega) hl) ?_
  rintro r μ9 ⟨hr, hI9, hF9, hH9, hG9, n9, s9, b9, w9⟩
  have n9 : nv μ9 56 = nv μ1 56 + 1 := n9
  have s9 : iv μ9 30 (nv μ1 56) = s.toInt := s9
  have hF9 : Fr frN true μ1 μ9 := hF9
  exact ok_some ⟨nv μ1 56, hr, hI9, hH9, g.tr hG9, f.trans (Fr.mono hF9 (by decide +kernel) (fun h => h)), by show nv μ9 56 ≤ _; omega, by show _ < nv μ9 56; omega, Or.inr ⟨by show μ9.1 0 68 = _; rw [hF9.v (by decide +kernel)]; exact h68, Gd.one (by omega) (by omega) w9⟩⟩
theorem vy_given {μ μ1 : Mem} (hI : IM μ1) (hH : HI μ1) (g : Gr μ μ1) (f : Fr frIV true μ μ1) (h68 : μ1.1 0 68 = μ.1 0 68) (hh : nv μ1 56 ≤ nv μ 56 + 2) (hl : nv μ1 56 < 100000) (hs : (μ1.1 0 0).toInt = 0 ∨ (μ1.1 0 0).toInt = 1) : ok (bd (p_X12_given μ1) (fun r μ2 => some (r, μ2))) (Vy μ) := by
  rw [p_X12_given_eq]
  refine ok_bd (P := Vy μ) ?_ ?_
  · exact vy_node hI hH g f h68 hh hl hs
  · intro r μ2 h
    exact ok_some h
