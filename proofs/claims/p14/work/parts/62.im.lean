/-! ITEMS THAT ARE NO INSTRUCTIONS YET -/
def It (μ μ1 : Mem) (k : Int) (xs : List Nat) : Prop :=
  nv μ1 87 = nv μ 87 + 1 ∧ nv μ1 88 = nv μ 88 + xs.length ∧ nv μ1 89 = nv μ 89 ∧ nv μ1 93 = nv μ 93 ∧ iv μ1 46 (nv μ 87) = k ∧ iv μ1 51 (nv μ 87) = (nv μ 88 : Int) ∧ iv μ1 52 (nv μ 87) = (xs.length : Int) ∧ (∀ j, j ≠ nv μ 87 → iv μ1 46 j = iv μ 46 j ∧ iv μ1 47 j = iv μ 47 j ∧ iv μ1 48 j = iv μ 48 j ∧ iv μ1 51 j = iv μ 51 j ∧ iv μ1 52 j = iv μ 52 j) ∧ (∀ j, iv μ1 49 j = iv μ 49 j ∧ iv μ1 50 j = iv μ 50 j ∧ iv μ1 59 j = iv μ 59 j ∧ K62 μ μ1 j) ∧ (∀ o, o < nv μ 88 → iv μ1 53 o = iv μ 53 o ∧ iv μ1 54 o = iv μ 54 o) ∧ μ1.1 0 68 = μ.1 0 68 ∧ μ1.1 0 90 = μ.1 0 90 ∧ nv μ1 110 = nv μ 110 ∧ Ops μ1 (nv μ 88) xs ∧ (∀ j, iv μ1 30 j = iv μ 30 j ∧ iv μ1 31 j = iv μ 31 j)
def frIt : List (Nat × Nat × Nat) := [(0, 0, 87), (1, 46, 0), (1, 47, 0), (1, 48, 0), (1, 51, 0), (1, 52, 0)]
theorem t_item {μ : Mem} (hI : IM μ) (h87 : nv μ 87 < 960) {a1 : Int32} : ok (p_X12_item a1 μ) (fun q => q.1.toInt = (nv μ 87 : Int) ∧ IM q.2 ∧ Fr frIt true μ q.2 ∧ It μ q.2 a1.toInt [] ∧ iv q.2 48 (nv μ 87) = 0) := by
  have g87 := rgm_0_87 hI
  have n87 := ti_nat (a := μ.1 0 87) (by omega)
  have e87 : nv μ 87 = (μ.1 0 87).toNatClampNeg := rfl
  have g88 := rgm_0_88 hI
  have n88 := ti_nat (a := μ.1 0 88) (by omega)
  have e88 : nv μ 88 = (μ.1 0 88).toNatClampNeg := rfl
  have e0 : (0 : Int32).toInt = 0 := by decide
  refine ok_mono (ok_pk (k_X12_item a1 μ hI (by omega)) (Q := fun q => q.2 = sF (sF (sF (sF (sF (sF μ 46 (nv μ 87) a1) 47 (nv μ 87) (-1)) 48 (nv μ 87) 0) 51 (nv μ 87) (μ.1 0 88)) 52 (nv μ 87) 0) 0 87 (μ.1 0 87 + 1)) ?_) ?_
  · rw [p_X12_item_eq]
    exact pk_gd fun _ => pk_bv (pk_gd fun _ => pk_bv (pk_gd fun _ => pk_bv (pk_gd fun _ => pk_bv (pk_gd fun _ => pk_bv (pk_bv (pk_some rfl))))))
  rintro ⟨r, μ1⟩ ⟨⟨hI1, hF1, h1, h2⟩, em1⟩
  have hI1 : IM μ1 := hI1
  have hF1 : Fr frIt true μ μ1 := hF1
  have h1 : r.toInt = (μ.1 0 87).toInt := h1
  have em1 : μ1 = sF (sF (sF (sF (sF (sF μ 46 (nv μ 87) a1) 47 (nv μ 87) (-1)) 48 (nv μ 87) 0) 51 (nv μ 87) (μ.1 0 88)) 52 (nv μ 87) 0) 0 87 (μ.1 0 87 + 1) := em1
  have h2 : (μ1.1 0 87).toInt = (μ.1 0 87).toInt + 1 := h2
  have b46 : iv μ1 46 (nv μ 87) = a1.toInt := by rw [em1]; unfold iv; rw [sF_i (by decide), sF_i (by decide), sF_i (by decide), sF_i (by decide), sF_i (by decide), sF_v]
  have b48 : iv μ1 48 (nv μ 87) = 0 := by rw [em1]; unfold iv; rw [sF_i (by decide), sF_i (by decide), sF_i (by decide), sF_v]; exact e0
  have b51 : iv μ1 51 (nv μ 87) = (nv μ 88 : Int) := by
    rw [em1]; unfold iv; rw [sF_i (by decide), sF_i (by decide), sF_v]; omega
  have b52 : iv μ1 52 (nv μ 87) = 0 := by rw [em1]; unfold iv; rw [sF_i (by decide), sF_v]; exact e0
  have oth : ∀ c j, j ≠ nv μ 87 → c ≠ 0 → iv μ1 c j = iv μ c j := by
    intro c j hj hc
    rw [em1]; unfold iv
    rw [sF_i hc, sF_k hj, sF_k hj, sF_k hj, sF_k hj, sF_k hj]
  refine ⟨by show r.toInt = _; omega, hI1, hF1, ⟨tn_of (by show (μ1.1 0 87).toInt = _; omega), by show nv μ1 88 = _; rw [hF1.n (by decide +kernel)]; rfl, hF1.n (by decide +kernel), hF1.n (by decide +kernel), b46, b51, b52, fun j hj => ⟨oth _ j hj (by decide), oth _ j hj (by decide), oth _ j hj (by decide), oth _ j hj (by decide), oth _ j hj (by decide)⟩, fun j => ⟨hF1.a (by decide) j, hF1.a (by decide) j, hF1.a (by decide) j, hF1.a (by decide) j, hF1.a (by decide) j, hF1.a (by decide) j, hF1.v (by decide +kernel)⟩, fun o _ => ⟨hF1.a (by decide) o, hF1.a (by decide) o⟩, hF1.v (by decide +kernel), hF1.v (by decide +kernel), hF1.n (by decide +kernel), trivial, fun j => ⟨hF1.a (by decide) j, hF1.a (by decide) j⟩⟩, b48⟩
/-- one more operand -/
theorem t_operandI {μ μ1 : Mem} (hI : IM μ1) {k : Int} {xs : List Nat} (h : It μ μ1 k xs) (h87 : nv μ 87 < 960) (h88 : nv μ 88 + xs.length < 4200) (hxs : xs.length < 1000) {a1 a2 : Int32} {x : Nat} (e1 : a1.toInt = (nv μ 87 : Int)) (e2 : a2.toInt = (x : Int)) (hx : x < nv μ1 56) : ok (p_X12_operand a1 a2 μ1) (fun q => IM q ∧ Fr frOp true μ1 q ∧ It μ q k (xs ++ [x])) := by
  obtain ⟨i1, i2, i3, i4, i6, i7, i8, i9, i10, i11, i12, i13, i14, i15, i16⟩ := h
  have g88 := rgm_0_88 hI
  have n88 := ti_nat (a := μ1.1 0 88) (by omega)
  have e88 : nv μ1 88 = (μ1.1 0 88).toNatClampNeg := rfl
  have ehp := hp_nv hI
  have g56 := rgm_0_56 hI
  have one : (1 : Int32).toInt = 1 := by decide
  have ea : a1.toNatClampNeg = nv μ 87 := tn_of e1
  have ex : a2.toNatClampNeg = x := tn_of e2
  refine ok_mono (ok_pk (k_X12_operand a1 a2 μ1 hI (by omega)) (Q := fun q => q = sF (sF (sF (sF μ1 53 (nv μ1 88) (μ1.1 30 x)) 54 (nv μ1 88) (μ1.1 31 x)) 0 88 (μ1.1 0 88 + 1)) 52 (nv μ 87) (μ1.1 52 (nv μ 87) + 1)) ?_) ?_
  · rw [p_X12_operand_eq, ea, ex]
    exact pk_gd fun _ => pk_gd fun _ => pk_bv (pk_gd fun _ => pk_gd fun _ => pk_bv (pk_bv (pk_gd fun _ => pk_gd fun _ => pk_bv (pk_some rfl))))
  rintro q ⟨⟨c1, c2, c3⟩, e⟩
  have c2 : Fr frOp true μ1 q := c2
  have q53 : iv q 53 (nv μ1 88) = iv μ1 30 x := by rw [e]; unfold iv; rw [sF_i (by decide), sF_i (by decide), sF_i (by decide), sF_v]
  have q54 : iv q 54 (nv μ1 88) = iv μ1 31 x := by rw [e]; unfold iv; rw [sF_i (by decide), sF_i (by decide), sF_v]
  have o53 : ∀ o, o ≠ nv μ1 88 → iv q 53 o = iv μ1 53 o ∧ iv q 54 o = iv μ1 54 o := by
    intro o ho
    rw [e]; unfold iv
    refine ⟨?_, ?_⟩
    · rw [sF_i (by decide), sF_i (by decide), sF_i (by decide), sF_k ho]
    · rw [sF_i (by decide), sF_i (by decide), sF_k ho, sF_i (by decide)]
  have v52 : iv q 52 (nv μ 87) = (xs.length : Int) + 1 := by
    have h8 : (μ1.1 52 (nv μ 87)).toInt = (xs.length : Int) := i8
    rw [e]; unfold iv; rw [sF_v, ti_add (by omega) (by omega), one, h8]
  have o52 : ∀ j, j ≠ nv μ 87 → iv q 52 j = iv μ1 52 j := by
    intro j hj
    rw [e]; unfold iv; rw [sF_k hj, sF_i (by decide), sF_i (by decide), sF_i (by decide)]
  have hp : ∀ j, iv q 30 j = iv μ1 30 j ∧ iv q 31 j = iv μ1 31 j := fun j => ⟨c2.a (by decide) j, c2.a (by decide) j⟩
  have n88q : nv q 88 = nv μ1 88 + 1 := tn_of (by rw [c3]; omega)
  refine ⟨c1, c2, by rw [c2.n (by decide +kernel)]; exact i1, by rw [n88q, i2]; simp; omega, by rw [c2.n (by decide +kernel)]; exact i3, by rw [c2.n (by decide +kernel)]; exact i4, by rw [c2.a (by decide)]; exact i6, by rw [c2.a (by decide)]; exact i7, by rw [v52]; simp, fun j hj => ⟨by rw [c2.a (by decide)]; exact (i9 j hj).1, by rw [c2.a (by decide)]; exact (i9 j hj).2.1, by rw [c2.a (by decide)]; exact (i9 j hj).2.2.1, by rw [c2.a (by decide)]; exact (i9 j hj).2.2.2.1, by rw [o52 j hj]; exact (i9 j hj).2.2.2.2⟩, fun j => ⟨by rw [c2.a (by decide)]; exact (i10 j).1, by rw [c2.a (by decide)]; exact (i10 j).2.1, by rw [c2.a (by decide)]; exact (i10 j).2.2.1, by rw [c2.a (by decide)]; exact (i10 j).2.2.2.1, by rw [c2.a (by decide)]; exact (i10 j).2.2.2.2.1, by rw [c2.a (by decide)]; exact (i10 j).2.2.2.2.2.1, by rw [c2.v (by decide +kernel)]; exact (i10 j).2.2.2.2.2.2⟩, fun o ho => ⟨by rw [(o53 o (by omega)).1]; exact (i11 o ho).1, by rw [(o53 o (by omega)).2]; exact (i11 o ho).2⟩, by rw [c2.v (by decide +kernel)]; exact i12, by rw [c2.v (by decide +kernel)]; exact i13, by rw [c2.n (by decide +kernel)]; exact i14, ?_, fun j => ⟨by rw [(hp j).1]; exact (i16 j).1, by rw [(hp j).2]; exact (i16 j).2⟩⟩
  refine Ops.snoc (Ops.cong hp i15 (fun j h1 h2 => o53 j (by omega))) ?_ ?_
  · rw [← i2, q53, (hp x).1]
  · rw [← i2, q54, (hp x).2]
/-- what is said of A: it may be laid any time -/
theorem t_itemAI {μ μ1 : Mem} (hI : IM μ1) {k : Int} {xs : List Nat} (h : It μ μ1 k xs) (a : Int32) : IM (sF μ1 48 (nv μ 87) a) ∧ Fr [(1, 48, 0)] true μ1 (sF μ1 48 (nv μ 87) a) ∧ It μ (sF μ1 48 (nv μ 87) a) k xs ∧ iv (sF μ1 48 (nv μ 87) a) 48 (nv μ 87) = a.toInt := by
  obtain ⟨i1, i2, i3, i4, i6, i7, i8, i9, i10, i11, i12, i13, i14, i15, i16⟩ := h
  have c2 : Fr [(1, 48, 0)] true μ1 (sF μ1 48 (nv μ 87) a) := Fr.puta Fr.rf (by decide +kernel)
  have o48 : ∀ j, j ≠ nv μ 87 → iv (sF μ1 48 (nv μ 87) a) 48 j = iv μ1 48 j := fun j hj => by unfold iv; rw [sF_k hj]
  refine ⟨IM_F hI (rtma_48 _ _), c2, ⟨i1, i2, i3, i4, i6, i7, i8, fun j hj => ⟨(i9 j hj).1, (i9 j hj).2.1, by rw [o48 j hj]; exact (i9 j hj).2.2.1, (i9 j hj).2.2.2⟩, i10, i11, i12, i13, i14, ?_, i16⟩, by unfold iv; rw [sF_v]⟩
  exact Ops.cong (μ := μ1) (μ' := sF μ1 48 (nv μ 87) a) (fun j => ⟨rfl, rfl⟩) i15 (fun j _ _ => ⟨rfl, rfl⟩)
/-- an operand that was laid is one of V -/
theorem ops_opdI {μ μ1 : Mem} {k : Int} {xs : List Nat} (h : It μ μ1 k xs) {V : Nat → Prop} (hH : HI μ1) (hx : ∀ x, x ∈ xs → Vl μ1 V x ∧ iv μ1 30 x ≠ 2) : ∀ j, j < xs.length → Opd μ1 (nv μ1 88) V (nv μ 88 + j) := by
  intro j hj
  obtain ⟨i1, i2, i3, i4, i6, i7, i8, i9, i10, i11, i12, i13, i14, i15, i16⟩ := h
  obtain ⟨x, x1, x2, x3⟩ := i15.get j hj
  refine ⟨by omega, ?_⟩
  rw [x2, x3]
  obtain ⟨hv, h2⟩ := hx x x1
  obtain ⟨_, ⟨h0, _⟩ | ⟨h0, _⟩⟩ := hH x hv.lt
  · obtain ⟨C, c1, c2⟩ := hv
    rcases h0 with h0 | h0 | h0
    · exact Or.inl (Or.inl h0)
    · exact Or.inl (Or.inr h0)
    · exact Or.inr ⟨h0, (c2 x c1).2.1 h0⟩
  · exact absurd h0 h2
theorem em_opI {μ μ1 : Mem} {L : List Act} {cs : List Nat} {R : List Fm} (hV : Vw μ1 L cs R) {k : Int} {xs : List Nat} (hi : It μ μ1 k xs) (h87 : nv μ 87 < 960) (h88 : nv μ 88 ≤ 2640) (hxs : xs.length < 1000) {r a : Int32} {x : Nat} (h1 : r.toInt = (nv μ 87 : Int)) (h2 : a.toInt = (x : Int)) (hx : x < nv μ1 56) : ok (p_X12_operand r a μ1) (fun q => IM q ∧ Fr frOp true μ1 q ∧ Vw q L cs R ∧ It μ q k (xs ++ [x])) := by
  refine ok_mono (t_operandI hV.1 hi h87 (by omega) hxs h1 h2 hx) ?_
  rintro q ⟨c1, c2, c3⟩
  exact ⟨c1, c2, hV.fr c1 c2 (by decide +kernel), c3⟩
