/-! A STEP OF A RUN OF WHAT IS LEFT -/
def Ry (μ0 : Mem) (T : Nat) (q : Int32 × Mem) : Prop :=
  IM q.2 ∧ Fr frRR true μ0 q.2 ∧ 0 ≤ (q.2.1 0 73).toInt ∧ (q.2.1 0 73).toInt ≤ 500000 ∧ (q.2.1 0 68 ≠ 0 ∨ ∃ (w : Nat) (c : Int) (i : Nat) (V : Nat → Prop) (G : List Rf) (T2 : Nat), q.1.toInt = (i : Int) ∧ Rx μ0 q.2 w c i V G T2 ∧ T2 < T)
def frIS : List (Nat × Nat × Nat) := frIV ++ [(1, 76, 0), (0, 0, 73), (1, 43, 0), (1, 44, 0)]
/-- the same frame, an item further on -/
theorem rx_step {μ0 μ q : Mem} {w i j : Nat} {c : Int} {V V2 : Nat → Prop} {G : List Rf} {T : Nat} (hI0 : IM μ0) (h : Rx μ0 μ w c i V G T) (hi : i < nv μ0 87) (hij : i < j) (hj : j ≤ nv μ0 87) (hI : IM q) (hH : HI q) (g : Gr μ q) (f : Fr frIS true μ q) (h68 : q.1 0 68 = 0) (hR : Rg q (320 * G.length) V2) (hW : Rw μ0 w V2 j) (h76 : ∀ k, k < 320 * G.length → iv q 76 k = iv μ 76 k) (h56 : nv q 56 ≤ nv μ 56 + cn (iv μ0 46 i)) (h73 : 0 ≤ (q.1 0 73).toInt ∧ (q.1 0 73).toInt ≤ (μ.1 0 73).toInt + 1) {r : Int32} (hr : r.toInt = (j : Int)) : Ry μ0 T (r, q) := by
  obtain ⟨r1, r2, r3, r4, r5, r6, r7, r8, r9, r10, r11, r12, r13, r14, r15, r16, r17, r18⟩ := h
  have g87 := rgm_0_87 hI0
  have m87 := ti_nat (a := μ0.1 0 87) (by omega)
  have en87 : nv μ0 87 = (μ0.1 0 87).toNatClampNeg := rfl
  have hs := Sn_step hi hij hj
  have n75 : nv q 75 = nv μ 75 := f.n (by decide +kernel)
  have e1 : Gn μ0 ((w, c, i, V) :: G) = Sn μ0 i + 1 + Gn μ0 G := rfl
  have e2 : Gn μ0 ((w, c, j, V2) :: G) = Sn μ0 j + 1 + Gn μ0 G := rfl
  have e3 : Gi ((w, c, i, V) :: G) = (961 - i) + Gi G := rfl
  have e4 : Gi ((w, c, j, V2) :: G) = (961 - j) + Gi G := rfl
  have F : Fr frRR true μ0 q := r3.trans (Fr.mono f (by decide +kernel) (fun h => h))
  refine ⟨hI, F, h73.1, by show (q.1 0 73).toInt ≤ _; omega, Or.inr ⟨w, c, j, V2, G, Gi ((w, c, j, V2) :: G) + 962 * (100 - nv q 75), hr, ⟨hI, hH, F, h68, by show (q.1 0 76).toInt = _; rw [f.v (by decide +kernel)]; exact r5, r6, by show (q.1 0 126).toInt = _; rw [f.v (by decide +kernel)]; exact r7, by show iv q 78 _ = _; rw [f.a (by decide +kernel)]; exact r8, by show iv q 77 _ = _; rw [f.a (by decide +kernel)]; exact r9, hW, hR, r12.cong g (fun k _ => ⟨f.a (by decide +kernel) k, f.a (by decide +kernel) k⟩) h76, by show 0 ≤ (q.1 0 75).toInt; rw [f.v (by decide +kernel)]; exact r13, by show (q.1 0 75).toInt ≤ _; rw [f.v (by decide +kernel)]; exact r14, ?_, rfl, h73.1, ?_⟩, ?_⟩⟩
  · show nv q 56 + Gn μ0 ((w, c, j, V2) :: G) ≤ 30 + 910 * nv q 75
    omega
  · show (q.1 0 73).toInt + _ ≤ _
    omega
  · show Gi ((w, c, j, V2) :: G) + 962 * (100 - nv q 75) < T
    omega
/-- room for what an item makes -/
theorem Rx.room {μ0 μ : Mem} {w i : Nat} {c : Int} {V : Nat → Prop} {G : List Rf} {T : Nat} (h : Rx μ0 μ w c i V G T) : nv μ 56 ≤ 91030 := by
  obtain ⟨r1, r2, r3, r4, r5, r6, r7, r8, r9, r10, r11, r12, r13, r14, r15, r16, r17, r18⟩ := h
  have m75 := ti_nat (a := μ.1 0 75) (by omega)
  have en75 : nv μ 75 = (μ.1 0 75).toNatClampNeg := rfl
  omega
