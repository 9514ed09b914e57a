/-! A RUN OF WHAT IS LEFT: its state. What is said of items is said of the memory at the run's begin (μ0): the run does not touch them -/
abbrev Rf := Nat × Int × Nat × (Nat → Prop)
def frRR : List (Nat × Nat × Nat) := frIV ++ [(1, 76, 0), (0, 0, 126), (0, 0, 75), (0, 0, 76), (0, 0, 77), (1, 77, 0), (1, 78, 0), (0, 0, 73), (1, 43, 0), (1, 44, 0)]
/-- where variant w ends, and that the rest can be run -/
def Rw (μ0 : Mem) (w : Nat) (V : Nat → Prop) (i : Nat) : Prop := w < nv μ0 110 ∧ ∃ E en : Nat, iv μ0 63 w = (E : Int) ∧ iv μ0 64 w = (en : Int) ∧ E ≤ nv μ0 87 ∧ Rn μ0 (nv μ0 88) (nv μ0 110) E en V i
/-- frames that wait -/
def Wt (μ0 μ : Mem) : List Rf → Int → Prop
  | [], c => c = -1
  | (w, c0, i, V) :: G, c => c = (i : Int) ∧ (∃ r : Nat, iv μ0 46 i ≠ 7 ∧ iv μ0 47 i = (r : Int) ∧ r < 320 ∧ Rw μ0 w (fun u => V u ∨ r = u) (i + 1)) ∧ i < nv μ0 87 ∧ iv μ 78 G.length = (w : Int) ∧ iv μ 77 G.length = c0 ∧ Rg μ (320 * G.length) V ∧ Wt μ0 μ G c0
theorem Wt.cong {μ0 μ μ' : Mem} (g : Gr μ μ') : ∀ {G : List Rf} {c : Int}, Wt μ0 μ G c → (∀ j, j < G.length → iv μ' 77 j = iv μ 77 j ∧ iv μ' 78 j = iv μ 78 j) → (∀ j, j < 320 * G.length → iv μ' 76 j = iv μ 76 j) → Wt μ0 μ' G c := by
  intro G
  induction G with
  | nil => intro c h _ _; exact h
  | cons t G ih =>
    obtain ⟨w, c0, i, V⟩ := t
    intro c h h1 h2
    obtain ⟨a1, a2, a3, a4, a5, a6, a7⟩ := h
    simp only [List.length_cons] at h1 h2
    obtain ⟨k1, k2⟩ := h1 G.length (by omega)
    refine ⟨a1, a2, a3, by rw [k2]; exact a4, by rw [k1]; exact a5, fun u hu => ?_, ih a7 (fun j hj => h1 j (by omega)) (fun j hj => h2 j (by omega))⟩
    obtain ⟨b1, x, b2, b3⟩ := a6 u hu
    exact ⟨b1, x, by rw [h2 _ (by omega)]; exact b2, b3.gr g⟩
/-- nodes that an item makes at most (a call's are counted with what is called) -/
def cn (k : Int) : Nat := if k = 11 then 0 else if k = 13 then 1 else if k = 14 then 1 else if k = 6 then 1 else 3
theorem cn_ad : Ad cn 1 3 := by
  refine ⟨rfl, rfl, by decide, fun k h1 h2 h3 => ?_⟩
  unfold cn
  rw [if_neg h2, if_neg h3, if_neg h1]
  split <;> omega
def Sn (μ0 : Mem) (i : Nat) : Nat := Su (fun j => cn (iv μ0 46 j)) (nv μ0 87) - Su (fun j => cn (iv μ0 46 j)) i
theorem Sn_le {μ0 : Mem} (hI : IM μ0) {k : Nat} (h : SV μ0 k) (i : Nat) : Sn μ0 i ≤ 900 := by
  have h1 := h.2.1 cn 1 3 cn_ad
  have g := rgm_0_89 hI
  have n89 := ti_nat (a := μ0.1 0 89) (by omega)
  have e89 : nv μ0 89 = (μ0.1 0 89).toNatClampNeg := rfl
  unfold Sn
  simp only [List.length_nil, pend] at h1
  omega
/-- an item further on: fewer nodes to come -/
theorem Sn_step {μ0 : Mem} {i j : Nat} (hi : i < nv μ0 87) (hij : i < j) (hj : j ≤ nv μ0 87) : Sn μ0 j + cn (iv μ0 46 i) ≤ Sn μ0 i := by
  have h1 := Su.le (fun j => cn (iv μ0 46 j)) (i + 1) j (by omega)
  have h2 := Su.le (fun j => cn (iv μ0 46 j)) j (nv μ0 87) hj
  have h3 : Su (fun j => cn (iv μ0 46 j)) (i + 1) = Su (fun j => cn (iv μ0 46 j)) i + cn (iv μ0 46 i) := rfl
  unfold Sn
  omega
def Gn (μ0 : Mem) : List Rf → Nat
  | [] => 0
  | t :: G => Sn μ0 t.2.2.1 + 1 + Gn μ0 G
def Gi : List Rf → Nat
  | [] => 0
  | t :: G => (961 - t.2.2.1) + Gi G
/-- between two items; T: what is left to be done -/
def Rx (μ0 μ : Mem) (w : Nat) (c : Int) (i : Nat) (V : Nat → Prop) (G : List Rf) (T : Nat) : Prop :=
  IM μ ∧ HI μ ∧ Fr frRR true μ0 μ ∧ μ.1 0 68 = 0 ∧ (μ.1 0 76).toInt = (G.length : Int) + 1 ∧ G.length + 1 ≤ 30 ∧ (μ.1 0 126).toInt = ((320 * G.length : Nat) : Int) ∧ iv μ 78 G.length = (w : Int) ∧ iv μ 77 G.length = c ∧ Rw μ0 w V i ∧ Rg μ (320 * G.length) V ∧ Wt μ0 μ G c ∧ 0 ≤ (μ.1 0 75).toInt ∧ (μ.1 0 75).toInt ≤ 100 ∧ nv μ 56 + Gn μ0 ((w, c, i, V) :: G) ≤ 30 + 910 * nv μ 75 ∧ T = Gi ((w, c, i, V) :: G) + 962 * (100 - nv μ 75) ∧ 0 ≤ (μ.1 0 73).toInt ∧ (μ.1 0 73).toInt + (T : Int) ≤ 500000
