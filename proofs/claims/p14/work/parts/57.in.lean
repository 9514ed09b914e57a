/-! ONE MORE INSTRUCTION -/
def Su (w : Nat → Nat) : Nat → Nat
  | 0 => 0
  | n + 1 => Su w n + w n
theorem Su.cong {w z : Nat → Nat} : ∀ n, (∀ i, i < n → w i = z i) → Su w n = Su z n := by
  intro n
  induction n with
  | zero => intro _; rfl
  | succ n ih => intro h; unfold Su; rw [ih (fun i hi => h i (by omega)), h n (by omega)]
theorem Su.le (w : Nat → Nat) : ∀ n m, n ≤ m → Su w n ≤ Su w m := by
  intro n m h
  induction m with
  | zero => have : n = 0 := by omega
            subst this; exact Nat.le_refl _
  | succ m ih =>
    by_cases e : n = m + 1
    · rw [e]; exact Nat.le_refl _
    · have := ih (by omega)
      show Su w n ≤ Su w m + w m
      omega
/-- a cost by kinds: cM of a block's end, at most W of an instruction with its blocks' ends -/
def Ad (c : Int → Nat) (cM W : Nat) : Prop := c 13 = cM ∧ c 14 = cM ∧ c 6 + 2 * cM ≤ W ∧ ∀ k : Int, k ≠ 6 → k ≠ 13 → k ≠ 14 → c k ≤ W
def pend (cM : Nat) : List Zc → Nat
  | [] => 0
  | (_, _, false) :: Z => 2 * cM + pend cM Z
  | (_, _, true) :: Z => cM + pend cM Z
def Cst (μ : Mem) (Zs : List Zc) : Prop := ∀ c cM W, Ad c cM W → Su (fun i => c (iv μ 46 i)) (nv μ 87) + pend cM Zs ≤ W * (nv μ 89 + Zs.length)
def oc (k : Int) : Nat := if k = 11 then 8 else if k = 13 then 1 else if k = 14 then 1 else if k = 6 then 1 else 2
theorem oc_ad : Ad oc 1 8 := by
  refine ⟨rfl, rfl, by decide, fun k h1 h2 h3 => ?_⟩
  unfold oc
  rw [if_neg h2, if_neg h3, if_neg h1]
  split <;> omega
theorem one_ad : Ad (fun _ => 1) 1 3 := ⟨rfl, rfl, by decide, fun _ _ _ _ => by show 1 ≤ 3; omega⟩
theorem pend_1 : ∀ Zs : List Zc, Zs.length ≤ pend 1 Zs := by
  intro Zs
  induction Zs with
  | nil => exact Nat.le_refl _
  | cons t Z ih =>
    obtain ⟨i, V, s⟩ := t
    cases s
    · show Z.length + 1 ≤ 2 * 1 + pend 1 Z; omega
    · show Z.length + 1 ≤ 1 + pend 1 Z; omega
theorem Su_one : ∀ n, Su (fun _ => 1) n = n := by
  intro n
  induction n with
  | zero => rfl
  | succ n ih => unfold Su; rw [ih]
/-- where variants begin, end, their end's operand -/
def K62 (μ μ1 : Mem) (j : Nat) : Prop := iv μ1 62 j = iv μ 62 j ∧ iv μ1 63 j = iv μ 63 j ∧ iv μ1 64 j = iv μ 64 j ∧ μ1.1 0 45 = μ.1 0 45
/-- variant w is made, below b -/
def Bv (μ : Mem) (OB NV b w : Nat) : Prop := w < NV ∧ ∃ (b0 e o : Nat) (V : Nat → Prop), iv μ 62 w = (b0 : Int) ∧ iv μ 63 w = (e : Int) ∧ iv μ 64 w = (o : Int) ∧ e ≤ b ∧ Blo μ OB NV (fun u => (u : Int) < iv μ 59 w) b0 V e ∧ Opd μ OB V o
def Bvs (μ : Mem) (OB NV b ve : Nat) (Vb : Nat → Prop) : Prop := (∀ w, w < ve → Bv μ OB NV b w) ∧ ve < NV ∧ (∀ u : Nat, Vb u ↔ (u : Int) < iv μ 59 ve) ∧ iv μ 59 0 ≤ (μ.1 0 45).toInt
theorem Bvs.cong {μ μ' : Mem} {OB OB2 NV NV2 b ve : Nat} {Vb : Nat → Prop} (h : Bvs μ OB NV b ve Vb) (a : Ao μ μ' OB OB2 NV NV2) (g : ∀ j, j < b → Ag μ μ' OB NV j) (k : ∀ w, K62 μ μ' w) : Bvs μ' OB2 NV2 b ve Vb := by
  refine ⟨fun w hw => ?_, Nat.lt_of_lt_of_le h.2.1 a.2.1, fun u => by rw [a.2.2.2 ve h.2.1]; exact h.2.2.1 u, by rw [a.2.2.2 0 (by have := h.2.1; omega), (k 0).2.2.2]; exact h.2.2.2⟩
  obtain ⟨h0, b0, e, o, V, h1, h2, h3, h4, h5, h6⟩ := h.1 w hw
  refine ⟨Nat.lt_of_lt_of_le h0 a.2.1, b0, e, o, V, by rw [(k w).1]; exact h1, by rw [(k w).2.1]; exact h2, by rw [(k w).2.2.1]; exact h3, h4, ?_, h6.cong a⟩
  rw [a.2.2.2 w h0]
  exact h5.cong a (fun j _ hj => g j (by omega))
/-- the thought: instructions so far -/
def Th (b : Nat) (Vb : Nat → Prop) (ve : Nat) (μ : Mem) (Zs : List Zc) (V : Nat → Prop) : Prop :=
  Zq μ (nv μ 88) (nv μ 110) b Vb Zs V (nv μ 87) ∧ (∀ u, V u → u < nv μ 93) ∧ nv μ 93 ≤ 8 + nv μ 89 ∧ (μ.1 0 90).toInt = (Zs.length : Int) ∧ Zs.length ≤ 27 ∧ Cst μ Zs ∧ nv μ 88 ≤ Su (fun i => oc (iv μ 46 i)) (nv μ 87) + ve ∧ ve ≤ 24 ∧ Bvs μ (nv μ 88) (nv μ 110) b ve Vb
theorem Th.room {b : Nat} {Vb : Nat → Prop} {ve : Nat} {μ : Mem} {Zs : List Zc} {V : Nat → Prop} (hI : IM μ) (h : Th b Vb ve μ Zs V) : nv μ 87 < 955 ∧ nv μ 88 ≤ 2640 ∧ nv μ 93 ≤ 308 ∧ nv μ 89 ≤ 300 := by
  obtain ⟨_, _, h3, _, h5, h6, h7, h8⟩ := h
  have g := rgm_0_89 hI
  have n89 := ti_nat (a := μ.1 0 89) (by omega)
  have e89 : nv μ 89 = (μ.1 0 89).toNatClampNeg := rfl
  have a := h6 _ _ _ one_ad
  have b := h6 _ _ _ oc_ad
  have p := pend_1 Zs
  rw [Su_one] at a
  omega
def frIn : List (Nat × Nat × Nat) := [(0, 0, 87), (1, 46, 0), (1, 47, 0), (1, 48, 0), (1, 51, 0), (1, 52, 0), (0, 0, 68), (0, 0, 89), (0, 0, 93)]
/-- an instruction of kind k is laid at I = nv μ 87; its operands: xs -/
def Ops (μ : Mem) : Nat → List Nat → Prop
  | _, [] => True
  | o, x :: xs => iv μ 53 o = iv μ 30 x ∧ iv μ 54 o = iv μ 31 x ∧ Ops μ (o + 1) xs
def In (μ μ1 : Mem) (k : Int) (hr : Bool) (xs : List Nat) : Prop :=
  nv μ1 87 = nv μ 87 + 1 ∧ nv μ1 88 = nv μ 88 + xs.length ∧ nv μ1 89 = nv μ 89 + 1 ∧ (hr = true → iv μ1 47 (nv μ 87) = (nv μ 93 : Int) ∧ nv μ1 93 = nv μ 93 + 1) ∧ (hr = false → nv μ1 93 = nv μ 93) ∧ iv μ1 46 (nv μ 87) = k ∧ iv μ1 51 (nv μ 87) = (nv μ 88 : Int) ∧ iv μ1 52 (nv μ 87) = (xs.length : Int) ∧ (∀ j, j ≠ nv μ 87 → iv μ1 46 j = iv μ 46 j ∧ iv μ1 47 j = iv μ 47 j ∧ iv μ1 48 j = iv μ 48 j ∧ iv μ1 51 j = iv μ 51 j ∧ iv μ1 52 j = iv μ 52 j) ∧ (∀ j, iv μ1 49 j = iv μ 49 j ∧ iv μ1 50 j = iv μ 50 j ∧ iv μ1 59 j = iv μ 59 j ∧ K62 μ μ1 j) ∧ (∀ o, o < nv μ 88 → iv μ1 53 o = iv μ 53 o ∧ iv μ1 54 o = iv μ 54 o) ∧ μ1.1 0 68 = μ.1 0 68 ∧ μ1.1 0 90 = μ.1 0 90 ∧ nv μ1 110 = nv μ 110 ∧ Ops μ1 (nv μ 88) xs ∧ (∀ j, iv μ1 30 j = iv μ 30 j ∧ iv μ1 31 j = iv μ 31 j)
theorem t_instr {μ : Mem} (hI : IM μ) (h87 : nv μ 87 < 960) (h93 : nv μ 93 < 320) {a1 a2 : Int32} : ok (p_X12_instruction a1 a2 μ) (fun q => q.1.toInt = (nv μ 87 : Int) ∧ IM q.2 ∧ Fr frIn true μ q.2 ∧ ((q.2.1 0 68 ≠ 0) ∨ In μ q.2 a1.toInt (a2 != 0) [])) := by
  rw [p_X12_instruction_eq]
  have g87 := rgm_0_87 hI
  have n87 := ti_nat (a := μ.1 0 87) (by omega)
  have e87 : nv μ 87 = (μ.1 0 87).toNatClampNeg := rfl
  have g88 := rgm_0_88 hI
  have n88 := ti_nat (a := μ.1 0 88) (by omega)
  have e88 : nv μ 88 = (μ.1 0 88).toNatClampNeg := rfl
  have e0 : (0 : Int32).toInt = 0 := by decide
  have e1 : (1 : Int32).toInt = 1 := by decide
  refine ok_bd (ok_pk (k_X12_item a1 μ hI (by omega)) (Q := fun q => q.2 = sF (sF (sF (sF (sF (sF μ 46 (nv μ 87) a1) 47 (nv μ 87) (-1)) 48 (nv μ 87) 0) 51 (nv μ 87) (μ.1 0 88)) 52 (nv μ 87) 0) 0 87 (μ.1 0 87 + 1)) ?_) ?_
  · rw [p_X12_item_eq]
    exact pk_gd fun _ => pk_bv (pk_gd fun _ => pk_bv (pk_gd fun _ => pk_bv (pk_gd fun _ => pk_bv (pk_gd fun _ => pk_bv (pk_bv (pk_some rfl))))))
  rintro r μ1 ⟨⟨hI1, hF1, h1, h2⟩, em1⟩
  have hI1 : IM μ1 := hI1
  have hF1 : Fr [(0, 0, 87), (1, 46, 0), (1, 47, 0), (1, 48, 0), (1, 51, 0), (1, 52, 0)] true μ μ1 := hF1
  have h1 : r.toInt = (μ.1 0 87).toInt := h1
  have em1 : μ1 = sF (sF (sF (sF (sF (sF μ 46 (nv μ 87) a1) 47 (nv μ 87) (-1)) 48 (nv μ 87) 0) 51 (nv μ 87) (μ.1 0 88)) 52 (nv μ 87) 0) 0 87 (μ.1 0 87 + 1) := em1
  have h2 : (μ1.1 0 87).toInt = (μ.1 0 87).toInt + 1 := h2
  have er : r.toNatClampNeg = nv μ 87 := tn_of (by omega)
  have b46 : iv μ1 46 (nv μ 87) = a1.toInt := by rw [em1]; unfold iv; rw [sF_i (by decide), sF_i (by decide), sF_i (by decide), sF_i (by decide), sF_i (by decide), sF_v]
  have b51 : iv μ1 51 (nv μ 87) = (nv μ 88 : Int) := by
    rw [em1]; unfold iv; rw [sF_i (by decide), sF_i (by decide), sF_v]; omega
  have b52 : iv μ1 52 (nv μ 87) = 0 := by rw [em1]; unfold iv; rw [sF_i (by decide), sF_v]; exact e0
  have oth : ∀ c j, j ≠ nv μ 87 → c ≠ 0 → iv μ1 c j = iv μ c j := by
    intro c j hj hc
    rw [em1]; unfold iv
    rw [sF_i hc, sF_k hj, sF_k hj, sF_k hj, sF_k hj, sF_k hj]
  have n871 : nv μ1 87 = nv μ 87 + 1 := tn_of (by omega)
  rw [p_X12_countInstruction_eq]
  have g89 := rgm_0_89 hI1
  have e300 : (300 : Int32).toInt = 300 := by decide
  refine ok_bw (P := fun q => IM q ∧ Fr frIn true μ q ∧ ((q.1 0 68 ≠ 0) ∨ In μ q a1.toInt (a2 != 0) [])) ?_ (fun μ3 h => ok_some ⟨by show r.toInt = _; omega, h.1, h.2.1, h.2.2⟩)
  have F1 : Fr frIn true μ μ1 := Fr.mono hF1 (by decide +kernel) (fun h => h)
  refine ok_ite (fun h300 => ok_bv (fun μ6 em6 => ok_some ⟨by rw [em6]; exact IM_F hI1 (rtm_0_68 _), by rw [em6]; exact Fr.put F1 (by decide +kernel), Or.inl (by rw [em6, sF_v]; decide)⟩)) (fun h300 => ok_bv (fun μ2 em2 => ?_))
  have hne : (μ1.1 0 89).toInt ≠ 300 := fun h => h300 (ti_eq.mpr (by rw [h, e300]))
  have t89 : (μ1.1 0 89 + 1).toInt = (μ1.1 0 89).toInt + 1 := by rw [ti_add (by omega) (by omega), e1]
  have hI2 : IM μ2 := by rw [em2]; exact IM_F hI1 (rpm_0_89 (by rw [t89]; omega))
  have F2 : Fr frIn true μ μ2 := by rw [em2]; exact Fr.put F1 (by decide +kernel)
  have e89 : μ1.1 0 89 = μ.1 0 89 := hF1.1 0 89 (by decide +kernel)
  have n892 : nv μ2 89 = nv μ 89 + 1 := by
    have n89 := ti_nat (a := μ1.1 0 89) (by omega)
    have : nv μ 89 = (μ1.1 0 89).toNatClampNeg := by unfold nv; rw [e89]
    exact tn_of (by rw [em2, sF_v, t89]; omega)
  have a2r : ∀ c, c ≠ 0 → ∀ j, iv μ2 c j = iv μ1 c j := fun c hc j => by unfold iv; rw [em2, sF_i hc]
  have f2 : ∀ k, k ≠ 89 → k ≠ 87 → μ2.1 0 k = μ.1 0 k := fun k h1 h2 => by
    rw [em2, sF_k h1]; exact hF1.1 0 k (by simp [hit, h2])
  have nf2 : ∀ k, k ≠ 89 → k ≠ 87 → nv μ2 k = nv μ k := fun k h1 h2 => by unfold nv; rw [f2 k h1 h2]
  have n872 : nv μ2 87 = nv μ 87 + 1 := by
    have : μ2.1 0 87 = μ1.1 0 87 := by rw [em2, sF_k (by decide)]
    unfold nv; rw [this]; exact n871
  have a1f : ∀ c, na [(0, 0, 87), (1, 46, 0), (1, 47, 0), (1, 48, 0), (1, 51, 0), (1, 52, 0)] c = true → ∀ j, iv μ1 c j = iv μ c j := fun c hc j => hF1.a hc j
  refine ok_ite (fun hz => ok_some ⟨hI2, F2, Or.inr ?_⟩) (fun hz => ok_gd (inb_iff.mpr (by omega)) (ok_bv (fun μ4 em4 => ok_bv (fun μ5 em5 => ok_some ?_))))
  · have hb : (a2 != 0) = false := by rw [hz]; rfl
    rw [hb]
    refine ⟨n872, by rw [nf2 _ (by decide) (by decide)]; rfl, n892, fun h => absurd h (by decide), fun _ => nf2 _ (by decide) (by decide), by rw [a2r _ (by decide)]; exact b46, by rw [a2r _ (by decide)]; exact b51, by rw [a2r _ (by decide)]; exact b52, fun j hj => ⟨by rw [a2r _ (by decide)]; exact oth _ j hj (by decide), by rw [a2r _ (by decide)]; exact oth _ j hj (by decide), by rw [a2r _ (by decide)]; exact oth _ j hj (by decide), by rw [a2r _ (by decide)]; exact oth _ j hj (by decide), by rw [a2r _ (by decide)]; exact oth _ j hj (by decide)⟩, fun j => ⟨by rw [a2r _ (by decide)]; exact a1f 49 (by decide) j, by rw [a2r _ (by decide)]; exact a1f 50 (by decide) j, by rw [a2r _ (by decide)]; exact a1f 59 (by decide) j, by rw [a2r _ (by decide)]; exact a1f 62 (by decide) j, by rw [a2r _ (by decide)]; exact a1f 63 (by decide) j, by rw [a2r _ (by decide)]; exact a1f 64 (by decide) j, F2.v (by decide +kernel)⟩, fun o _ => ⟨by rw [a2r _ (by decide)]; exact a1f 53 (by decide) o, by rw [a2r _ (by decide)]; exact a1f 54 (by decide) o⟩, f2 _ (by decide) (by decide), f2 _ (by decide) (by decide), nf2 _ (by decide) (by decide), trivial, fun j => ⟨by rw [a2r _ (by decide)]; exact a1f 30 (by decide) j, by rw [a2r _ (by decide)]; exact a1f 31 (by decide) j⟩⟩
  · have hb : (a2 != 0) = true := by simp [hz]
    rw [hb]
    rw [er] at em4
    have g93 := rgm_0_93 hI2
    have e93 : μ2.1 0 93 = μ.1 0 93 := f2 _ (by decide) (by decide)
    have n93 := ti_nat (a := μ.1 0 93) (by rw [← e93]; omega)
    have e93n : nv μ 93 = (μ.1 0 93).toNatClampNeg := rfl
    have hI4 : IM μ4 := by rw [em4]; exact IM_F hI2 (rtma_47 _ _)
    have e93' : μ4.1 0 93 = μ.1 0 93 := by rw [em4]; exact e93
    have t93 : (μ4.1 0 93 + 1).toInt = (μ.1 0 93).toInt + 1 := by rw [e93', ti_add (by omega) (by omega), e1]
    have hI5 : IM μ5 := by rw [em5]; exact IM_F hI4 (rpm_0_93 (by rw [t93]; omega))
    have F5 : Fr frIn true μ μ5 := by
      rw [em5]; refine Fr.put ?_ (by decide +kernel)
      rw [em4]; exact Fr.puta F2 (by decide +kernel)
    have a5 : ∀ c, c ≠ 0 → c ≠ 47 → ∀ j, iv μ5 c j = iv μ1 c j := fun c hc h47 j => by
      rw [← a2r c hc]; unfold iv; rw [em5, sF_i hc, em4, sF_i h47]
    have v47 : iv μ5 47 (nv μ 87) = (nv μ 93 : Int) := by
      unfold iv; rw [em5, sF_i (by decide), em4, sF_v, e93]; omega
    have o47 : ∀ j, j ≠ nv μ 87 → iv μ5 47 j = iv μ 47 j := fun j hj => by
      rw [← oth 47 j hj (by decide), ← a2r 47 (by decide)]
      unfold iv; rw [em5, sF_i (by decide), em4, sF_k hj]
    have f5 : ∀ k, k ≠ 93 → μ5.1 0 k = μ2.1 0 k := fun k hk => by rw [em5, sF_k hk, em4, sF_i (by decide)]
    have nf5 : ∀ k, k ≠ 93 → nv μ5 k = nv μ2 k := fun k hk => by unfold nv; rw [f5 k hk]
    have n935 : nv μ5 93 = nv μ 93 + 1 := tn_of (by rw [em5, sF_v, t93]; omega)
    refine ⟨hI5, F5, Or.inr ⟨by rw [nf5 _ (by decide)]; exact n872, by rw [nf5 _ (by decide), nf2 _ (by decide) (by decide)]; rfl, by rw [nf5 _ (by decide)]; exact n892, fun _ => ⟨v47, n935⟩, fun h => absurd h (by decide), by rw [a5 _ (by decide) (by decide)]; exact b46, by rw [a5 _ (by decide) (by decide)]; exact b51, by rw [a5 _ (by decide) (by decide)]; exact b52, fun j hj => ⟨by rw [a5 _ (by decide) (by decide)]; exact oth _ j hj (by decide), o47 j hj, by rw [a5 _ (by decide) (by decide)]; exact oth _ j hj (by decide), by rw [a5 _ (by decide) (by decide)]; exact oth _ j hj (by decide), by rw [a5 _ (by decide) (by decide)]; exact oth _ j hj (by decide)⟩, fun j => ⟨by rw [a5 _ (by decide) (by decide)]; exact a1f 49 (by decide) j, by rw [a5 _ (by decide) (by decide)]; exact a1f 50 (by decide) j, by rw [a5 _ (by decide) (by decide)]; exact a1f 59 (by decide) j, by rw [a5 _ (by decide) (by decide)]; exact a1f 62 (by decide) j, by rw [a5 _ (by decide) (by decide)]; exact a1f 63 (by decide) j, by rw [a5 _ (by decide) (by decide)]; exact a1f 64 (by decide) j, F5.v (by decide +kernel)⟩, fun o _ => ⟨by rw [a5 _ (by decide) (by decide)]; exact a1f 53 (by decide) o, by rw [a5 _ (by decide) (by decide)]; exact a1f 54 (by decide) o⟩, by rw [f5 _ (by decide)]; exact f2 _ (by decide) (by decide), by rw [f5 _ (by decide)]; exact f2 _ (by decide) (by decide), by rw [nf5 _ (by decide)]; exact nf2 _ (by decide) (by decide), trivial, fun j => ⟨by rw [a5 _ (by decide) (by decide)]; exact a1f 30 (by decide) j, by rw [a5 _ (by decide) (by decide)]; exact a1f 31 (by decide) j⟩⟩⟩
def frOp : List (Nat × Nat × Nat) := [(0, 0, 88), (1, 52, 0), (1, 53, 0), (1, 54, 0)]
theorem Ops.snoc {μ : Mem} : ∀ {xs : List Nat} {o x : Nat}, Ops μ o xs → iv μ 53 (o + xs.length) = iv μ 30 x → iv μ 54 (o + xs.length) = iv μ 31 x → Ops μ o (xs ++ [x]) := by
  intro xs
  induction xs with
  | nil => intro o x _ h1 h2; exact ⟨h1, h2, trivial⟩
  | cons y xs ih =>
    intro o x h h1 h2
    have e : o + (y :: xs).length = o + 1 + xs.length := by simp; omega
    rw [e] at h1 h2
    exact ⟨h.1, h.2.1, ih h.2.2 h1 h2⟩
theorem Ops.cong {μ μ' : Mem} (hp : ∀ j, iv μ' 30 j = iv μ 30 j ∧ iv μ' 31 j = iv μ 31 j) : ∀ {xs : List Nat} {o : Nat}, Ops μ o xs → (∀ j, o ≤ j → j < o + xs.length → iv μ' 53 j = iv μ 53 j ∧ iv μ' 54 j = iv μ 54 j) → Ops μ' o xs := by
  intro xs
  induction xs with
  | nil => intro o _ _; trivial
  | cons y xs ih =>
    intro o h c
    obtain ⟨c1, c2⟩ := c o (Nat.le_refl _) (by simp)
    exact ⟨by rw [c1, (hp y).1]; exact h.1, by rw [c2, (hp y).2]; exact h.2.1, ih h.2.2 (fun j h1 h2 => c j (by omega) (by simp; omega))⟩
theorem Ops.get {μ : Mem} : ∀ {xs : List Nat} {o : Nat}, Ops μ o xs → ∀ k, k < xs.length → ∃ x, x ∈ xs ∧ iv μ 53 (o + k) = iv μ 30 x ∧ iv μ 54 (o + k) = iv μ 31 x := by
  intro xs
  induction xs with
  | nil => intro o _ k hk; exact absurd hk (by simp)
  | cons y xs ih =>
    intro o h k hk
    cases k with
    | zero => exact ⟨y, by simp, h.1, h.2.1⟩
    | succ k =>
      obtain ⟨x, h1, h2, h3⟩ := ih h.2.2 k (by simp at hk; omega)
      have e : o + (k + 1) = o + 1 + k := by omega
      exact ⟨x, by simp [h1], by rw [e]; exact h2, by rw [e]; exact h3⟩
/-- one more operand -/
theorem t_operand {μ μ1 : Mem} (hI : IM μ1) {k : Int} {hr : Bool} {xs : List Nat} (h : In μ μ1 k hr xs) (h87 : nv μ 87 < 960) (h88 : nv μ 88 + xs.length < 4200) (hxs : xs.length < 1000) {a1 a2 : Int32} {x : Nat} (e1 : a1.toInt = (nv μ 87 : Int)) (e2 : a2.toInt = (x : Int)) (hx : x < nv μ1 56) : ok (p_X12_operand a1 a2 μ1) (fun q => IM q ∧ Fr frOp true μ1 q ∧ In μ q k hr (xs ++ [x])) := by
  obtain ⟨i1, i2, i3, i4, i5, i6, i7, i8, i9, i10, i11, i12, i13, i14, i15, i16⟩ := h
  have g88 := rgm_0_88 hI
  have n88 := ti_nat (a := μ1.1 0 88) (by omega)
  have e88 : nv μ1 88 = (μ1.1 0 88).toNatClampNeg := rfl
  have ehp := hp_nv hI
  have g56 := rgm_0_56 hI
  have one : (1 : Int32).toInt = 1 := by decide
  have ea : a1.toNatClampNeg = nv μ 87 := tn_of e1
  have ex : a2.toNatClampNeg = x := tn_of e2
  refine ok_mono (ok_pk (k_X12_operand a1 a2 μ1 hI (by omega)) (Q := fun q => q = sF (sF (sF (sF μ1 53 (nv μ1 88) (μ1.1 30 x)) 54 (nv μ1 88) (μ1.1 31 x)) 0 88 (μ1.1 0 88 + 1)) 52 (nv μ 87) (μ1.1 52 (nv μ 87) + 1)) ?_) ?_
  · rw [p_X12_operand_eq, ea, ex]
    exact pk_gd fun _ => pk_gd fun _ => pk_bv (pk_gd fun _ => pk_gd fun _ => pk_bv (pk_bv (pk_gd fun _ => pk_gd fun _ => pk_bv (pk_some rfl))))
  rintro q ⟨⟨c1, c2, c3⟩, e⟩
  have c2 : Fr frOp true μ1 q := c2
  have q53 : iv q 53 (nv μ1 88) = iv μ1 30 x := by rw [e]; unfold iv; rw [sF_i (by decide), sF_i (by decide), sF_i (by decide), sF_v]
  have q54 : iv q 54 (nv μ1 88) = iv μ1 31 x := by rw [e]; unfold iv; rw [sF_i (by decide), sF_i (by decide), sF_v]
  have o53 : ∀ o, o ≠ nv μ1 88 → iv q 53 o = iv μ1 53 o ∧ iv q 54 o = iv μ1 54 o := by
    intro o ho
    rw [e]; unfold iv
    refine ⟨?_, ?_⟩
    · rw [sF_i (by decide), sF_i (by decide), sF_i (by decide), sF_k ho]
    · rw [sF_i (by decide), sF_i (by decide), sF_k ho, sF_i (by decide)]
  have v52 : iv q 52 (nv μ 87) = (xs.length : Int) + 1 := by
    have h8 : (μ1.1 52 (nv μ 87)).toInt = (xs.length : Int) := i8
    rw [e]; unfold iv; rw [sF_v, ti_add (by omega) (by omega), one, h8]
  have o52 : ∀ j, j ≠ nv μ 87 → iv q 52 j = iv μ1 52 j := by
    intro j hj
    rw [e]; unfold iv; rw [sF_k hj, sF_i (by decide), sF_i (by decide), sF_i (by decide)]
  have hp : ∀ j, iv q 30 j = iv μ1 30 j ∧ iv q 31 j = iv μ1 31 j := fun j => ⟨c2.a (by decide) j, c2.a (by decide) j⟩
  have n88q : nv q 88 = nv μ1 88 + 1 := tn_of (by rw [c3]; omega)
  refine ⟨c1, c2, by rw [c2.n (by decide +kernel)]; exact i1, by rw [n88q, i2]; simp; omega, by rw [c2.n (by decide +kernel)]; exact i3, fun h => ⟨by rw [c2.a (by decide)]; exact (i4 h).1, by rw [c2.n (by decide +kernel)]; exact (i4 h).2⟩, fun h => by rw [c2.n (by decide +kernel)]; exact i5 h, by rw [c2.a (by decide)]; exact i6, by rw [c2.a (by decide)]; exact i7, by rw [v52]; simp, fun j hj => ⟨by rw [c2.a (by decide)]; exact (i9 j hj).1, by rw [c2.a (by decide)]; exact (i9 j hj).2.1, by rw [c2.a (by decide)]; exact (i9 j hj).2.2.1, by rw [c2.a (by decide)]; exact (i9 j hj).2.2.2.1, by rw [o52 j hj]; exact (i9 j hj).2.2.2.2⟩, fun j => ⟨by rw [c2.a (by decide)]; exact (i10 j).1, by rw [c2.a (by decide)]; exact (i10 j).2.1, by rw [c2.a (by decide)]; exact (i10 j).2.2.1, by rw [c2.a (by decide)]; exact (i10 j).2.2.2.1, by rw [c2.a (by decide)]; exact (i10 j).2.2.2.2.1, by rw [c2.a (by decide)]; exact (i10 j).2.2.2.2.2.1, by rw [c2.v (by decide +kernel)]; exact (i10 j).2.2.2.2.2.2⟩, fun o ho => ⟨by rw [(o53 o (by omega)).1]; exact (i11 o ho).1, by rw [(o53 o (by omega)).2]; exact (i11 o ho).2⟩, by rw [c2.v (by decide +kernel)]; exact i12, by rw [c2.v (by decide +kernel)]; exact i13, by rw [c2.n (by decide +kernel)]; exact i14, ?_, fun j => ⟨by rw [(hp j).1]; exact (i16 j).1, by rw [(hp j).2]; exact (i16 j).2⟩⟩
  refine Ops.snoc (Ops.cong hp i15 (fun j h1 h2 => o53 j (by omega))) ?_ ?_
  · rw [← i2, q53, (hp x).1]
  · rw [← i2, q54, (hp x).2]
/-- what is said of A: it may be laid any time -/
theorem t_itemA {μ μ1 : Mem} (hI : IM μ1) {k : Int} {hr : Bool} {xs : List Nat} (h : In μ μ1 k hr xs) (a : Int32) : IM (sF μ1 48 (nv μ 87) a) ∧ Fr [(1, 48, 0)] true μ1 (sF μ1 48 (nv μ 87) a) ∧ In μ (sF μ1 48 (nv μ 87) a) k hr xs ∧ iv (sF μ1 48 (nv μ 87) a) 48 (nv μ 87) = a.toInt := by
  obtain ⟨i1, i2, i3, i4, i5, i6, i7, i8, i9, i10, i11, i12, i13, i14, i15, i16⟩ := h
  have c2 : Fr [(1, 48, 0)] true μ1 (sF μ1 48 (nv μ 87) a) := Fr.puta Fr.rf (by decide +kernel)
  have o48 : ∀ j, j ≠ nv μ 87 → iv (sF μ1 48 (nv μ 87) a) 48 j = iv μ1 48 j := fun j hj => by unfold iv; rw [sF_k hj]
  refine ⟨IM_F hI (rtma_48 _ _), c2, ⟨i1, i2, i3, i4, i5, i6, i7, i8, fun j hj => ⟨(i9 j hj).1, (i9 j hj).2.1, by rw [o48 j hj]; exact (i9 j hj).2.2.1, (i9 j hj).2.2.2⟩, i10, i11, i12, i13, i14, ?_, i16⟩, by unfold iv; rw [sF_v]⟩
  exact Ops.cong (μ := μ1) (μ' := sF μ1 48 (nv μ 87) a) (fun j => ⟨rfl, rfl⟩) i15 (fun j _ _ => ⟨rfl, rfl⟩)
/-- an operand that was laid is one of V -/
theorem ops_opd {μ μ1 : Mem} {k : Int} {hr : Bool} {xs : List Nat} (h : In μ μ1 k hr xs) {V : Nat → Prop} (hH : HI μ1) (hx : ∀ x, x ∈ xs → Vl μ1 V x ∧ iv μ1 30 x ≠ 2) : ∀ j, j < xs.length → Opd μ1 (nv μ1 88) V (nv μ 88 + j) := by
  intro j hj
  obtain ⟨i1, i2, i3, i4, i5, i6, i7, i8, i9, i10, i11, i12, i13, i14, i15, i16⟩ := h
  obtain ⟨x, x1, x2, x3⟩ := i15.get j hj
  refine ⟨by omega, ?_⟩
  rw [x2, x3]
  obtain ⟨hv, h2⟩ := hx x x1
  obtain ⟨_, ⟨h0, _⟩ | ⟨h0, _⟩⟩ := hH x hv.lt
  · obtain ⟨C, c1, c2⟩ := hv
    rcases h0 with h0 | h0 | h0
    · exact Or.inl (Or.inl h0)
    · exact Or.inl (Or.inr h0)
    · exact Or.inr ⟨h0, (c2 x c1).2.1 h0⟩
  · exact absurd h0 h2
/-- the instruction is whole -/
theorem th_pl {b : Nat} {Vb : Nat → Prop} {ve : Nat} {μ μ1 : Mem} {Zs : List Zc} {V : Nat → Prop} {k : Int} {hr : Bool} {xs : List Nat} (h : Th b Vb ve μ Zs V) (hi : In μ μ1 k hr xs) (hP : Pl μ1 (nv μ1 88) (nv μ1 110) V (nv μ 87)) (hk : k ≠ 6 ∧ k ≠ 13 ∧ k ≠ 14) (hkr : hr = decide (k ≠ 7)) (hxs : xs.length ≤ oc k) : Th b Vb ve μ1 Zs (Vp μ1 V (nv μ 87)) := by
  obtain ⟨i1, i2, i3, i4, i5, i6, i7, i8, i9, i10, i11, i12, i13, i14, i15, i16⟩ := hi
  obtain ⟨h1, h2, h3, h4, h5, h6, h7, h8⟩ := h
  have ao : Ao μ μ1 (nv μ 88) (nv μ1 88) (nv μ 110) (nv μ1 110) := ⟨by omega, by omega, i11, fun v _ => (i10 v).2.2.1⟩
  have ag : ∀ j, j ≠ nv μ 87 → Ag μ μ1 (nv μ 88) (nv μ 110) j := fun j hj => ⟨(i9 j hj).1, (i9 j hj).2.1, (i9 j hj).2.2.1, (i10 j).1, (i10 j).2.1, (i9 j hj).2.2.2.1, (i9 j hj).2.2.2.2⟩
  have hz := h1.cong ao (fun j _ hj => ag j (by omega))
  have hsu : ∀ c : Int → Nat, Su (fun i => c (iv μ1 46 i)) (nv μ1 87) = Su (fun i => c (iv μ 46 i)) (nv μ 87) + c k := by
    intro c
    rw [i1]
    show Su _ (nv μ 87) + c (iv μ1 46 (nv μ 87)) = _
    rw [i6, Su.cong (nv μ 87) (fun i hi => by rw [(i9 i (by omega)).1])]
  refine ⟨by rw [i1]; exact hz.pl hP, ?_, ?_, by rw [i13]; exact h4, h5, ?_, ?_, h8.1, h8.2.cong ao (fun j hj => ag j (by have := Zq.le h1; omega)) (fun w => (i10 w).2.2.2)⟩
  · intro u hu
    cases hr with
    | true =>
      obtain ⟨j1, j2⟩ := i4 rfl
      rcases hu with hu | ⟨_, hu⟩
      · have := h2 u hu; omega
      · rw [j1] at hu; omega
    | false =>
      have j2 := i5 rfl
      rcases hu with hu | ⟨h7k, _⟩
      · rw [j2]; exact h2 u hu
      · rw [i6] at h7k
        exact absurd hkr (by simp [h7k])
  · cases hr with
    | true => have := (i4 rfl).2; omega
    | false => have := i5 rfl; omega
  · intro c cM W ha
    rw [hsu, i3]
    have h9 := h6 c cM W ha
    have h10 := ha.2.2.2 k hk.1 hk.2.1 hk.2.2
    have h11 : W * (nv μ 89 + 1 + Zs.length) = W * (nv μ 89 + Zs.length) + W := by
      have : nv μ 89 + 1 + Zs.length = (nv μ 89 + Zs.length) + 1 := by omega
      rw [this, Nat.mul_add, Nat.mul_one]
    omega
  · rw [hsu, i2]; omega
theorem v_reg {μ : Mem} {L : List Act} {cs : List Nat} {R : List Fm} (h : Vw μ L cs R) {a : Int32} {i r : Nat} (h1 : a.toInt = (i : Int)) (hi : i < 960) (hr : iv μ 47 i = (r : Int)) (hh : nv μ 56 < 100000) : ok (p_X12_registerOf a μ) (fun q => q.1.toInt = (nv μ 56 : Int) ∧ Fr frN true μ q.2 ∧ Gr μ q.2 ∧ Vw q.2 L cs R ∧ nv q.2 56 = nv μ 56 + 1 ∧ iv q.2 30 (nv μ 56) = 3 ∧ iv q.2 31 (nv μ 56) = (r : Int) ∧ iv q.2 33 (nv μ 56) = 1) := by
  rw [p_X12_registerOf_eq, tn_of h1]
  have e3 : (3 : Int32).toInt = 3 := by decide
  refine ok_gd (inb_iff.mpr (by omega)) (ok_bd (v_node h (s := 3) (b := μ.1 47 i) (by decide) hh) ?_)
  rintro q μ1 ⟨c1, c2, c3, c4, c5, c6, c7, c8⟩
  have c6 : iv μ1 30 (nv μ 56) = 3 := by have := c6; rw [e3] at this; exact this
  have c7 : iv μ1 31 (nv μ 56) = (r : Int) := by have h9 := c7; have : (μ.1 47 i).toInt = (r : Int) := hr; rw [this] at h9; exact h9
  exact ok_some ⟨c1, c2, c3, c4, c5, c6, c7, c8⟩
