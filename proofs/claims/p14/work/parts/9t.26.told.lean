def Pv5 (P i k : Nat) : Prop := (2 ≤ i ∧ i ≤ 15 ∧ ¬ (P ≤ i ∧ i ≤ P + 6)) ∨ 18 ≤ i ∨ (i = 0 ∧ k = 10)
def Gq5 (P a : Nat) : Prop := a = P
def Vg5 (P : Nat) (μ : Mem) : Prop := P29 P ∧ sel 2 (μ.2.2 16 4) = P
def Vz5 (P : Nat) (μ q : Mem) : Prop := Vg5 P q ∧ (∀ i k, Pv5 P i k → q.1 i k = μ.1 i k) ∧ q.2 = μ.2
theorem vn_0 {P a k : Nat} (h : Gq5 P a) (hP : P29 P) : ¬ Pv5 P a k := by unfold Gq5 at h; unfold P29 at hP; unfold Pv5; omega
theorem vn_1 {P a k : Nat} (h : Gq5 P a) (hP : P29 P) : ¬ Pv5 P (a + 1) k := by unfold Gq5 at h; unfold P29 at hP; unfold Pv5; omega
theorem vn_2 {P a k : Nat} (h : Gq5 P a) (hP : P29 P) : ¬ Pv5 P (a + 2) k := by unfold Gq5 at h; unfold P29 at hP; unfold Pv5; omega
theorem vn_3 {P a k : Nat} (h : Gq5 P a) (hP : P29 P) : ¬ Pv5 P (a + 3) k := by unfold Gq5 at h; unfold P29 at hP; unfold Pv5; omega
theorem vn_4 {P a k : Nat} (h : Gq5 P a) (hP : P29 P) : ¬ Pv5 P (a + 4) k := by unfold Gq5 at h; unfold P29 at hP; unfold Pv5; omega
theorem vn_5 {P a k : Nat} (h : Gq5 P a) (hP : P29 P) : ¬ Pv5 P (a + 5) k := by unfold Gq5 at h; unfold P29 at hP; unfold Pv5; omega
theorem vn_6 {P a k : Nat} (h : Gq5 P a) (hP : P29 P) : ¬ Pv5 P (a + 6) k := by unfold Gq5 at h; unfold P29 at hP; unfold Pv5; omega
theorem Vz5.rf {P : Nat} {μ : Mem} (h : Vg5 P μ) : Vz5 P μ μ := ⟨h, fun _ _ _ => rfl, rfl⟩
theorem Vz5.tr {P : Nat} {μ q z : Mem} (h : Vz5 P μ q) (h2 : Vz5 P q z) : Vz5 P μ z := ⟨h2.1, fun i k hp => (h2.2.1 i k hp).trans (h.2.1 i k hp), h2.2.2.trans h.2.2⟩
theorem Vz5.sF {P : Nat} {μ q : Mem} {i k : Nat} {v : Int32} (h : Vz5 P μ q) (hn : ¬ Pv5 P i k) : Vz5 P μ (sF q i k v) := by
  refine ⟨h.1, fun j l hp => ?_, h.2.2⟩
  rw [sF_1]
  by_cases e : j = i
  · rw [if_pos e]
    by_cases e2 : l = k
    · rw [e, e2] at hp; exact absurd hp hn
    · rw [if_neg e2, ← e]; exact h.2.1 j l hp
  · rw [if_neg e]; exact h.2.1 j l hp
theorem v_X4_begin {P : Nat} (a1 : Int32) (μ : Mem)  (hU : Vg5 P μ) : pk (p_X4_begin a1 μ) (fun q => Vz5 P μ q) := by
  have z0 : Vz5 P μ μ := Vz5.rf hU
  rw [p_X4_begin_eq]
  refine pk_bvy (fun μ1 ez1 => ?_)
  have z1 : Vz5 P μ μ1 := by rw [ez1]; exact z0.sF (by unfold Pv5; omega)
  refine pk_bvy (fun μ2 ez2 => ?_)
  have z2 : Vz5 P μ μ2 := by rw [ez2]; exact z1.sF (by unfold Pv5; omega)
  refine pk_bvy (fun μ3 ez3 => ?_)
  have z3 : Vz5 P μ μ3 := by rw [ez3]; exact z2.sF (by unfold Pv5; omega)
  exact pk_some z3
theorem v_X3_clear_b17 {P : Nat} : ∀ (n : Nat) (a0 : Nat) (a1 : Int32) (μ : Mem), Gq5 P a0 → Vg5 P μ → pk (p_X3_clear_b17  n a0 a1 μ) (fun q => Vz5 P μ q) := by
  intro n
  induction n with
  | zero => intro a0 a1 μ g_a0 hU r e; rw [p_X3_clear_b17_z] at e; cases e
  | succ n ih =>
    intro a0 a1 μ g_a0 hU
    have z0 : Vz5 P μ μ := Vz5.rf hU
    rw [p_X3_clear_b17_s]
    refine pk_ite (fun _ => ?_) (fun _ => ?_)
    · exact pk_some z0
    · refine pk_gd (fun _ => ?_)
      refine pk_bvy (fun μ5 ez1 => ?_)
      have z1 : Vz5 P μ μ5 := by rw [ez1]; exact z0.sF (vn_3 g_a0 hU.1)
      refine pk_bvy (fun v6 _ => ?_)
      exact pk_mono (ih a0 v6 μ5 g_a0 z1.1) (fun _ hq => z1.tr hq)
theorem v_X3_clear {P : Nat} (a0 : Nat) (μ : Mem) (g_a0 : Gq5 P a0) (hU : Vg5 P μ) : pk (p_X3_clear a0 μ) (fun q => Vz5 P μ q) := by
  have z0 : Vz5 P μ μ := Vz5.rf hU
  rw [p_X3_clear_eq]
  refine pk_bvy (fun μ1 ez1 => ?_)
  have z1 : Vz5 P μ μ1 := by rw [ez1]; exact z0.sF (vn_0 g_a0 hU.1)
  refine pk_bvy (fun μ2 ez2 => ?_)
  have z2 : Vz5 P μ μ2 := by rw [ez2]; exact z1.sF (vn_0 g_a0 hU.1)
  refine pk_bvy (fun μ3 ez3 => ?_)
  have z3 : Vz5 P μ μ3 := by rw [ez3]; exact z2.sF (vn_0 g_a0 hU.1)
  exact pk_mono (v_X3_clear_b17 FUEL a0 (0 : Int32) μ3 g_a0 z3.1) (fun _ hq => z3.tr hq)
theorem v_X4_isWell {P : Nat} (μ : Mem)  (hU : Vg5 P μ) : pk (p_X4_isWell μ) (fun q => Vz5 P μ q.2) := by
  have z0 : Vz5 P μ μ := Vz5.rf hU
  rw [p_X4_isWell_eq]
  refine pk_ite (fun _ => ?_) (fun _ => ?_)
  · exact pk_some z0
  · exact pk_some z0
theorem v_X4_here {P : Nat} (μ : Mem)  (hU : Vg5 P μ) : pk (p_X4_here μ) (fun q => Vz5 P μ q.2) := by
  have z0 : Vz5 P μ μ := Vz5.rf hU
  rw [p_X4_here_eq]
  refine pk_ite (fun _ => ?_) (fun _ => ?_)
  · exact pk_some z0
  · refine pk_ite (fun _ => ?_) (fun _ => ?_)
    · exact pk_some z0
    · refine pk_gd (fun _ => ?_)
      exact pk_some z0
theorem v_X4_fail {P : Nat} (a1 : Int32) (μ : Mem)  (hU : Vg5 P μ) : pk (p_X4_fail a1 μ) (fun q => Vz5 P μ q) := by
  have z0 : Vz5 P μ μ := Vz5.rf hU
  rw [p_X4_fail_eq]
  refine pk_ite (fun _ => ?_) (fun _ => ?_)
  · refine pk_bvy (fun μ2 ez1 => ?_)
    have z1 : Vz5 P μ μ2 := by rw [ez1]; exact z0.sF (by unfold Pv5; omega)
    exact pk_some z1
  · exact pk_some z0
theorem v_X4_take {P : Nat} (a1 : Int32) (μ : Mem)  (hU : Vg5 P μ) : pk (p_X4_take a1 μ) (fun q => Vz5 P μ q.2) := by
  have z0 : Vz5 P μ μ := Vz5.rf hU
  rw [p_X4_take_eq]
  refine pk_bd (v_X4_isWell μ  z0.1) (fun r2 μ1 ez1 => ?_)
  have z1 : Vz5 P μ μ1 := z0.tr ez1
  refine pk_ite (fun _ => ?_) (fun _ => ?_)
  · exact pk_some z1
  · refine pk_bd (v_X4_here μ1  z1.1) (fun r5 μ4 ez2 => ?_)
    have z2 : Vz5 P μ μ4 := z1.tr ez2
    refine pk_ite (fun _ => ?_) (fun _ => ?_)
    · refine pk_bvy (fun μ7 ez3 => ?_)
      have z3 : Vz5 P μ μ7 := by rw [ez3]; exact z2.sF (by unfold Pv5; omega)
      exact pk_some z3
    · refine pk_bw (v_X4_fail (μ4.1 16 2) μ4  z2.1) (fun μ8 ez4 => ?_)
      have z4 : Vz5 P μ μ8 := z2.tr ez4
      exact pk_some z4
theorem v_X4_slotOf_b32 {P : Nat} (K7 : Int32 → Int32 → Mem → Option (Int32 × Mem)) (hK7 : ∀ (y0 : Int32) (y1 : Int32) (y2 : Mem), Vg5 P y2 → pk (K7 y0 y1 y2) (fun q => Vz5 P y2 q.2)) (a1 : Int32) (a2 : Int32) (μ : Mem)  (hU : Vg5 P μ) : pk (p_X4_slotOf_b32 K7 a1 a2 μ) (fun q => Vz5 P μ q.2) := by
  have z0 : Vz5 P μ μ := Vz5.rf hU
  rw [p_X4_slotOf_b32_eq]
  refine pk_bvy (fun v4 _ => ?_)
  exact pk_mono (hK7 a1 v4 μ  z0.1) (fun _ hq => z0.tr hq)
theorem v_X4_slotOf_b7 {P : Nat} : ∀ (n : Nat) (a1 : Int32) (a2 : Int32) (μ : Mem), Vg5 P μ → pk (p_X4_slotOf_b7  n a1 a2 μ) (fun q => Vz5 P μ q.2) := by
  intro n
  induction n with
  | zero => intro a1 a2 μ  hU r e; rw [p_X4_slotOf_b7_z] at e; cases e
  | succ n ih =>
    intro a1 a2 μ  hU
    have z0 : Vz5 P μ μ := Vz5.rf hU
    rw [p_X4_slotOf_b7_s]
    refine pk_ite (fun _ => ?_) (fun _ => ?_)
    · exact pk_some z0
    · refine pk_ite (fun _ => ?_) (fun _ => ?_)
      · exact pk_mono (v_X4_slotOf_b32 (p_X4_slotOf_b7  n) ih a1 a2 μ  z0.1) (fun _ hq => z0.tr hq)
      · refine pk_gd (fun _ => ?_)
        refine pk_ite (fun _ => ?_) (fun _ => ?_)
        · exact pk_some z0
        · exact pk_mono (v_X4_slotOf_b32 (p_X4_slotOf_b7  n) ih a1 a2 μ  z0.1) (fun _ hq => z0.tr hq)
theorem v_X4_slotOf {P : Nat} (a1 : Int32) (μ : Mem)  (hU : Vg5 P μ) : pk (p_X4_slotOf a1 μ) (fun q => Vz5 P μ q.2) := by
  have z0 : Vz5 P μ μ := Vz5.rf hU
  rw [p_X4_slotOf_eq]
  refine pk_bvy (fun v1 _ => ?_)
  exact pk_mono (v_X4_slotOf_b7 FUEL a1 v1 μ  z0.1) (fun _ hq => z0.tr hq)
theorem v_X4_nameOne {P : Nat} (a1 : Int32) (μ : Mem)  (hU : Vg5 P μ) : pk (p_X4_nameOne a1 μ) (fun q => Vz5 P μ q) := by
  have z0 : Vz5 P μ μ := Vz5.rf hU
  rw [p_X4_nameOne_eq]
  refine pk_ite (fun _ => ?_) (fun _ => ?_)
  · exact pk_some z0
  · refine pk_gd (fun _ => ?_)
    refine pk_bvy (fun μ2 ez1 => ?_)
    have z1 : Vz5 P μ μ2 := by rw [ez1]; exact z0.sF (by unfold Pv5; omega)
    refine pk_bvy (fun μ3 ez2 => ?_)
    have z2 : Vz5 P μ μ3 := by rw [ez2]; exact z1.sF (by unfold Pv5; omega)
    exact pk_some z2
theorem v_X4_readName {P : Nat} (μ : Mem)  (hU : Vg5 P μ) : pk (p_X4_readName μ) (fun q => Vz5 P μ q) := by
  have z0 : Vz5 P μ μ := Vz5.rf hU
  rw [p_X4_readName_eq]
  refine pk_bd (v_X4_isWell μ  z0.1) (fun r2 μ1 ez1 => ?_)
  have z1 : Vz5 P μ μ1 := z0.tr ez1
  refine pk_ite (fun _ => ?_) (fun _ => ?_)
  · exact pk_some z1
  · refine pk_bd (v_X4_here μ1  z1.1) (fun r5 μ4 ez2 => ?_)
    have z2 : Vz5 P μ μ4 := z1.tr ez2
    refine pk_ite (fun _ => ?_) (fun _ => ?_)
    · refine pk_bw (v_X4_fail (μ4.1 16 2) μ4  z2.1) (fun μ7 ez3 => ?_)
      have z3 : Vz5 P μ μ7 := z2.tr ez3
      exact pk_some z3
    · refine pk_bd (v_X4_slotOf r5 μ4  z2.1) (fun r10 μ9 ez4 => ?_)
      have z4 : Vz5 P μ μ9 := z2.tr ez4
      refine pk_ite (fun _ => ?_) (fun _ => ?_)
      · refine pk_bvy (fun μ12 ez5 => ?_)
        have z5 : Vz5 P μ μ12 := by rw [ez5]; exact z4.sF (by unfold Pv5; omega)
        refine pk_bw (v_X4_nameOne r5 μ12  z5.1) (fun μ13 ez6 => ?_)
        have z6 : Vz5 P μ μ13 := z5.tr ez6
        exact pk_some z6
      · refine pk_bw (v_X4_fail (μ9.1 16 2) μ9  z4.1) (fun μ15 ez7 => ?_)
        have z7 : Vz5 P μ μ15 := z4.tr ez7
        exact pk_some z7
theorem v_X4_readNames_b16 {P : Nat} : ∀ (n : Nat) (a1 : Int32) (μ : Mem), Vg5 P μ → pk (p_X4_readNames_b16  n a1 μ) (fun q => Vz5 P μ q) := by
  intro n
  induction n with
  | zero => intro a1 μ  hU r e; rw [p_X4_readNames_b16_z] at e; cases e
  | succ n ih =>
    intro a1 μ  hU
    have z0 : Vz5 P μ μ := Vz5.rf hU
    rw [p_X4_readNames_b16_s]
    refine pk_ite (fun _ => ?_) (fun _ => ?_)
    · exact pk_some z0
    · refine pk_bd (v_X4_isWell μ  z0.1) (fun r8 μ7 ez1 => ?_)
      have z1 : Vz5 P μ μ7 := z0.tr ez1
      refine pk_ite (fun _ => ?_) (fun _ => ?_)
      · exact pk_some z1
      · refine pk_bd (v_X4_here μ7  z1.1) (fun r11 μ10 ez2 => ?_)
        have z2 : Vz5 P μ μ10 := z1.tr ez2
        refine pk_ite (fun _ => ?_) (fun _ => ?_)
        · refine pk_bvy (fun μ13 ez3 => ?_)
          have z3 : Vz5 P μ μ13 := by rw [ez3]; exact z2.sF (by unfold Pv5; omega)
          refine pk_bw (v_X4_readName μ13  z3.1) (fun μ14 ez4 => ?_)
          have z4 : Vz5 P μ μ14 := z3.tr ez4
          refine pk_bvy (fun v16 _ => ?_)
          exact pk_mono (ih v16 μ14  z4.1) (fun _ hq => z4.tr hq)
        · exact pk_some z2
theorem v_X4_readNames {P : Nat} (μ : Mem)  (hU : Vg5 P μ) : pk (p_X4_readNames μ) (fun q => Vz5 P μ q) := by
  have z0 : Vz5 P μ μ := Vz5.rf hU
  rw [p_X4_readNames_eq]
  refine pk_bd (v_X4_here μ  z0.1) (fun r2 μ1 ez1 => ?_)
  have z1 : Vz5 P μ μ1 := z0.tr ez1
  refine pk_ite (fun _ => ?_) (fun _ => ?_)
  · exact pk_some z1
  · refine pk_bw (v_X4_readName μ1  z1.1) (fun μ4 ez2 => ?_)
    have z2 : Vz5 P μ μ4 := z1.tr ez2
    exact pk_mono (v_X4_readNames_b16 FUEL (1 : Int32) μ4  z2.1) (fun _ hq => z2.tr hq)
theorem v_X3_startOf {P : Nat} (a0 : Nat) (a1 : Int32) (μ : Mem)  (hU : Vg5 P μ) : pk (p_X3_startOf a0 a1 μ) (fun q => Vz5 P μ q.2) := by
  have z0 : Vz5 P μ μ := Vz5.rf hU
  rw [p_X3_startOf_eq]
  refine pk_ite (fun _ => ?_) (fun _ => ?_)
  · exact pk_some z0
  · refine pk_ite (fun _ => ?_) (fun _ => ?_)
    · exact pk_some z0
    · refine pk_gd (fun _ => ?_)
      refine pk_ite (fun _ => ?_) (fun _ => ?_)
      · exact pk_some z0
      · refine pk_gd (fun _ => ?_)
        refine pk_ite (fun _ => ?_) (fun _ => ?_)
        · refine pk_gd (fun _ => ?_)
          refine pk_gd (fun _ => ?_)
          exact pk_some z0
        · exact pk_some z0
theorem v_X3_begin_b22 {P : Nat} : ∀ (n : Nat) (a0 : Nat) (a1 : Int32) (a2 : Int32) (μ : Mem), Gq5 P a0 → Vg5 P μ → pk (p_X3_begin_b22  n a0 a1 a2 μ) (fun q => Vz5 P μ q) := by
  intro n
  induction n with
  | zero => intro a0 a1 a2 μ g_a0 hU r e; rw [p_X3_begin_b22_z] at e; cases e
  | succ n ih =>
    intro a0 a1 a2 μ g_a0 hU
    have z0 : Vz5 P μ μ := Vz5.rf hU
    rw [p_X3_begin_b22_s]
    refine pk_ite (fun _ => ?_) (fun _ => ?_)
    · refine pk_gd (fun _ => ?_)
      refine pk_bvy (fun μ5 ez1 => ?_)
      have z1 : Vz5 P μ μ5 := by rw [ez1]; exact z0.sF (vn_1 g_a0 hU.1)
      refine pk_gd (fun _ => ?_)
      refine pk_bvy (fun μ6 ez2 => ?_)
      have z2 : Vz5 P μ μ6 := by rw [ez2]; exact z1.sF (vn_1 g_a0 hU.1)
      refine pk_gd (fun _ => ?_)
      refine pk_bvy (fun μ7 ez3 => ?_)
      have z3 : Vz5 P μ μ7 := by rw [ez3]; exact z2.sF (vn_2 g_a0 hU.1)
      refine pk_gd (fun _ => ?_)
      refine pk_bvy (fun μ8 ez4 => ?_)
      have z4 : Vz5 P μ μ8 := by rw [ez4]; exact z3.sF (vn_3 g_a0 hU.1)
      refine pk_bvy (fun μ9 ez5 => ?_)
      have z5 : Vz5 P μ μ9 := by rw [ez5]; exact z4.sF (vn_0 g_a0 hU.1)
      exact pk_some z5
    · refine pk_gd (fun _ => ?_)
      refine pk_bvy (fun μ10 ez6 => ?_)
      have z6 : Vz5 P μ μ10 := by rw [ez6]; exact z0.sF (vn_1 g_a0 hU.1)
      refine pk_bvy (fun v11 _ => ?_)
      exact pk_mono (ih a0 a1 v11 μ10 g_a0 z6.1) (fun _ hq => z6.tr hq)
theorem v_X3_begin {P : Nat} (a0 : Nat) (a1 : Int32) (μ : Mem) (g_a0 : Gq5 P a0) (hU : Vg5 P μ) : pk (p_X3_begin a0 a1 μ) (fun q => Vz5 P μ q) := by
  have z0 : Vz5 P μ μ := Vz5.rf hU
  rw [p_X3_begin_eq]
  refine pk_ite (fun _ => ?_) (fun _ => ?_)
  · exact pk_some z0
  · refine pk_ite (fun _ => ?_) (fun _ => ?_)
    · exact pk_some z0
    · refine pk_ite (fun _ => ?_) (fun _ => ?_)
      · exact pk_mono (v_X3_begin_b22 FUEL a0 a1 (0 : Int32) μ g_a0 z0.1) (fun _ hq => z0.tr hq)
      · exact pk_some z0
theorem v_X3_count_b35 {P : Nat} (a0 : Nat) (a1 : Int32) (μ : Mem) (g_a0 : Gq5 P a0) (hU : Vg5 P μ) : pk (p_X3_count_b35 a0 a1 μ) (fun q => Vz5 P μ q.2) := by
  have z0 : Vz5 P μ μ := Vz5.rf hU
  rw [p_X3_count_b35_eq]
  refine pk_bvy (fun v5 _ => ?_)
  refine pk_gd (fun _ => ?_)
  refine pk_gd (fun _ => ?_)
  refine pk_bvy (fun μ6 ez1 => ?_)
  have z1 : Vz5 P μ μ6 := by rw [ez1]; exact z0.sF (vn_1 g_a0 hU.1)
  refine pk_gd (fun _ => ?_)
  exact pk_some z1
theorem v_X3_count {P : Nat} (a0 : Nat) (a1 : Int32) (μ : Mem) (g_a0 : Gq5 P a0) (hU : Vg5 P μ) : pk (p_X3_count a0 a1 μ) (fun q => Vz5 P μ q.2) := by
  have z0 : Vz5 P μ μ := Vz5.rf hU
  rw [p_X3_count_eq]
  refine pk_ite (fun _ => ?_) (fun _ => ?_)
  · exact pk_some z0
  · refine pk_ite (fun _ => ?_) (fun _ => ?_)
    · exact pk_some z0
    · refine pk_ite (fun _ => ?_) (fun _ => ?_)
      · refine pk_ite (fun _ => ?_) (fun _ => ?_)
        · refine pk_bvy (fun μ7 ez1 => ?_)
          have z1 : Vz5 P μ μ7 := by rw [ez1]; exact z0.sF (vn_0 g_a0 hU.1)
          exact pk_mono (v_X3_count_b35 a0 a1 μ7 g_a0 z1.1) (fun _ hq => z1.tr hq)
        · exact pk_mono (v_X3_count_b35 a0 a1 μ g_a0 z0.1) (fun _ hq => z0.tr hq)
      · exact pk_some z0
theorem v_X4_readDigits_b50 {P : Nat} (a3 : Int32) (a4 : Int32) (μ : Mem)  (hU : Vg5 P μ) : pk (p_X4_readDigits_b50 a3 a4 μ) (fun q => Vz5 P μ q.2) := by
  have z0 : Vz5 P μ μ := Vz5.rf hU
  rw [p_X4_readDigits_b50_eq]
  refine pk_ite (fun _ => ?_) (fun _ => ?_)
  · refine pk_bw (v_X4_fail (μ.1 16 2) μ  z0.1) (fun μ3 ez1 => ?_)
    have z1 : Vz5 P μ μ3 := z0.tr ez1
    exact pk_some z1
  · exact pk_some z0
theorem v_X4_readDigits_b5 {P : Nat} : ∀ (n : Nat) (a2 : Int32) (a3 : Int32) (a4 : Int32) (μ : Mem), Vg5 P μ → pk (p_X4_readDigits_b5  n a2 a3 a4 μ) (fun q => Vz5 P μ q.2) := by
  intro n
  induction n with
  | zero => intro a2 a3 a4 μ  hU r e; rw [p_X4_readDigits_b5_z] at e; cases e
  | succ n ih =>
    intro a2 a3 a4 μ  hU
    have z0 : Vz5 P μ μ := Vz5.rf hU
    rw [p_X4_readDigits_b5_s]
    refine pk_ite (fun _ => ?_) (fun _ => ?_)
    · exact pk_mono (v_X4_readDigits_b50 a3 a4 μ  z0.1) (fun _ hq => z0.tr hq)
    · refine pk_bd (v_X4_here μ  z0.1) (fun r6 μ5 ez1 => ?_)
      have z1 : Vz5 P μ μ5 := z0.tr ez1
      refine pk_ite (fun _ => ?_) (fun _ => ?_)
      · exact pk_mono (v_X4_readDigits_b50 a3 a4 μ5  z1.1) (fun _ hq => z1.tr hq)
      · refine pk_bd (v_X4_here μ5  z1.1) (fun r9 μ8 ez2 => ?_)
        have z2 : Vz5 P μ μ8 := z1.tr ez2
        refine pk_bvy (fun v10 _ => ?_)
        refine pk_bvy (fun μ11 ez3 => ?_)
        have z3 : Vz5 P μ μ11 := by rw [ez3]; exact z2.sF (by unfold Pv5; omega)
        refine pk_bvy (fun v12 _ => ?_)
        exact pk_mono (ih a2 v10 v12 μ11  z3.1) (fun _ hq => z3.tr hq)
theorem v_X4_readDigits {P : Nat} (a1 : Int32) (a2 : Int32) (μ : Mem)  (hU : Vg5 P μ) : pk (p_X4_readDigits a1 a2 μ) (fun q => Vz5 P μ q.2) := by
  have z0 : Vz5 P μ μ := Vz5.rf hU
  rw [p_X4_readDigits_eq]
  exact pk_mono (v_X4_readDigits_b5 FUEL a2 a1 (0 : Int32) μ  z0.1) (fun _ hq => z0.tr hq)
theorem v_X4_readNumber_b52 {P : Nat} (a1 : Int32) (a2 : Int32) (μ : Mem)  (hU : Vg5 P μ) : pk (p_X4_readNumber_b52 a1 a2 μ) (fun q => Vz5 P μ q.2) := by
  have z0 : Vz5 P μ μ := Vz5.rf hU
  rw [p_X4_readNumber_b52_eq]
  refine pk_ite (fun _ => ?_) (fun _ => ?_)
  · exact pk_some z0
  · exact pk_some z0
theorem v_X4_readNumber_b128 {P : Nat} (a4 : Int32) (k0 : Int32) (k1 : Int32) (μ : Mem)  (hU : Vg5 P μ) : pk (p_X4_readNumber_b128 a4 k0 k1 μ) (fun q => Vz5 P μ q.2) := by
  have z0 : Vz5 P μ μ := Vz5.rf hU
  rw [p_X4_readNumber_b128_eq]
  refine pk_bvy (fun v20 _ => ?_)
  refine pk_bvy (fun v21 _ => ?_)
  exact pk_some z0
theorem v_X4_readNumber_b95 {P : Nat} : ∀ (n : Nat) (a1 : Int32) (a2 : Int32) (a4 : Int32) (a5 : Int32) (μ : Mem), Vg5 P μ → pk (p_X4_readNumber_b95  n a1 a2 a4 a5 μ) (fun q => Vz5 P μ q.2) := by
  intro n
  induction n with
  | zero => intro a1 a2 a4 a5 μ  hU r e; rw [p_X4_readNumber_b95_z] at e; cases e
  | succ n ih =>
    intro a1 a2 a4 a5 μ  hU
    have z0 : Vz5 P μ μ := Vz5.rf hU
    rw [p_X4_readNumber_b95_s]
    refine pk_ite (fun _ => ?_) (fun _ => ?_)
    · refine pk_ite (fun _ => ?_) (fun _ => ?_)
      · exact pk_mono (v_X4_readNumber_b128 a4 a2 (0 : Int32) μ  z0.1) (fun _ hq => z0.tr hq)
      · exact pk_mono (v_X4_readNumber_b128 a4 (-a2) (0 : Int32) μ  z0.1) (fun _ hq => z0.tr hq)
    · refine pk_bvy (fun v22 _ => ?_)
      refine pk_bvy (fun v23 _ => ?_)
      exact pk_mono (ih a1 a2 v22 v23 μ  z0.1) (fun _ hq => z0.tr hq)
theorem v_X4_readNumber_b29 {P : Nat} (a1 : Int32) (μ : Mem)  (hU : Vg5 P μ) : pk (p_X4_readNumber_b29 a1 μ) (fun q => Vz5 P μ q.2) := by
  have z0 : Vz5 P μ μ := Vz5.rf hU
  rw [p_X4_readNumber_b29_eq]
  refine pk_bd (v_X4_readDigits (0 : Int32) (5 : Int32) μ  z0.1) (fun r6 μ5 ez1 => ?_)
  have z1 : Vz5 P μ μ5 := z0.tr ez1
  refine pk_bd (v_X4_isWell μ5  z1.1) (fun r8 μ7 ez2 => ?_)
  have z2 : Vz5 P μ μ7 := z1.tr ez2
  refine pk_ite (fun _ => ?_) (fun _ => ?_)
  · exact pk_mono (v_X4_readNumber_b52 a1 r6 μ7  z2.1) (fun _ hq => z2.tr hq)
  · refine pk_bd (v_X4_here μ7  z2.1) (fun r12 μ11 ez3 => ?_)
    have z3 : Vz5 P μ μ11 := z2.tr ez3
    refine pk_ite (fun _ => ?_) (fun _ => ?_)
    · refine pk_bvy (fun μ14 ez4 => ?_)
      have z4 : Vz5 P μ μ14 := by rw [ez4]; exact z3.sF (by unfold Pv5; omega)
      refine pk_bvy (fun v15 _ => ?_)
      refine pk_bd (v_X4_readDigits r6 (3 : Int32) μ14  z4.1) (fun r17 μ16 ez5 => ?_)
      have z5 : Vz5 P μ μ16 := z4.tr ez5
      exact pk_mono (v_X4_readNumber_b95 FUEL a1 r17 (1 : Int32) v15 μ16  z5.1) (fun _ hq => z5.tr hq)
    · exact pk_mono (v_X4_readNumber_b52 a1 r6 μ11  z3.1) (fun _ hq => z3.tr hq)
theorem v_X4_readNumber_b14 {P : Nat} (k0 : Int32) (μ : Mem)  (hU : Vg5 P μ) : pk (p_X4_readNumber_b14 k0 μ) (fun q => Vz5 P μ q.2) := by
  have z0 : Vz5 P μ μ := Vz5.rf hU
  rw [p_X4_readNumber_b14_eq]
  refine pk_ite (fun _ => ?_) (fun _ => ?_)
  · exact pk_mono (v_X4_readNumber_b29 k0 μ  z0.1) (fun _ hq => z0.tr hq)
  · refine pk_bvy (fun μ24 ez1 => ?_)
    have z1 : Vz5 P μ μ24 := by rw [ez1]; exact z0.sF (by unfold Pv5; omega)
    exact pk_mono (v_X4_readNumber_b29 k0 μ24  z1.1) (fun _ hq => z1.tr hq)
theorem v_X4_readNumber {P : Nat} (μ : Mem)  (hU : Vg5 P μ) : pk (p_X4_readNumber μ) (fun q => Vz5 P μ q.2) := by
  have z0 : Vz5 P μ μ := Vz5.rf hU
  rw [p_X4_readNumber_eq]
  refine pk_bd (v_X4_here μ  z0.1) (fun r2 μ1 ez1 => ?_)
  have z1 : Vz5 P μ μ1 := z0.tr ez1
  refine pk_ite (fun _ => ?_) (fun _ => ?_)
  · exact pk_mono (v_X4_readNumber_b14 (1 : Int32) μ1  z1.1) (fun _ hq => z1.tr hq)
  · exact pk_mono (v_X4_readNumber_b14 (0 : Int32) μ1  z1.1) (fun _ hq => z1.tr hq)
theorem v_X3_add {P : Nat} (a0 : Nat) (a1 : Int32) (a2 : Int32) (a3 : Int32) (μ : Mem) (g_a0 : Gq5 P a0) (hU : Vg5 P μ) : pk (p_X3_add a0 a1 a2 a3 μ) (fun q => Vz5 P μ q.2) := by
  have z0 : Vz5 P μ μ := Vz5.rf hU
  rw [p_X3_add_eq]
  refine pk_ite (fun _ => ?_) (fun _ => ?_)
  · refine pk_gd (fun _ => ?_)
    refine pk_bvy (fun μ2 ez1 => ?_)
    have z1 : Vz5 P μ μ2 := by rw [ez1]; exact z0.sF (vn_4 g_a0 hU.1)
    refine pk_gd (fun _ => ?_)
    refine pk_bvy (fun μ3 ez2 => ?_)
    have z2 : Vz5 P μ μ3 := by rw [ez2]; exact z1.sF (vn_5 g_a0 hU.1)
    refine pk_gd (fun _ => ?_)
    refine pk_bvy (fun μ4 ez3 => ?_)
    have z3 : Vz5 P μ μ4 := by rw [ez3]; exact z2.sF (vn_6 g_a0 hU.1)
    refine pk_bvy (fun μ5 ez4 => ?_)
    have z4 : Vz5 P μ μ5 := by rw [ez4]; exact z3.sF (vn_0 g_a0 hU.1)
    exact pk_some z4
  · exact pk_some z0
theorem v_X4_readVar {P : Nat} (a1 : Int32) (μ : Mem)  (hU : Vg5 P μ) : pk (p_X4_readVar a1 μ) (fun q => Vz5 P μ q) := by
  have z0 : Vz5 P μ μ := Vz5.rf hU
  rw [p_X4_readVar_eq]
  refine pk_bd (v_X4_slotOf a1 μ  z0.1) (fun r2 μ1 ez1 => ?_)
  have z1 : Vz5 P μ μ1 := z0.tr ez1
  refine pk_ite (fun _ => ?_) (fun _ => ?_)
  · refine pk_bw (v_X4_fail (μ1.1 16 2) μ1  z1.1) (fun μ7 ez2 => ?_)
    have z2 : Vz5 P μ μ7 := z1.tr ez2
    exact pk_some z2
  · refine pk_bvy (fun μ4 ez3 => ?_)
    have z3 : Vz5 P μ μ4 := by rw [ez3]; exact z1.sF (by unfold Pv5; omega)
    refine pk_bd (v_X3_add (sel 2 (μ4.2.2 16 4)) (1 : Int32) r2 (0 : Int32) μ4 z3.1.2 z3.1) (fun r6 μ5 ez4 => ?_)
    have z4 : Vz5 P μ μ5 := z3.tr ez4
    exact pk_some z4
theorem v_X4_readCall_b97 {P : Nat} (RE : Int32 → Mem → Option Mem) (hRE : ∀ (y0 : Int32) (y1 : Mem), Vg5 P y1 → pk (RE y0 y1) (fun q => Vz5 P y1 q)) (a1 : Int32) (a3 : Int32) (μ : Mem)  (hU : Vg5 P μ) : pk (p_X4_readCall_b97 RE a1 a3 μ) (fun q => Vz5 P μ q) := by
  have z0 : Vz5 P μ μ := Vz5.rf hU
  rw [p_X4_readCall_b97_eq]
  refine pk_bd (v_X4_take (41 : Int32) μ  z0.1) (fun r10 μ9 ez1 => ?_)
  have z1 : Vz5 P μ μ9 := z0.tr ez1
  refine pk_bd (v_X3_add (sel 2 (μ9.2.2 16 4)) (13 : Int32) (((a1 - (97 : Int32)) * (6 : Int32)) + a3) a3 μ9 z1.1.2 z1.1) (fun r12 μ11 ez2 => ?_)
  have z2 : Vz5 P μ μ11 := z1.tr ez2
  exact pk_some z2
theorem v_X4_readCall_b53 {P : Nat} (RE : Int32 → Mem → Option Mem) (hRE : ∀ (y0 : Int32) (y1 : Mem), Vg5 P y1 → pk (RE y0 y1) (fun q => Vz5 P y1 q)) : ∀ (n : Nat) (a1 : Int32) (a2 : Int32) (a3 : Int32) (μ : Mem), Vg5 P μ → pk (p_X4_readCall_b53 RE n a1 a2 a3 μ) (fun q => Vz5 P μ q) := by
  intro n
  induction n with
  | zero => intro a1 a2 a3 μ  hU r e; rw [p_X4_readCall_b53_z] at e; cases e
  | succ n ih =>
    intro a1 a2 a3 μ  hU
    have z0 : Vz5 P μ μ := Vz5.rf hU
    rw [p_X4_readCall_b53_s]
    refine pk_bd (v_X4_isWell μ  z0.1) (fun r19 μ18 ez1 => ?_)
    have z1 : Vz5 P μ μ18 := z0.tr ez1
    refine pk_ite (fun _ => ?_) (fun _ => ?_)
    · exact pk_mono (v_X4_readCall_b97 RE hRE a1 a3 μ18  z1.1) (fun _ hq => z1.tr hq)
    · refine pk_bd (v_X4_here μ18  z1.1) (fun r22 μ21 ez2 => ?_)
      have z2 : Vz5 P μ μ21 := z1.tr ez2
      refine pk_ite (fun _ => ?_) (fun _ => ?_)
      · refine pk_ite (fun _ => ?_) (fun _ => ?_)
        · exact pk_mono (v_X4_readCall_b97 RE hRE a1 a3 μ21  z2.1) (fun _ hq => z2.tr hq)
        · refine pk_bvy (fun μ25 ez3 => ?_)
          have z3 : Vz5 P μ μ25 := by rw [ez3]; exact z2.sF (by unfold Pv5; omega)
          refine pk_bw (hRE (a2 + (1 : Int32)) μ25  z3.1) (fun μ26 ez4 => ?_)
          have z4 : Vz5 P μ μ26 := z3.tr ez4
          refine pk_bvy (fun v28 _ => ?_)
          exact pk_mono (ih a1 a2 v28 μ26  z4.1) (fun _ hq => z4.tr hq)
      · exact pk_mono (v_X4_readCall_b97 RE hRE a1 a3 μ21  z2.1) (fun _ hq => z2.tr hq)
theorem v_X4_readCall {P : Nat} (RE : Int32 → Mem → Option Mem) (hRE : ∀ (y0 : Int32) (y1 : Mem), Vg5 P y1 → pk (RE y0 y1) (fun q => Vz5 P y1 q)) (a1 : Int32) (a2 : Int32) (μ : Mem)  (hU : Vg5 P μ) : pk (p_X4_readCall RE a1 a2 μ) (fun q => Vz5 P μ q) := by
  have z0 : Vz5 P μ μ := Vz5.rf hU
  rw [p_X4_readCall_eq]
  refine pk_bvy (fun μ1 ez1 => ?_)
  have z1 : Vz5 P μ μ1 := by rw [ez1]; exact z0.sF (by unfold Pv5; omega)
  refine pk_bd (v_X3_count (sel 2 (μ1.2.2 16 4)) (3 : Int32) μ1 z1.1.2 z1.1) (fun r3 μ2 ez2 => ?_)
  have z2 : Vz5 P μ μ2 := z1.tr ez2
  refine pk_bd (v_X4_take (40 : Int32) μ2  z2.1) (fun r5 μ4 ez3 => ?_)
  have z3 : Vz5 P μ μ4 := z2.tr ez3
  refine pk_bd (v_X4_isWell μ4  z3.1) (fun r7 μ6 ez4 => ?_)
  have z4 : Vz5 P μ μ6 := z3.tr ez4
  refine pk_ite (fun _ => ?_) (fun _ => ?_)
  · exact pk_mono (v_X4_readCall_b97 RE hRE a1 (0 : Int32) μ6  z4.1) (fun _ hq => z4.tr hq)
  · refine pk_bd (v_X4_here μ6  z4.1) (fun r14 μ13 ez5 => ?_)
    have z5 : Vz5 P μ μ13 := z4.tr ez5
    refine pk_ite (fun _ => ?_) (fun _ => ?_)
    · exact pk_mono (v_X4_readCall_b97 RE hRE a1 (0 : Int32) μ13  z5.1) (fun _ hq => z5.tr hq)
    · refine pk_bw (hRE (a2 + (1 : Int32)) μ13  z5.1) (fun μ16 ez6 => ?_)
      have z6 : Vz5 P μ μ16 := z5.tr ez6
      exact pk_mono (v_X4_readCall_b53 RE hRE FUEL a1 a2 (1 : Int32) μ16  z6.1) (fun _ hq => z6.tr hq)
theorem v_X4_readReckoned {P : Nat} (RE : Int32 → Mem → Option Mem) (hRE : ∀ (y0 : Int32) (y1 : Mem), Vg5 P y1 → pk (RE y0 y1) (fun q => Vz5 P y1 q)) (a1 : Int32) (μ : Mem)  (hU : Vg5 P μ) : pk (p_X4_readReckoned RE a1 μ) (fun q => Vz5 P μ q) := by
  have z0 : Vz5 P μ μ := Vz5.rf hU
  rw [p_X4_readReckoned_eq]
  refine pk_bw (hRE (a1 + (1 : Int32)) μ  z0.1) (fun μ1 ez1 => ?_)
  have z1 : Vz5 P μ μ1 := z0.tr ez1
  refine pk_bd (v_X4_isWell μ1  z1.1) (fun r4 μ3 ez2 => ?_)
  have z2 : Vz5 P μ μ3 := z1.tr ez2
  refine pk_ite (fun _ => ?_) (fun _ => ?_)
  · exact pk_some z2
  · refine pk_bd (v_X4_here μ3  z2.1) (fun r7 μ6 ez3 => ?_)
    have z3 : Vz5 P μ μ6 := z2.tr ez3
    refine pk_ite (fun _ => ?_) (fun _ => ?_)
    · refine pk_bw (v_X4_fail (μ6.1 16 2) μ6  z3.1) (fun μ16 ez4 => ?_)
      have z4 : Vz5 P μ μ16 := z3.tr ez4
      exact pk_some z4
    · refine pk_bvy (fun μ9 ez5 => ?_)
      have z5 : Vz5 P μ μ9 := by rw [ez5]; exact z3.sF (by unfold Pv5; omega)
      refine pk_bw (hRE (a1 + (1 : Int32)) μ9  z5.1) (fun μ10 ez6 => ?_)
      have z6 : Vz5 P μ μ10 := z5.tr ez6
      refine pk_bd (v_X4_take (41 : Int32) μ10  z6.1) (fun r13 μ12 ez7 => ?_)
      have z7 : Vz5 P μ μ12 := z6.tr ez7
      refine pk_bd (v_X3_add (sel 2 (μ12.2.2 16 4)) (2 : Int32) r7 (0 : Int32) μ12 z7.1.2 z7.1) (fun r15 μ14 ez8 => ?_)
      have z8 : Vz5 P μ μ14 := z7.tr ez8
      exact pk_some z8
theorem v_X4_readTwo {P : Nat} (RE : Int32 → Mem → Option Mem) (hRE : ∀ (y0 : Int32) (y1 : Mem), Vg5 P y1 → pk (RE y0 y1) (fun q => Vz5 P y1 q)) (a1 : Int32) (a2 : Int32) (μ : Mem)  (hU : Vg5 P μ) : pk (p_X4_readTwo RE a1 a2 μ) (fun q => Vz5 P μ q) := by
  have z0 : Vz5 P μ μ := Vz5.rf hU
  rw [p_X4_readTwo_eq]
  refine pk_bw (hRE (a1 + (1 : Int32)) μ  z0.1) (fun μ1 ez1 => ?_)
  have z1 : Vz5 P μ μ1 := z0.tr ez1
  refine pk_bd (v_X4_take (44 : Int32) μ1  z1.1) (fun r4 μ3 ez2 => ?_)
  have z2 : Vz5 P μ μ3 := z1.tr ez2
  refine pk_bw (hRE (a1 + (1 : Int32)) μ3  z2.1) (fun μ5 ez3 => ?_)
  have z3 : Vz5 P μ μ5 := z2.tr ez3
  refine pk_bd (v_X4_take a2 μ5  z3.1) (fun r8 μ7 ez4 => ?_)
  have z4 : Vz5 P μ μ7 := z3.tr ez4
  exact pk_some z4
theorem v_X3_leadHere {P : Nat} (a0 : Nat) (a1 : Int32) (μ : Mem) (g_a0 : Gq5 P a0) (hU : Vg5 P μ) : pk (p_X3_leadHere a0 a1 μ) (fun q => Vz5 P μ q) := by
  have z0 : Vz5 P μ μ := Vz5.rf hU
  rw [p_X3_leadHere_eq]
  refine pk_ite (fun _ => ?_) (fun _ => ?_)
  · exact pk_some z0
  · refine pk_ite (fun _ => ?_) (fun _ => ?_)
    · exact pk_some z0
    · refine pk_gd (fun _ => ?_)
      refine pk_bvy (fun μ3 ez1 => ?_)
      have z1 : Vz5 P μ μ3 := by rw [ez1]; exact z0.sF (vn_5 g_a0 hU.1)
      exact pk_some z1
theorem v_X4_readChoice {P : Nat} (RE : Int32 → Mem → Option Mem) (hRE : ∀ (y0 : Int32) (y1 : Mem), Vg5 P y1 → pk (RE y0 y1) (fun q => Vz5 P y1 q)) (a1 : Int32) (μ : Mem)  (hU : Vg5 P μ) : pk (p_X4_readChoice RE a1 μ) (fun q => Vz5 P μ q) := by
  have z0 : Vz5 P μ μ := Vz5.rf hU
  rw [p_X4_readChoice_eq]
  refine pk_bd (v_X4_take (40 : Int32) μ  z0.1) (fun r2 μ1 ez1 => ?_)
  have z1 : Vz5 P μ μ1 := z0.tr ez1
  refine pk_bw (hRE (a1 + (1 : Int32)) μ1  z1.1) (fun μ3 ez2 => ?_)
  have z2 : Vz5 P μ μ3 := z1.tr ez2
  refine pk_bd (v_X4_take (44 : Int32) μ3  z2.1) (fun r6 μ5 ez3 => ?_)
  have z3 : Vz5 P μ μ5 := z2.tr ez3
  refine pk_bd (v_X3_add (sel 2 (μ5.2.2 16 4)) (6 : Int32) (0 : Int32) (0 : Int32) μ5 z3.1.2 z3.1) (fun r8 μ7 ez4 => ?_)
  have z4 : Vz5 P μ μ7 := z3.tr ez4
  refine pk_bw (hRE (a1 + (1 : Int32)) μ7  z4.1) (fun μ9 ez5 => ?_)
  have z5 : Vz5 P μ μ9 := z4.tr ez5
  refine pk_bd (v_X4_take (44 : Int32) μ9  z5.1) (fun r12 μ11 ez6 => ?_)
  have z6 : Vz5 P μ μ11 := z5.tr ez6
  refine pk_bd (v_X3_add (sel 2 (μ11.2.2 16 4)) (7 : Int32) (0 : Int32) (0 : Int32) μ11 z6.1.2 z6.1) (fun r14 μ13 ez7 => ?_)
  have z7 : Vz5 P μ μ13 := z6.tr ez7
  refine pk_bw (v_X3_leadHere (sel 2 (μ13.2.2 16 4)) r8 μ13 z7.1.2 z7.1) (fun μ15 ez8 => ?_)
  have z8 : Vz5 P μ μ15 := z7.tr ez8
  refine pk_bw (hRE (a1 + (1 : Int32)) μ15  z8.1) (fun μ17 ez9 => ?_)
  have z9 : Vz5 P μ μ17 := z8.tr ez9
  refine pk_bd (v_X4_take (41 : Int32) μ17  z9.1) (fun r20 μ19 ez10 => ?_)
  have z10 : Vz5 P μ μ19 := z9.tr ez10
  refine pk_bd (v_X3_add (sel 2 (μ19.2.2 16 4)) (8 : Int32) (0 : Int32) (0 : Int32) μ19 z10.1.2 z10.1) (fun r22 μ21 ez11 => ?_)
  have z11 : Vz5 P μ μ21 := z10.tr ez11
  refine pk_bw (v_X3_leadHere (sel 2 (μ21.2.2 16 4)) r14 μ21 z11.1.2 z11.1) (fun μ23 ez12 => ?_)
  have z12 : Vz5 P μ μ23 := z11.tr ez12
  exact pk_some z12
theorem v_X4_readPlace {P : Nat} (RE : Int32 → Mem → Option Mem) (hRE : ∀ (y0 : Int32) (y1 : Mem), Vg5 P y1 → pk (RE y0 y1) (fun q => Vz5 P y1 q)) (a1 : Int32) (a2 : Int32) (μ : Mem)  (hU : Vg5 P μ) : pk (p_X4_readPlace RE a1 a2 μ) (fun q => Vz5 P μ q) := by
  have z0 : Vz5 P μ μ := Vz5.rf hU
  rw [p_X4_readPlace_eq]
  refine pk_bd (v_X4_here μ  z0.1) (fun r2 μ1 ez1 => ?_)
  have z1 : Vz5 P μ μ1 := z0.tr ez1
  refine pk_bvy (fun v3 _ => ?_)
  refine pk_ite (fun _ => ?_) (fun _ => ?_)
  · refine pk_bw (v_X4_fail (μ1.1 16 2) μ1  z1.1) (fun μ5 ez2 => ?_)
    have z2 : Vz5 P μ μ5 := z1.tr ez2
    exact pk_some z2
  · refine pk_ite (fun _ => ?_) (fun _ => ?_)
    · refine pk_bvy (fun μ8 ez3 => ?_)
      have z3 : Vz5 P μ μ8 := by rw [ez3]; exact z1.sF (by unfold Pv5; omega)
      refine pk_bd (v_X3_count (sel 2 (μ8.2.2 16 4)) (5 : Int32) μ8 z3.1.2 z3.1) (fun r10 μ9 ez4 => ?_)
      have z4 : Vz5 P μ μ9 := z3.tr ez4
      refine pk_ite (fun _ => ?_) (fun _ => ?_)
      · refine pk_bd (v_X3_add (sel 2 (μ9.2.2 16 4)) (11 : Int32) v3 (0 : Int32) μ9 z4.1.2 z4.1) (fun r17 μ16 ez5 => ?_)
        have z5 : Vz5 P μ μ16 := z4.tr ez5
        exact pk_some z5
      · refine pk_bw (hRE (a2 + (1 : Int32)) μ9  z4.1) (fun μ12 ez6 => ?_)
        have z6 : Vz5 P μ μ12 := z4.tr ez6
        refine pk_bd (v_X3_add (sel 2 (μ12.2.2 16 4)) (10 : Int32) v3 (0 : Int32) μ12 z6.1.2 z6.1) (fun r15 μ14 ez7 => ?_)
        have z7 : Vz5 P μ μ14 := z6.tr ez7
        exact pk_some z7
    · refine pk_bw (v_X4_fail (μ1.1 16 2) μ1  z1.1) (fun μ18 ez8 => ?_)
      have z8 : Vz5 P μ μ18 := z1.tr ez8
      exact pk_some z8
theorem v_X4_readNaming {P : Nat} (RE : Int32 → Mem → Option Mem) (hRE : ∀ (y0 : Int32) (y1 : Mem), Vg5 P y1 → pk (RE y0 y1) (fun q => Vz5 P y1 q)) (a1 : Int32) (μ : Mem)  (hU : Vg5 P μ) : pk (p_X4_readNaming RE a1 μ) (fun q => Vz5 P μ q) := by
  have z0 : Vz5 P μ μ := Vz5.rf hU
  rw [p_X4_readNaming_eq]
  refine pk_bd (v_X4_here μ  z0.1) (fun r2 μ1 ez1 => ?_)
  have z1 : Vz5 P μ μ1 := z0.tr ez1
  refine pk_ite (fun _ => ?_) (fun _ => ?_)
  · refine pk_bw (v_X4_fail (μ1.1 16 2) μ1  z1.1) (fun μ19 ez2 => ?_)
    have z2 : Vz5 P μ μ19 := z1.tr ez2
    exact pk_some z2
  · refine pk_bvy (fun μ4 ez3 => ?_)
    have z3 : Vz5 P μ μ4 := by rw [ez3]; exact z1.sF (by unfold Pv5; omega)
    refine pk_bd (v_X4_take (61 : Int32) μ4  z3.1) (fun r6 μ5 ez4 => ?_)
    have z4 : Vz5 P μ μ5 := z3.tr ez4
    refine pk_bw (hRE (a1 + (1 : Int32)) μ5  z4.1) (fun μ7 ez5 => ?_)
    have z5 : Vz5 P μ μ7 := z4.tr ez5
    refine pk_bd (v_X4_take (44 : Int32) μ7  z5.1) (fun r10 μ9 ez6 => ?_)
    have z6 : Vz5 P μ μ9 := z5.tr ez6
    refine pk_bd (v_X3_add (sel 2 (μ9.2.2 16 4)) (12 : Int32) (μ9.1 16 6) (0 : Int32) μ9 z6.1.2 z6.1) (fun r12 μ11 ez7 => ?_)
    have z7 : Vz5 P μ μ11 := z6.tr ez7
    refine pk_bvy (fun v13 _ => ?_)
    refine pk_bw (v_X4_nameOne r2 μ11  z7.1) (fun μ14 ez8 => ?_)
    have z8 : Vz5 P μ μ14 := z7.tr ez8
    refine pk_bw (hRE (a1 + (1 : Int32)) μ14  z8.1) (fun μ16 ez9 => ?_)
    have z9 : Vz5 P μ μ16 := z8.tr ez9
    refine pk_bvy (fun μ18 ez10 => ?_)
    have z10 : Vz5 P μ μ18 := by rw [ez10]; exact z9.sF (by unfold Pv5; omega)
    exact pk_some z10
theorem v_X4_readSigned {P : Nat} (RE : Int32 → Mem → Option Mem) (hRE : ∀ (y0 : Int32) (y1 : Mem), Vg5 P y1 → pk (RE y0 y1) (fun q => Vz5 P y1 q)) (a1 : Int32) (a2 : Int32) (μ : Mem)  (hU : Vg5 P μ) : pk (p_X4_readSigned RE a1 a2 μ) (fun q => Vz5 P μ q) := by
  have z0 : Vz5 P μ μ := Vz5.rf hU
  rw [p_X4_readSigned_eq]
  refine pk_bvy (fun v1 _ => ?_)
  refine pk_bvy (fun μ2 ez1 => ?_)
  have z1 : Vz5 P μ μ2 := by rw [ez1]; exact z0.sF (by unfold Pv5; omega)
  refine pk_ite (fun _ => ?_) (fun _ => ?_)
  · refine pk_bd (v_X3_count (sel 2 (μ2.2.2 16 4)) (4 : Int32) μ2 z1.1.2 z1.1) (fun r6 μ5 ez2 => ?_)
    have z2 : Vz5 P μ μ5 := z1.tr ez2
    refine pk_bw (hRE (a2 + (1 : Int32)) μ5  z2.1) (fun μ7 ez3 => ?_)
    have z3 : Vz5 P μ μ7 := z2.tr ez3
    refine pk_bd (v_X3_add (sel 2 (μ7.2.2 16 4)) (9 : Int32) (0 : Int32) (0 : Int32) μ7 z3.1.2 z3.1) (fun r10 μ9 ez4 => ?_)
    have z4 : Vz5 P μ μ9 := z3.tr ez4
    exact pk_some z4
  · refine pk_ite (fun _ => ?_) (fun _ => ?_)
    · refine pk_bw (hRE (a2 + (1 : Int32)) μ2  z1.1) (fun μ12 ez5 => ?_)
      have z5 : Vz5 P μ μ12 := z1.tr ez5
      refine pk_bd (v_X3_add (sel 2 (μ12.2.2 16 4)) (3 : Int32) a1 (0 : Int32) μ12 z5.1.2 z5.1) (fun r15 μ14 ez6 => ?_)
      have z6 : Vz5 P μ μ14 := z5.tr ez6
      exact pk_some z6
    · refine pk_ite (fun _ => ?_) (fun _ => ?_)
      · refine pk_bw (hRE (a2 + (1 : Int32)) μ2  z1.1) (fun μ17 ez7 => ?_)
        have z7 : Vz5 P μ μ17 := z1.tr ez7
        refine pk_bd (v_X3_add (sel 2 (μ17.2.2 16 4)) (3 : Int32) a1 (0 : Int32) μ17 z7.1.2 z7.1) (fun r20 μ19 ez8 => ?_)
        have z8 : Vz5 P μ μ19 := z7.tr ez8
        exact pk_some z8
      · refine pk_ite (fun _ => ?_) (fun _ => ?_)
        · refine pk_bw (v_X4_readPlace RE hRE a1 a2 μ2  z1.1) (fun μ22 ez9 => ?_)
          have z9 : Vz5 P μ μ22 := z1.tr ez9
          exact pk_some z9
        · refine pk_ite (fun _ => ?_) (fun _ => ?_)
          · refine pk_bw (v_X4_readReckoned RE hRE a2 μ2  z1.1) (fun μ25 ez10 => ?_)
            have z10 : Vz5 P μ μ25 := z1.tr ez10
            exact pk_some z10
          · refine pk_ite (fun _ => ?_) (fun _ => ?_)
            · refine pk_bw (v_X4_readNaming RE hRE a2 μ2  z1.1) (fun μ28 ez11 => ?_)
              have z11 : Vz5 P μ μ28 := z1.tr ez11
              exact pk_some z11
            · refine pk_ite (fun _ => ?_) (fun _ => ?_)
              · refine pk_bw (v_X4_readChoice RE hRE a2 μ2  z1.1) (fun μ31 ez12 => ?_)
                have z12 : Vz5 P μ μ31 := z1.tr ez12
                exact pk_some z12
              · refine pk_ite (fun _ => ?_) (fun _ => ?_)
                · refine pk_bw (hRE (a2 + (1 : Int32)) μ2  z1.1) (fun μ34 ez13 => ?_)
                  have z13 : Vz5 P μ μ34 := z1.tr ez13
                  refine pk_bd (v_X3_add (sel 2 (μ34.2.2 16 4)) (4 : Int32) a1 (0 : Int32) μ34 z13.1.2 z13.1) (fun r37 μ36 ez14 => ?_)
                  have z14 : Vz5 P μ μ36 := z13.tr ez14
                  exact pk_some z14
                · refine pk_ite (fun _ => ?_) (fun _ => ?_)
                  · refine pk_bw (v_X4_readTwo RE hRE a2 (93 : Int32) μ2  z1.1) (fun μ39 ez15 => ?_)
                    have z15 : Vz5 P μ μ39 := z1.tr ez15
                    refine pk_bd (v_X3_add (sel 2 (μ39.2.2 16 4)) (5 : Int32) (0 : Int32) (0 : Int32) μ39 z15.1.2 z15.1) (fun r42 μ41 ez16 => ?_)
                    have z16 : Vz5 P μ μ41 := z15.tr ez16
                    exact pk_some z16
                  · refine pk_ite (fun _ => ?_) (fun _ => ?_)
                    · refine pk_bw (hRE (a2 + (1 : Int32)) μ2  z1.1) (fun μ44 ez17 => ?_)
                      have z17 : Vz5 P μ μ44 := z1.tr ez17
                      refine pk_bd (v_X3_add (sel 2 (μ44.2.2 16 4)) (3 : Int32) a1 (0 : Int32) μ44 z17.1.2 z17.1) (fun r47 μ46 ez18 => ?_)
                      have z18 : Vz5 P μ μ46 := z17.tr ez18
                      exact pk_some z18
                    · refine pk_ite (fun _ => ?_) (fun _ => ?_)
                      · refine pk_bw (v_X4_readPlace RE hRE a1 a2 μ2  z1.1) (fun μ49 ez19 => ?_)
                        have z19 : Vz5 P μ μ49 := z1.tr ez19
                        exact pk_some z19
                      · refine pk_ite (fun _ => ?_) (fun _ => ?_)
                        · refine pk_bw (hRE (a2 + (1 : Int32)) μ2  z1.1) (fun μ52 ez20 => ?_)
                          have z20 : Vz5 P μ μ52 := z1.tr ez20
                          refine pk_bd (v_X3_add (sel 2 (μ52.2.2 16 4)) (4 : Int32) a1 (0 : Int32) μ52 z20.1.2 z20.1) (fun r55 μ54 ez21 => ?_)
                          have z21 : Vz5 P μ μ54 := z20.tr ez21
                          exact pk_some z21
                        · refine pk_bw (v_X4_fail v1 μ2  z1.1) (fun μ56 ez22 => ?_)
                          have z22 : Vz5 P μ μ56 := z1.tr ez22
                          exact pk_some z22
theorem v_X4_readExpression {P : Nat} (RE : Int32 → Mem → Option Mem) (hRE : ∀ (y0 : Int32) (y1 : Mem), Vg5 P y1 → pk (RE y0 y1) (fun q => Vz5 P y1 q)) (a1 : Int32) (μ : Mem)  (hU : Vg5 P μ) : pk (p_X4_readExpression RE a1 μ) (fun q => Vz5 P μ q) := by
  have z0 : Vz5 P μ μ := Vz5.rf hU
  rw [p_X4_readExpression_eq]
  refine pk_bd (v_X4_isWell μ  z0.1) (fun r2 μ1 ez1 => ?_)
  have z1 : Vz5 P μ μ1 := z0.tr ez1
  refine pk_ite (fun _ => ?_) (fun _ => ?_)
  · exact pk_some z1
  · refine pk_bd (v_X4_here μ1  z1.1) (fun r5 μ4 ez2 => ?_)
    have z2 : Vz5 P μ μ4 := z1.tr ez2
    refine pk_ite (fun _ => ?_) (fun _ => ?_)
    · refine pk_bw (v_X4_fail (μ4.1 16 2) μ4  z2.1) (fun μ7 ez3 => ?_)
      have z3 : Vz5 P μ μ7 := z2.tr ez3
      exact pk_some z3
    · refine pk_bd (v_X3_count (sel 2 (μ4.2.2 16 4)) (2 : Int32) μ4 z2.1.2 z2.1) (fun r10 μ9 ez4 => ?_)
      have z4 : Vz5 P μ μ9 := z2.tr ez4
      refine pk_ite (fun _ => ?_) (fun _ => ?_)
      · refine pk_ite (fun _ => ?_) (fun _ => ?_)
        · refine pk_ite (fun _ => ?_) (fun _ => ?_)
          · refine pk_ite (fun _ => ?_) (fun _ => ?_)
            · refine pk_bw (v_X4_readSigned RE hRE r5 a1 μ9  z4.1) (fun μ15 ez5 => ?_)
              have z5 : Vz5 P μ μ15 := z4.tr ez5
              exact pk_some z5
            · refine pk_bw (v_X4_readCall RE hRE r5 a1 μ9  z4.1) (fun μ17 ez6 => ?_)
              have z6 : Vz5 P μ μ17 := z4.tr ez6
              exact pk_some z6
          · refine pk_bw (v_X4_readVar r5 μ9  z4.1) (fun μ19 ez7 => ?_)
            have z7 : Vz5 P μ μ19 := z4.tr ez7
            exact pk_some z7
        · refine pk_bd (v_X4_readNumber μ9  z4.1) (fun r22 μ21 ez8 => ?_)
          have z8 : Vz5 P μ μ21 := z4.tr ez8
          refine pk_bd (v_X3_add (sel 2 (μ21.2.2 16 4)) (0 : Int32) (s_X0_kind r22) (s_X0_bits r22) μ21 z8.1.2 z8.1) (fun r24 μ23 ez9 => ?_)
          have z9 : Vz5 P μ μ23 := z8.tr ez9
          exact pk_some z9
      · refine pk_bw (v_X4_fail (μ9.1 16 2) μ9  z4.1) (fun μ25 ez10 => ?_)
        have z10 : Vz5 P μ μ25 := z4.tr ez10
        exact pk_some z10
theorem vr_X4_readExpression {P : Nat} : ∀ (n : Nat) (a1 : Int32) (μ : Mem), Vg5 P μ → pk (pr_X4_readExpression n a1 μ) (fun q => Vz5 P μ q) := by
  intro n
  induction n with
  | zero => intro a1 μ  hU r e; rw [pr_X4_readExpression_z] at e; cases e
  | succ n ih =>
    intro a1 μ  hU
    rw [pr_X4_readExpression_s]
    exact v_X4_readExpression _ ih a1 μ  hU
theorem v_X4_readFunction_b106 {P : Nat} (a3 : Int32) (μ : Mem)  (hU : Vg5 P μ) : pk (p_X4_readFunction_b106 a3 μ) (fun q => Vz5 P μ q) := by
  have z0 : Vz5 P μ μ := Vz5.rf hU
  rw [p_X4_readFunction_b106_eq]
  refine pk_bd (v_X4_take (61 : Int32) μ  z0.1) (fun r21 μ20 ez1 => ?_)
  have z1 : Vz5 P μ μ20 := z0.tr ez1
  refine pk_ite (fun _ => ?_) (fun _ => ?_)
  · exact pk_some z1
  · refine pk_bw (v_X3_begin (sel 2 (μ20.2.2 16 4)) a3 μ20 z1.1.2 z1.1) (fun μ23 ez2 => ?_)
    have z2 : Vz5 P μ μ23 := z1.tr ez2
    refine pk_bw (vr_X4_readExpression 50 (0 : Int32) μ23  z2.1) (fun μ25 ez3 => ?_)
    have z3 : Vz5 P μ μ25 := z2.tr ez3
    refine pk_bd (v_X4_take (59 : Int32) μ25  z3.1) (fun r28 μ27 ez4 => ?_)
    have z4 : Vz5 P μ μ27 := z3.tr ez4
    refine pk_bd (v_X3_add (sel 2 (μ27.2.2 16 4)) (14 : Int32) (0 : Int32) (0 : Int32) μ27 z4.1.2 z4.1) (fun r30 μ29 ez5 => ?_)
    have z5 : Vz5 P μ μ29 := z4.tr ez5
    exact pk_some z5
theorem v_X4_readFunction {P : Nat} (μ : Mem)  (hU : Vg5 P μ) : pk (p_X4_readFunction μ) (fun q => Vz5 P μ q) := by
  have z0 : Vz5 P μ μ := Vz5.rf hU
  rw [p_X4_readFunction_eq]
  refine pk_bvy (fun v1 _ => ?_)
  refine pk_bd (v_X4_here μ  z0.1) (fun r3 μ2 ez1 => ?_)
  have z1 : Vz5 P μ μ2 := z0.tr ez1
  refine pk_ite (fun _ => ?_) (fun _ => ?_)
  · refine pk_bw (v_X4_fail (μ2.1 16 2) μ2  z1.1) (fun μ36 ez2 => ?_)
    have z2 : Vz5 P μ μ36 := z1.tr ez2
    exact pk_some z2
  · refine pk_bvy (fun μ5 ez3 => ?_)
    have z3 : Vz5 P μ μ5 := by rw [ez3]; exact z1.sF (by unfold Pv5; omega)
    refine pk_bvy (fun μ6 ez4 => ?_)
    have z4 : Vz5 P μ μ6 := by rw [ez4]; exact z3.sF (by unfold Pv5; omega)
    refine pk_bd (v_X4_take (40 : Int32) μ6  z4.1) (fun r8 μ7 ez5 => ?_)
    have z5 : Vz5 P μ μ7 := z4.tr ez5
    refine pk_bw (v_X4_readNames μ7  z5.1) (fun μ9 ez6 => ?_)
    have z6 : Vz5 P μ μ9 := z5.tr ez6
    refine pk_bd (v_X4_take (41 : Int32) μ9  z6.1) (fun r12 μ11 ez7 => ?_)
    have z7 : Vz5 P μ μ11 := z6.tr ez7
    refine pk_bd (v_X4_isWell μ11  z7.1) (fun r14 μ13 ez8 => ?_)
    have z8 : Vz5 P μ μ13 := z7.tr ez8
    refine pk_ite (fun _ => ?_) (fun _ => ?_)
    · exact pk_some z8
    · refine pk_bvy (fun v16 _ => ?_)
      refine pk_bd (v_X4_here μ13  z8.1) (fun r18 μ17 ez9 => ?_)
      have z9 : Vz5 P μ μ17 := z8.tr ez9
      refine pk_ite (fun _ => ?_) (fun _ => ?_)
      · refine pk_bd (v_X3_startOf (sel 2 (μ17.2.2 16 4)) v16 μ17  z9.1) (fun r32 μ31 ez10 => ?_)
        have z10 : Vz5 P μ μ31 := z9.tr ez10
        refine pk_ite (fun _ => ?_) (fun _ => ?_)
        · exact pk_mono (v_X4_readFunction_b106 v16 μ31  z10.1) (fun _ hq => z10.tr hq)
        · refine pk_bw (v_X4_fail v1 μ31  z10.1) (fun μ34 ez11 => ?_)
          have z11 : Vz5 P μ μ34 := z10.tr ez11
          exact pk_mono (v_X4_readFunction_b106 v16 μ34  z11.1) (fun _ hq => z11.tr hq)
      · exact pk_mono (v_X4_readFunction_b106 v16 μ17  z9.1) (fun _ hq => z9.tr hq)
theorem v_X4_readProgram_b14 {P : Nat} : ∀ (n : Nat) (a2 : Int32) (μ : Mem), Vg5 P μ → pk (p_X4_readProgram_b14  n a2 μ) (fun q => Vz5 P μ q) := by
  intro n
  induction n with
  | zero => intro a2 μ  hU r e; rw [p_X4_readProgram_b14_z] at e; cases e
  | succ n ih =>
    intro a2 μ  hU
    have z0 : Vz5 P μ μ := Vz5.rf hU
    rw [p_X4_readProgram_b14_s]
    refine pk_ite (fun _ => ?_) (fun _ => ?_)
    · exact pk_some z0
    · refine pk_bd (v_X4_isWell μ  z0.1) (fun r6 μ5 ez1 => ?_)
      have z1 : Vz5 P μ μ5 := z0.tr ez1
      refine pk_ite (fun _ => ?_) (fun _ => ?_)
      · exact pk_some z1
      · refine pk_ite (fun _ => ?_) (fun _ => ?_)
        · exact pk_some z1
        · refine pk_bw (v_X4_readFunction μ5  z1.1) (fun μ9 ez2 => ?_)
          have z2 : Vz5 P μ μ9 := z1.tr ez2
          refine pk_bvy (fun v11 _ => ?_)
          exact pk_mono (ih v11 μ9  z2.1) (fun _ hq => z2.tr hq)
theorem v_X4_badPlace {P : Nat} (μ : Mem)  (hU : Vg5 P μ) : pk (p_X4_badPlace μ) (fun q => Vz5 P μ q.2) := by
  have z0 : Vz5 P μ μ := Vz5.rf hU
  rw [p_X4_badPlace_eq]
  exact pk_some z0
theorem v_X4_takeEnd {P : Nat} (μ : Mem)  (hU : Vg5 P μ) : pk (p_X4_takeEnd μ) (fun q => Vz5 P μ q) := by
  have z0 : Vz5 P μ μ := Vz5.rf hU
  rw [p_X4_takeEnd_eq]
  refine pk_bd (v_X4_isWell μ  z0.1) (fun r2 μ1 ez1 => ?_)
  have z1 : Vz5 P μ μ1 := z0.tr ez1
  refine pk_ite (fun _ => ?_) (fun _ => ?_)
  · exact pk_some z1
  · refine pk_ite (fun _ => ?_) (fun _ => ?_)
    · exact pk_some z1
    · refine pk_bw (v_X4_fail (μ1.1 16 2) μ1  z1.1) (fun μ5 ez2 => ?_)
      have z2 : Vz5 P μ μ5 := z1.tr ez2
      exact pk_some z2
theorem v_X3_about {P : Nat} (a0 : Nat) (a1 : Int32) (a2 : Int32) (μ : Mem)  (hU : Vg5 P μ) : pk (p_X3_about a0 a1 a2 μ) (fun q => Vz5 P μ q.2) := by
  have z0 : Vz5 P μ μ := Vz5.rf hU
  rw [p_X3_about_eq]
  refine pk_ite (fun _ => ?_) (fun _ => ?_)
  · exact pk_some z0
  · refine pk_ite (fun _ => ?_) (fun _ => ?_)
    · exact pk_some z0
    · refine pk_ite (fun _ => ?_) (fun _ => ?_)
      · exact pk_some z0
      · refine pk_ite (fun _ => ?_) (fun _ => ?_)
        · refine pk_gd (fun _ => ?_)
          exact pk_some z0
        · exact pk_some z0
theorem v_X3_stepAt {P : Nat} (a0 : Nat) (a1 : Int32) (μ : Mem)  (hU : Vg5 P μ) : pk (p_X3_stepAt a0 a1 μ) (fun q => Vz5 P μ q.2) := by
  have z0 : Vz5 P μ μ := Vz5.rf hU
  rw [p_X3_stepAt_eq]
  refine pk_ite (fun _ => ?_) (fun _ => ?_)
  · exact pk_some z0
  · refine pk_ite (fun _ => ?_) (fun _ => ?_)
    · exact pk_some z0
    · refine pk_gd (fun _ => ?_)
      exact pk_some z0
theorem v_X3_markAt {P : Nat} (a0 : Nat) (a1 : Int32) (μ : Mem)  (hU : Vg5 P μ) : pk (p_X3_markAt a0 a1 μ) (fun q => Vz5 P μ q.2) := by
  have z0 : Vz5 P μ μ := Vz5.rf hU
  rw [p_X3_markAt_eq]
  refine pk_ite (fun _ => ?_) (fun _ => ?_)
  · exact pk_some z0
  · refine pk_ite (fun _ => ?_) (fun _ => ?_)
    · exact pk_some z0
    · refine pk_gd (fun _ => ?_)
      exact pk_some z0
theorem v_X3_bitsAt {P : Nat} (a0 : Nat) (a1 : Int32) (μ : Mem)  (hU : Vg5 P μ) : pk (p_X3_bitsAt a0 a1 μ) (fun q => Vz5 P μ q.2) := by
  have z0 : Vz5 P μ μ := Vz5.rf hU
  rw [p_X3_bitsAt_eq]
  refine pk_ite (fun _ => ?_) (fun _ => ?_)
  · exact pk_some z0
  · refine pk_ite (fun _ => ?_) (fun _ => ?_)
    · exact pk_some z0
    · refine pk_gd (fun _ => ?_)
      exact pk_some z0
