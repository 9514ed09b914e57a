theorem lo8 (z : Int32) : (z.toInt8.toInt32) &&& 255 = z &&& 255 := by
  apply Int32.toBitVec_inj.mp
  rw [Int32.toBitVec_and, Int32.toBitVec_and, Int8.toBitVec_toInt32, Int32.toBitVec_toInt8]
  show _ &&& 255#32 = _ &&& 255#32
  apply BitVec.eq_of_getLsbD_eq
  intro i hi
  have h255 : ∀ j, j < 32 → (255#32).getLsbD j = decide (j < 8) := by decide
  rw [BitVec.getLsbD_and, BitVec.getLsbD_and, h255 i hi]
  by_cases h : i < 8
  · rw [BitVec.getLsbD_signExtend, if_pos h, BitVec.getLsbD_signExtend, if_pos hi, decide_eq_true h, decide_eq_true hi]; rfl
  · simp [h]
def sh4 (i : Nat) : Int32 := ([24, 16, 8, 0, -8] : List Int32).getD i 0
def bx (v : Int32) (i : Nat) : Int32 := ((v.toUInt32 >>> ((sh4 i).toUInt32 &&& Int32.toUInt32 31)).toInt32) &&& 255
def bm (v : Int32) (i : Nat) : Int32 := vp_nar .byte ((v >>> (sh4 i &&& 31)).toInt8.toInt32)
theorem shr8 (v : Int32) (s : Nat) (hs : s ≤ 24) : (BitVec.sshiftRight v.toBitVec s) &&& 255#32 = (v.toBitVec >>> s) &&& 255#32 := by
  apply BitVec.eq_of_getLsbD_eq
  intro i hi
  have h255 : ∀ j, j < 32 → (255#32).getLsbD j = decide (j < 8) := by decide
  rw [BitVec.getLsbD_and, BitVec.getLsbD_and, h255 i hi]
  by_cases h : i < 8
  · rw [BitVec.getLsbD_sshiftRight, BitVec.getLsbD_ushiftRight]
    have : s + i < 32 := by omega
    simp [h, this, hi]
  · simp [h]
theorem byte_q (v : Int32) : ∀ i, i < 4 → bx v i = bm v i &&& 255 := by
  have key : ∀ (s : Nat) (a b : Int32), s ≤ 24 → a.toBitVec = v.toBitVec >>> s → b.toBitVec = BitVec.sshiftRight v.toBitVec s → a &&& 255 = b &&& 255 := by
    intro s a b hs ha hb
    apply Int32.toBitVec_inj.mp
    rw [Int32.toBitVec_and, Int32.toBitVec_and, ha, hb]
    exact (shr8 v s hs).symm
  have e : ∀ i, bm v i &&& 255 = (v >>> (sh4 i &&& 31)) &&& 255 := by
    intro i
    show ((v >>> (sh4 i &&& 31)).toInt8.toInt32).toInt8.toInt32 &&& 255 = _
    rw [lo8, lo8]
  intro i hi
  rw [e]
  match i, hi with
  | 0, _ => exact key 24 _ _ (by omega) rfl (by rw [Int32.toBitVec_shiftRight]; rfl)
  | 1, _ => exact key 16 _ _ (by omega) rfl (by rw [Int32.toBitVec_shiftRight]; rfl)
  | 2, _ => exact key 8 _ _ (by omega) rfl (by rw [Int32.toBitVec_shiftRight]; rfl)
  | 3, _ => exact key 0 _ _ (by omega) rfl (by rw [Int32.toBitVec_shiftRight]; rfl)
  | n + 4, h => exact absurd h (by omega)
def Ax (v : Int32) (T : Nat) (μ q : Mem) : Prop := (q.1 0 1).toInt = ((T + 4 : Nat) : Int) ∧ ∀ j, q.1 1 j = if T ≤ j ∧ j < T + 4 then bx v (j - T) else μ.1 1 j
def Am (v : Int32) (T : Nat) (μ q : Mem) : Prop := (q.1 0 3).toInt = ((T + 4 : Nat) : Int) ∧ ∀ j, q.1 1 j = if T ≤ j ∧ j < T + 4 then bm v (j - T) else μ.1 1 j
theorem sh4_s : ∀ i, i < 4 → sh4 i + (-8) = sh4 (i + 1) ∧ ¬ sh4 i < 0 := by decide
theorem q_feedFour {v : Int32} {T : Nat} {μ : Mem} (hT : (μ.1 0 1).toInt = (T : Int)) (h8 : T + 4 ≤ 800) : pk (p_X11_feedFour v μ) (Ax v T μ) := by
  have e1 : (1 : Int32).toInt = 1 := by decide
  have e800 : (800 : Int32).toInt = 800 := by decide
  have loop : ∀ (fu i : Nat) (μ2 : Mem), i ≤ 4 → (μ2.1 0 1).toInt = ((T + i : Nat) : Int) → (∀ j, μ2.1 1 j = if T ≤ j ∧ j < T + i then bx v (j - T) else μ.1 1 j) → pk (p_X11_feedFour_b3 fu v (sh4 i) μ2) (Ax v T μ) := by
    intro fu
    induction fu with
    | zero => intro i μ2 _ _ _ r e; rw [p_X11_feedFour_b3_z] at e; cases e
    | succ fu ih =>
      intro i μ2 hi h1 h2
      rw [p_X11_feedFour_b3_s]
      by_cases h4 : i = 4
      · subst h4
        rw [if_pos (by decide)]
        exact pk_some ⟨h1, h2⟩
      · obtain ⟨s1, s2⟩ := sh4_s i (by omega)
        rw [if_neg s2, if_neg (by rw [ti_le, e800, h1]; omega)]
        refine pk_bvy (fun v3 e3 => pk_gd (fun _ => pk_bvy (fun μ4 m4 => pk_bvy (fun μ5 m5 => pk_bvy (fun v6 e6 => ?_)))))
        rw [s1] at e6
        rw [e6]
        refine ih (i + 1) μ5 (by omega) (by rw [m5, sF_v, m4, sF_i (by decide), ti_add (by omega) (by omega), e1, h1]; omega) (fun j => ?_)
        rw [m5, sF_i (by decide), m4, tn_of h1]
        by_cases hj : j = T + i
        · rw [hj, sF_v, if_pos (by omega), show T + i - T = i by omega, e3]; rfl
        · rw [sF_k hj, h2 j]
          by_cases hb : T ≤ j ∧ j < T + i
          · rw [if_pos hb, if_pos (by omega)]
          · rw [if_neg hb, if_neg (by omega)]
  rw [p_X11_feedFour_eq]
  exact loop FUEL 0 μ (by omega) hT (fun j => by rw [if_neg (by omega)])
theorem q_four {v : Int32} {T : Nat} {μ : Mem} (hT : (μ.1 0 3).toInt = (T : Int)) (h8 : T + 4 ≤ 800) : pk (p_X12_four v μ) (Am v T μ) := by
  have e1 : (1 : Int32).toInt = 1 := by decide
  have loop : ∀ (fu i : Nat) (μ2 : Mem), i ≤ 4 → (μ2.1 0 3).toInt = ((T + i : Nat) : Int) → (∀ j, μ2.1 1 j = if T ≤ j ∧ j < T + i then bm v (j - T) else μ.1 1 j) → pk (p_X12_four_b3 fu v (sh4 i) μ2) (Am v T μ) := by
    intro fu
    induction fu with
    | zero => intro i μ2 _ _ _ r e; rw [p_X12_four_b3_z] at e; cases e
    | succ fu ih =>
      intro i μ2 hi h1 h2
      rw [p_X12_four_b3_s]
      by_cases h4 : i = 4
      · subst h4
        rw [if_pos (by decide)]
        exact pk_some ⟨h1, h2⟩
      · obtain ⟨s1, s2⟩ := sh4_s i (by omega)
        rw [if_neg s2]
        refine pk_gd (fun _ => pk_bvy (fun μ4 m4 => pk_bvy (fun μ5 m5 => pk_bvy (fun v6 e6 => ?_))))
        rw [s1] at e6
        rw [e6]
        refine ih (i + 1) μ5 (by omega) (by rw [m5, sF_v, m4, sF_i (by decide), ti_add (by omega) (by omega), e1, h1]; omega) (fun j => ?_)
        rw [m5, sF_i (by decide), m4, tn_of h1]
        by_cases hj : j = T + i
        · rw [hj, sF_v, if_pos (by omega), show T + i - T = i by omega]; rfl
        · rw [sF_k hj, h2 j]
          by_cases hb : T ≤ j ∧ j < T + i
          · rw [if_pos hb, if_pos (by omega)]
          · rw [if_neg hb, if_neg (by omega)]
  rw [p_X12_four_eq]
  exact loop FUEL 0 μ (by omega) hT (fun j => by rw [if_neg (by omega)])
def Tq (μx μm : Mem) : Prop := ∀ j, μx.1 1 j = μm.1 1 j &&& 255
theorem tq_step {v : Int32} {T : Nat} {μx μm q z : Mem} (h : Tq μx μm) (hx : Ax v T μx q) (hm : Am v T μm z) : Tq q z := by
  intro j
  rw [hx.2 j, hm.2 j]
  by_cases hb : T ≤ j ∧ j < T + 4
  · rw [if_pos hb, if_pos hb]; exact byte_q v (j - T) (by omega)
  · rw [if_neg hb, if_neg hb]; exact h j
theorem q_feedt {a1 a2 a3 a4 a5 : Int32} {T : Nat} {μx μm : Mem} (h : Tq μx μm) (hx : (μx.1 0 1).toInt = (T : Int)) (hm : (μm.1 0 3).toInt = (T : Int)) (hT : T ≤ 800) : pk (p_X11_feed a1 a2 a3 a4 a5 μx) (fun q => pk (p_X12_feed a1 a2 a3 a4 a5 μm) (fun z => Tq q.2 z.2)) := by
  have e20 : (20 : Int32).toInt = 20 := by decide
  have e800 : (800 : Int32).toInt = 800 := by decide
  rw [p_X11_feed_eq, p_X12_feed_eq]
  by_cases hb : T + 20 ≤ 800
  · rw [if_pos (by rw [ti_le, ti_add (by omega) (by omega), e20, e800, hx]; omega), if_pos (by rw [ti_le, ti_add (by omega) (by omega), e20, e800, hm]; omega)]
    refine pk_bw (q_feedFour hx (by omega)) (fun q1 x1 => pk_bw (q_feedFour x1.1 (by omega)) (fun q2 x2 => pk_bw (q_feedFour x2.1 (by omega)) (fun q3 x3 => pk_bw (q_feedFour x3.1 (by omega)) (fun q4 x4 => pk_bw (q_feedFour x4.1 (by omega)) (fun q5 x5 => pk_some ?_)))))
    exact pk_bw (q_four hm (by omega)) (fun z1 y1 => pk_bw (q_four y1.1 (by omega)) (fun z2 y2 => pk_bw (q_four y2.1 (by omega)) (fun z3 y3 => pk_bw (q_four y3.1 (by omega)) (fun z4 y4 => pk_bw (q_four y4.1 (by omega)) (fun z5 y5 => pk_some (tq_step (tq_step (tq_step (tq_step (tq_step h x1 y1) x2 y2) x3 y3) x4 y4) x5 y5))))))
  · rw [if_neg (by rw [ti_le, ti_add (by omega) (by omega), e20, e800, hx]; omega), if_neg (by rw [ti_le, ti_add (by omega) (by omega), e20, e800, hm]; omega)]
    exact pk_some (pk_some h)
