def Rfi (μ : Mem) : Prop := ((μ.2.2 0 6 = 18 ∧ μ.2.2 0 7 = 21) ∨ (μ.2.2 0 6 = 21 ∧ μ.2.2 0 7 = 18)) ∧ ((μ.2.2 0 8 = 24 ∧ μ.2.2 0 9 = 27) ∨ (μ.2.2 0 8 = 27 ∧ μ.2.2 0 9 = 24))
theorem Rfi.rz {μ q : Mem} (h : Rfi μ) (hz : Rz μ q) : Rfi q := by
  unfold Rfi
  rw [hz 6 (by omega), hz 7 (by omega), hz 8 (by omega), hz 9 (by omega)]; exact h
def Ta (o : Rd Nat) (r : Int32) : Prop := match o with | .inl _ => r = -1 | .inr s => r.toInt = (s : Int)
theorem q_clear5 (μ : Mem) : pk (p_X5_clear μ) (fun q => q.2 = μ.2 ∧ ∀ i k, i ≠ 39 → q.1 i k = μ.1 i k) := by
  rw [p_X5_clear_eq]
  refine pk_bv (pk_bv (pk_bv (pk_bv (pk_bv (pk_bv (pk_bv (pk_some ⟨rfl, fun i k hi => ?_⟩)))))))
  rw [sF_i hi, sF_i hi, sF_i hi, sF_i hi, sF_i hi, sF_i hi, sF_i hi]
theorem q_begin2 (c : Nat) (a : Int32) (μ : Mem) : pk (p_X2_begin c a μ) (fun q => q.2 = μ.2 ∧ ∀ i k, i ≠ c → q.1 i k = μ.1 i k) := by
  rw [p_X2_begin_eq]
  exact pk_bv (pk_bv (pk_some ⟨rfl, fun i k hi => by rw [sF_i hi, sF_i hi]⟩))
theorem q_take11 {T : Nat} {μ : Mem} (hT : (μ.1 0 1).toInt = (T : Int)) (h8 : T ≤ 800) : pk (p_X11_takeTape μ) (fun q => q.2 = μ.2 ∧ Xw (fun j => μ.1 1 j) T 0 q) := by
  have e0 : (0 : Int32).toInt = 0 := by decide
  have e800 : (800 : Int32).toInt = 800 := by decide
  rw [p_X11_takeTape_eq]
  have hm : imin (μ.1 0 1) 800 = μ.1 0 1 := by unfold imin; rw [if_neg (by rw [ti_lt, e800, hT]; omega)]
  refine pk_bw (P := fun q => q.2 = μ.2 ∧ Xw (fun j => μ.1 1 j) T 0 q) ?_ (fun q hq => pk_bv (pk_some ⟨hq.1, ?_⟩))
  · rw [p_X4_begin_eq, hm]
    refine pk_bvy (fun μ1 m1 => pk_bvy (fun μ2 m2 => pk_bvy (fun μ3 m3 => pk_some ⟨by rw [m3, m2, m1]; rfl, ⟨?_, h8, fun j _ => ?_⟩, ?_, ?_, Nat.zero_le _⟩)))
    · rw [m3, sF_k (by decide), m2, sF_k (by decide), m1, sF_v]; exact hT
    · rw [m3, sF_i (by decide), m2, sF_i (by decide), m1, sF_i (by decide)]
    · rw [m3, sF_v]
    · rw [m3, sF_k (by decide), m2, sF_v]; exact e0
  · obtain ⟨⟨x1, x2, x3⟩, x4, x5, x6⟩ := hq.2
    exact ⟨⟨by rw [sF_i (by decide)]; exact x1, x2, fun j hj => by rw [sF_i (by decide)]; exact x3 j hj⟩, by rw [sF_i (by decide)]; exact x4, by rw [sF_i (by decide)]; exact x5, x6⟩
theorem sel_18 : sel 1 18 = 18 := by decide +kernel
theorem sel_21 : sel 1 21 = 21 := by decide +kernel
theorem sel_24 : sel 1 24 = 24 := by decide +kernel
theorem sel_27 : sel 1 27 = 27 := by decide +kernel
set_option maxHeartbeats 1000000 in
theorem q_task11 {T : Nat} {μ : Mem} (hT : (μ.1 0 1).toInt = (T : Int)) (h8 : T ≤ 800) (hR : Rfi μ) : pk (p_X11_task μ) (fun r => Ta (rt (fun j => μ.1 1 j) T) r.1 ∧ Rfi r.2) := by
  have main : ∀ a b : Nat, (a = 18 ∨ a = 21) → (b = 18 ∨ b = 21) → a ≠ b → μ.2.2 0 7 = a → μ.2.2 0 6 = b → pk (p_X11_task μ) (fun r => Ta (rt (fun j => μ.1 1 j) T) r.1 ∧ Rfi r.2) := by
    intro a b ha hb hab h7 h6
    have sa : sel 1 a = a := by rcases ha with rfl | rfl; exact sel_18; exact sel_21
    have sb : sel 1 b = b := by rcases hb with rfl | rfl; exact sel_18; exact sel_21
    have hs : sh 0 a = (0, 1) := by rcases ha with rfl | rfl; exact shx_18; exact shx_21
    rw [p_X11_task_eq]
    refine pk_bw (q_take11 hT h8) ?_
    rintro μ1 ⟨f1, w1⟩
    rw [show μ1.2.2 0 7 = a by rw [f1]; exact h7, sa]
    refine pk_bw (q_Xtask hs ⟨by omega, by omega⟩ w1) ?_
    rintro μ3 ⟨f3, g3, o3⟩
    have f3' : μ3.2.2 = μ.2.2 := by rw [f3, f1]
    refine pk_bd (P := fun r => r.2 = μ3 ∧ r.1 = μ3.1 16 3) (by rw [p_X4_badPlace_eq]; exact pk_some ⟨rfl, rfl⟩) ?_
    rintro r6 μ5 ⟨e, hr6⟩
    have e : μ5 = μ3 := e
    subst e
    have hr6 : r6 = μ5.1 16 3 := hr6
    refine pk_bvy (fun μ7 m7 => ?_)
    have t2 : μ7.1 0 2 = μ5.1 16 3 := by rw [m7, sF_v, hr6]
    have f7 : μ7.2 = μ5.2 := by rw [m7]; rfl
    have R7 : Rfi μ7 := by unfold Rfi; rw [f7, f3']; exact hR
    cases ho : rt (fun j => μ.1 1 j) T with
    | inl f =>
      rw [ho] at o3
      have o3 : Xf _ T f μ5 := o3
      rw [if_neg (by rw [t2]; exact xf_bad o3)]
      exact pk_some ⟨rfl, R7⟩
    | inr s =>
      rw [ho] at o3
      obtain ⟨o3, m, hP⟩ : μ5.1 16 3 = -1 ∧ ∃ m, Pm μ5 a m s := o3
      rw [if_pos (by rw [t2]; exact o3)]
      have i7 : μ7.2.2 0 7 = a := by rw [f7, f3']; exact h7
      have i6 : μ7.2.2 0 6 = b := by rw [f7, f3']; exact h6
      rw [i7, i6, sa, sb]
      refine pk_bvy (fun μ9 m9 => pk_bvy (fun μ10 m10 => pk_bvy (fun μ11 m11 => ?_)))
      have r11 : ∀ k, μ11.2.2 0 k = if k = 7 then b else if k = 6 then a else μ7.2.2 0 k := by
        intro k
        rw [m11, sF_2, m10, sR_3, if_pos rfl, m9, sR_3, if_pos rfl]
      have l11 : μ11.2.1 = μ5.2.1 := by rw [m11, sF_2, m10, sR_2, m9, sR_2, f7]
      have n11 : ∀ i k, i ≠ 0 → μ11.1 i k = μ5.1 i k := by
        intro i k hi
        rw [m11, sF_i hi, m10, sR_1, m9, sR_1, m7, sF_i hi]
      have i8 : μ11.2.2 0 8 = μ.2.2 0 8 := by rw [r11, if_neg (by decide), if_neg (by decide), f7, f3']
      have i9 : μ11.2.2 0 9 = μ.2.2 0 9 := by rw [r11, if_neg (by decide), if_neg (by decide), f7, f3']
      have i6' : μ11.2.2 0 6 = a := by rw [r11, if_neg (by decide), if_pos rfl]
      have i7' : μ11.2.2 0 7 = b := by rw [r11, if_pos rfl]
      have hc : ∃ c, (c = 24 ∨ c = 27) ∧ μ11.2.2 0 8 = c ∧ sel 1 c = c := by
        rcases hR.2 with ⟨x, _⟩ | ⟨x, _⟩
        · exact ⟨24, Or.inl rfl, by rw [i8, x], sel_24⟩
        · exact ⟨27, Or.inr rfl, by rw [i8, x], sel_27⟩
      obtain ⟨c, hc, hc8, sc8⟩ := hc
      rw [hc8, sc8]
      refine pk_bw (q_begin2 c 0 μ11) ?_
      rintro μ12 ⟨f12, g12⟩
      refine pk_bw (q_clear5 μ12) ?_
      rintro μ14 ⟨f14, g14⟩
      have P14 : Pm μ14 a m s := by
        refine ⟨?_, hP.2.1, ?_⟩
        · rw [g14 a 2 (by omega), g12 a 2 (by omega), n11 a 2 (by omega)]; exact hP.1
        · rw [f14, f12, l11]; exact hP.2.2
      have j6 : μ14.2.2 0 6 = a := by rw [f14, f12]; exact i6'
      rw [j6, sa]
      refine pk_bd (q_stars P14) ?_
      rintro r17 μ16 ⟨e, hst⟩
      have e : μ16 = μ14 := e
      subst e
      refine pk_some ⟨hst, ?_⟩
      show Rfi μ16
      unfold Rfi
      rw [j6, f14, f12, i7', i8, i9]
      refine ⟨?_, hR.2⟩
      omega
  rcases hR.1 with ⟨x, y⟩ | ⟨x, y⟩
  · exact main 21 18 (by omega) (by omega) (by omega) y x
  · exact main 18 21 (by omega) (by omega) (by omega) y x
theorem q_copyf : ∀ (fu : Nat) (a0 : Nat) (a1 a2 : Int32) (a3 : Nat) (a4 a5 : Int32) (μ : Mem), pk (p_X12_copy_b3 fu a0 a1 a2 a3 a4 a5 μ) (fun q => ∀ i k, i ≠ a3 → q.1 i k = μ.1 i k) := by
  intro fu
  induction fu with
  | zero => intro a0 a1 a2 a3 a4 a5 μ r e; rw [p_X12_copy_b3_z] at e; cases e
  | succ fu ih =>
    intro a0 a1 a2 a3 a4 a5 μ
    rw [p_X12_copy_b3_s]
    refine pk_ite (fun _ => pk_some (fun _ _ _ => rfl)) (fun _ => pk_gd (fun _ => pk_gd (fun _ => pk_bv (pk_bv ?_))))
    exact pk_mono (ih _ _ _ _ _ _ _) (fun q hq i k hi => by rw [hq i k hi, sF_i hi])
theorem q_copy (a0 : Nat) (a1 a2 : Int32) (a3 : Nat) (a4 : Int32) (μ : Mem) : pk (p_X12_copy a0 a1 a2 a3 a4 μ) (fun q => ∀ i k, i ≠ a3 → q.1 i k = μ.1 i k) := by
  rw [p_X12_copy_eq]; exact q_copyf _ _ _ _ _ _ _ _
theorem q_task12 {t : Nat → Int32} {n : Nat} {μ : Mem} (hs : Ms t n μ) : pk (p_X12_task μ) (fun r => Ta (rt t n) r.1) := by
  rw [p_X12_task_eq]
  refine pk_bd (q_Mtask hs) ?_
  intro r2 μ1 hO
  refine pk_bvy (fun μ3 m3 => ?_)
  cases ho : rt t n with
  | inl f =>
    rw [ho] at hO
    have hO : r2 = 0 ∧ Mf t n f μ1 := hO
    rw [if_pos hO.1]
    exact pk_some rfl
  | inr s =>
    rw [ho] at hO
    have hO : r2 = 1 ∧ μ1.1 0 5 = -1 ∧ (μ1.1 0 37).toInt = (s : Int) := hO
    rw [if_neg (by rw [hO.1]; decide)]
    refine pk_bvy (fun μ5 m5 => pk_bvy (fun μ6 m6 => pk_bvy (fun μ7 m7 => pk_bvy (fun μ8 m8 => pk_bw (q_copy _ _ _ _ _ _) (fun μ9 h9 => pk_bw (q_copy _ _ _ _ _ _) (fun μ11 h11 => pk_bvy (fun μ13 m13 => pk_bvy (fun μ14 m14 => pk_bvy (fun μ15 m15 => pk_some ?_)))))))))
    show (μ15.1 0 45).toInt = (s : Int)
    rw [m15, sF_k (by decide), m14, sF_k (by decide), m13, sF_v, h11 0 37 (by decide), h9 0 37 (by decide), m8, sF_k (by decide), m7, sF_k (by decide), m6, sF_k (by decide), m5, sF_k (by decide), m3, sF_k (by decide)]
    exact hO.2.2
