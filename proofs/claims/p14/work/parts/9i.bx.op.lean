theorem nn_neg (x : Int32) : nn (x ^^^ (-2147483648 : Int32)) = if nn x < 2147483648 then nn x + 2147483648 else nn x - 2147483648 := by
  have hx := nn_lt x
  have e1 : nn (x ^^^ (-2147483648 : Int32)) = nn x ^^^ 2147483648 := by rw [nn_xor]; rfl
  have e2 : (nn x ^^^ 2147483648) % 2147483648 = nn x % 2147483648 := by
    have := Nat.xor_mod_two_pow (a := nn x) (b := 2147483648) (n := 31)
    rw [show (2147483648 : Nat) % 2 ^ 31 = 0 by decide, Nat.xor_zero] at this
    exact this
  have e3 : (nn x ^^^ 2147483648) / 2147483648 = nn x / 2147483648 ^^^ 1 := by
    have := Nat.xor_div_two_pow (a := nn x) (b := 2147483648) (n := 31)
    rw [show (2147483648 : Nat) / 2 ^ 31 = 1 by decide] at this
    exact this
  rw [e1]
  generalize nn x ^^^ 2147483648 = z at e2 e3
  by_cases a : nn x < 2147483648
  · rw [if_pos a]
    rw [show nn x / 2147483648 = 0 by omega] at e3
    have e4 : z / 2147483648 = 1 := e3
    omega
  · rw [if_neg a]
    rw [show nn x / 2147483648 = 1 by omega] at e3
    have e4 : z / 2147483648 = 0 := e3
    omega
theorem dec_neg (x : Int32) (h : nn x % 2147483648 ≤ 2139095040) : Jvm.FP.Core.negate (Jvm.FP.Core.decode B (nn x)) = Jvm.FP.Core.decode B (nn (x ^^^ (-2147483648 : Int32))) := by
  have hx := nn_lt x
  have hy := nn_lt (x ^^^ (-2147483648 : Int32))
  have hn := nn_neg x
  generalize nn (x ^^^ (-2147483648 : Int32)) = y at hn hy
  have hm : y % 2147483648 = nn x % 2147483648 := by split at hn <;> omega
  have hs : fS y = !fS (nn x) := by
    rw [fS_eq hx, fS_eq hy]
    by_cases a : nn x < 2147483648
    · rw [if_pos a] at hn; rw [decide_eq_true (by omega), decide_eq_false (by omega)]; rfl
    · rw [if_neg a] at hn; rw [decide_eq_false (by omega), decide_eq_true (by omega)]; rfl
  have a1 := size_split y; have a2 := fT_lt y; have b1 := size_split (nn x); have b2 := fT_lt (nn x)
  have hE : fE y = fE (nn x) := by omega
  have hT : fT y = fT (nn x) := by omega
  rcases Nat.lt_or_ge (nn x % 2147483648) 2139095040 with c | c
  · rw [dec_fin c, dec_fin (n := y) (by omega), hs]
    show Jvm.FP.Core.Datum.fin _ (fc (nn x)) (fq (nn x)) = .fin _ (fc y) (fq y)
    unfold fc fq
    rw [hE, hT]
  · rw [dec_inf (n := nn x) (by omega), dec_inf (n := y) (by omega), hs]
    rfl
theorem sub_ok (x y : Int32) (h1 : nn x % 2147483648 ≤ 2139095040) (h2 : nn y % 2147483648 ≤ 2139095040) : x_add x (y ^^^ (-2147483648 : Int32)) = m_br45 x y := by
  have hx := nn_lt x; have hy := nn_lt y
  have hn := nn_neg y
  have hd := dec_neg y h2
  have hm : nn (y ^^^ (-2147483648 : Int32)) % 2147483648 = nn y % 2147483648 := by split at hn <;> omega
  rw [add_ok x _ h1 (by omega), m_br43_eq, m_br45_eq]
  by_cases c : nn x % 2147483648 = 2139095040 ∧ nn y % 2147483648 = 2139095040 ∧ nn x = nn y
  · obtain ⟨c1, c2, c3⟩ := c
    rw [if_neg (fun z => (noN45q z).2.2 c1 c2 c3), if_neg (fun z => by have := (noN43q z).2.2 c1 (by omega); split at hn <;> omega)]
  · have g45 : m_noN45 x y = 0 := by
      rw [m_noN45_eq]
      simp only [mNq, mIq, mEq x y]
      repeat' split
      all_goals first | rfl | omega
    have g43 : m_noN43 x (y ^^^ (-2147483648 : Int32)) = 0 := noN43_iff x _ h1 (by omega) (fun c1 c2 => by split at hn <;> omega)
    rw [if_pos g45, if_pos g43]
    show m_bitsOf (UInt32.ofNat (Jvm.FP.Core.encode B (Jvm.FP.Core.round B (Jvm.FP.Core.exactSum (Jvm.FP.Core.decode B (nn x)) (Jvm.FP.Core.decode B (nn (y ^^^ (-2147483648 : Int32)))))))) = m_bitsOf (UInt32.ofNat (Jvm.FP.Core.encode B (Jvm.FP.Core.round B (Jvm.FP.Core.exactSum (Jvm.FP.Core.decode B (nn x)) (Jvm.FP.Core.negate (Jvm.FP.Core.decode B (nn y)))))))
    rw [hd]
theorem eq45 (a d : Int32) : m_ap45 a d = fop a 45 d := by
  have e : fop a 45 d = x_ap45 a d := rfl
  rw [e, m_ap45_eq, x_ap45_eq, xm_fb, xm_fb, xm_nan, xm_nan]
  generalize m_floatOf a = A
  generalize m_floatOf d = D
  by_cases h1 : m_isNan A = 0
  · rw [if_pos h1]
    by_cases h2 : m_isNan D = 0
    · rw [if_pos h2, sub_ok A D ((mNq A).mp h1) ((mNq D).mp h2)]
    · rw [if_neg h2, m_br45_eq, if_neg (fun z => h2 ((mNq D).mpr (noN45q z).2.1))]
  · rw [if_neg h1, m_br45_eq, if_neg (fun z => h1 ((mNq A).mpr (noN45q z).1))]
