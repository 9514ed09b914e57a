theorem inf_two {x : Int32} (h : nn x % 2147483648 = 2139095040) : x = nI 2139095040 ∨ x = nI 4286578688 := by
  have hx := nn_lt x
  have e := nu_of x
  rcases (show nn x = 2139095040 ∨ nn x = 4286578688 by omega) with a | a
  · left; rw [e]; exact congrArg nI a
  · right; rw [e]; exact congrArg nI a
theorem xor_back {x y : Int32} (h : x ^^^ y = (-2147483648 : Int32)) : y = x ^^^ (-2147483648 : Int32) := by
  rw [← h, ← Int32.xor_assoc, Int32.xor_self, Int32.zero_xor]
theorem xor_inf {x y : Int32} (h : nn x % 2147483648 = 2139095040) (h2 : x ^^^ y = (-2147483648 : Int32)) : nn y % 2147483648 = 2139095040 ∧ x ≠ y := by
  have e := xor_back h2
  rcases inf_two h with a | a
  · subst a; subst e; exact ⟨by decide, by decide⟩
  · subst a; subst e; exact ⟨by decide, by decide⟩
theorem xor_inf2 {x y : Int32} (h : nn x % 2147483648 = 2139095040) (h2 : nn y % 2147483648 = 2139095040) (h3 : x ≠ y) : x ^^^ y = (-2147483648 : Int32) := by
  rcases inf_two h with a | a <;> rcases inf_two h2 with b | b <;> subst a <;> subst b
  · exact absurd rfl h3
  · decide
  · decide
  · exact absurd rfl h3
theorem noN43_iff (a b : Int32) (h1 : nn a % 2147483648 ≤ 2139095040) (h2 : nn b % 2147483648 ≤ 2139095040) (h3 : nn a % 2147483648 = 2139095040 → nn b % 2147483648 = 2139095040 → nn a = nn b) : m_noN43 a b = 0 := by
  rw [m_noN43_eq]
  simp only [mNq, mIq, mEq a b]
  repeat' split
  all_goals first | rfl | omega
theorem enc_inf_nn {x : Int32} (h : nn x % 2147483648 = 2139095040) : nI (Jvm.FP.Core.encode B (.inf (fS (nn x)))) = x := by
  rw [enc_inf]
  rcases inf_two h with a | a <;> subst a <;> decide
theorem add_ok (x y : Int32) (h1 : nn x % 2147483648 ≤ 2139095040) (h2 : nn y % 2147483648 ≤ 2139095040) : x_add x y = m_br43 x y := by
  have hx := nn_lt x; have hy := nn_lt y
  rw [m_br43_eq]
  by_cases hb : nn x % 2147483648 = 2139095040 ∧ nn y % 2147483648 = 2139095040 ∧ x ≠ y
  · obtain ⟨a, b, c⟩ := hb
    rw [if_neg (fun z => c (nu_inj ((noN43q z).2.2 a b))), x_add_eq, if_pos ((isInf_iff x).mpr a), if_pos (xor_inf2 a b c)]
  · have hn : nn x % 2147483648 = 2139095040 → nn y % 2147483648 = 2139095040 → nn x = nn y := fun a b => by
      by_cases c : x = y
      · rw [c]
      · exact absurd ⟨a, b, c⟩ hb
    rw [if_pos (noN43_iff x y h1 h2 hn)]
    show _ = m_bitsOf (UInt32.ofNat (Jvm.FP.Core.encode B (Jvm.FP.Core.round B (Jvm.FP.Core.exactSum (Jvm.FP.Core.decode B (nn x)) (Jvm.FP.Core.decode B (nn y))))))
    rw [mulD_bits (n32_add hx hy h1 h2 hn)]
    by_cases a : nn x % 2147483648 = 2139095040
    · rw [x_add_eq, if_pos ((isInf_iff x).mpr a), if_neg (fun z => hb ⟨a, (xor_inf a z).1, (xor_inf a z).2⟩), dec_inf a]
      by_cases b : nn y % 2147483648 = 2139095040
      · rw [dec_inf b]
        show x = nI (Jvm.FP.Core.encode B (Jvm.FP.Core.round B (if fS (nn x) = fS (nn y) then .inf _ else _)))
        rw [if_pos (by rw [hn a b])]
        exact (enc_inf_nn a).symm
      · rw [dec_fin (n := nn y) (by omega)]
        exact (enc_inf_nn a).symm
    · by_cases b : nn y % 2147483648 = 2139095040
      · rw [x_add_eq, if_neg (fun z => a ((isInf_iff x).mp z)), if_pos ((isInf_iff y).mpr b), if_neg (fun z => by rw [Int32.xor_comm] at z; exact a (xor_inf b z).1), dec_inf b, dec_fin (n := nn x) (by omega)]
        exact (enc_inf_nn b).symm
      · have hnx : ¬ x &&& (2147483647 : Int32) = (2139095040 : Int32) := fun z => a ((isInf_iff x).mp z)
        have hny : ¬ y &&& (2147483647 : Int32) = (2139095040 : Int32) := fun z => b ((isInf_iff y).mp z)
        rw [dec_fin (n := nn x) (by omega), dec_fin (n := nn y) (by omega)]
        have cmp : (x &&& (2147483647 : Int32) < y &&& (2147483647 : Int32)) ↔ nn x % 2147483648 < nn y % 2147483648 := by
          rw [and_size, and_size]; exact nI_ltI (by omega) (by omega)
        by_cases c : nn x % 2147483648 < nn y % 2147483648
        · have j1 : x_add_j1 x y = y := by rw [x_add_j1_eq, if_pos (cmp.mpr c)]
          have j2 : x_add_j2 x y = x := by rw [x_add_j2_eq, j1, if_neg (fun z => by rw [z] at c; omega)]
          rw [sum_comm]
          exact add_hl j1 j2 (by omega) (by omega) ⟨Eq.symm, Eq.symm⟩ (Bool.and_comm _ _) hnx hny
        · have j1 : x_add_j1 x y = x := by rw [x_add_j1_eq, if_neg (fun z => c (cmp.mp z))]
          have j2 : x_add_j2 x y = y := by rw [x_add_j2_eq, j1, if_pos rfl]
          exact add_hl j1 j2 (by omega) (by omega) Iff.rfl rfl hnx hny
theorem eq43 (a d : Int32) : m_ap43 a d = fop a 43 d := by
  have e : fop a 43 d = x_ap43 a d := rfl
  rw [e, m_ap43_eq, x_ap43_eq, xm_fb, xm_fb, xm_nan, xm_nan]
  generalize m_floatOf a = A
  generalize m_floatOf d = D
  by_cases h1 : m_isNan A = 0
  · rw [if_pos h1]
    by_cases h2 : m_isNan D = 0
    · rw [if_pos h2, add_ok A D ((mNq A).mp h1) ((mNq D).mp h2)]
    · rw [if_neg h2, m_br43_eq, if_neg (fun z => h2 ((mNq D).mpr (noN43q z).2.1))]
  · rw [if_neg h1, m_br43_eq, if_neg (fun z => h1 ((mNq A).mpr (noN43q z).1))]
