def dv (t : Nat → Int32) (n : Nat) : Nat → Nat → Int32 → Int32
  | 0, _, v => v
  | k + 1, p, v => if isD (hr t n p) then dv t n k (p + 1) (v * 10 + hr t n p - 48) else v
theorem dv_s (t : Nat → Int32) (n d p : Nat) (v : Int32) : dv t n (d + 1) p v = if isD (hr t n p) then dv t n d (p + 1) (v * 10 + hr t n p - 48) else v := rfl
def p10 : Nat → Int32
  | 0 => 1
  | d + 1 => p10 d * 10
def sgn (c v : Int32) : Int32 := if c = 45 then -v else v
noncomputable def fdv (v : Int32) (d : Nat) : Int32 := s_X0_divide (s_X0_floatBits (s_X0_make 0 v)) (s_X0_floatBits (s_X0_make 0 (p10 d)))
def nmp (t : Nat → Int32) (n p : Nat) : Nat := if hr t n p = 45 then p + 1 else p
noncomputable def nvl (t : Nat → Int32) (n p : Nat) : Int32 × Int32 := if hr t n (dg t n 5 (nmp t n p)) = 46 then (1, fdv (sgn (hr t n p) (dv t n 3 (dg t n 5 (nmp t n p) + 1) (dv t n 5 (nmp t n p) 0))) (dg t n 3 (dg t n 5 (nmp t n p) + 1) - (dg t n 5 (nmp t n p) + 1))) else (0, sgn (hr t n p) (dv t n 5 (nmp t n p) 0))
theorem rn_e (t : Nat → Int32) (n p : Nat) : rn t n p = (if dg t n 5 (nmp t n p) = nmp t n p then .inl (nmp t n p) else if hr t n (dg t n 5 (nmp t n p)) = 46 then (if dg t n 3 (dg t n 5 (nmp t n p) + 1) = dg t n 5 (nmp t n p) + 1 then .inl (dg t n 5 (nmp t n p) + 1) else .inr (dg t n 3 (dg t n 5 (nmp t n p) + 1))) else .inr (dg t n 5 (nmp t n p))) := rfl
theorem dg_hi (t : Nat → Int32) (n : Nat) : ∀ k p, dg t n k p ≤ p + k := by
  intro k
  induction k with
  | zero => intro p; exact Nat.le_refl _
  | succ k ih =>
    intro p
    rw [dg_s]
    split
    · have := ih (p + 1); omega
    · omega
theorem q_XdigitsV {t : Nat → Int32} {n : Nat} {a1 : Int32} {k : Nat} {a2 : Int32} (ha : a2.toInt = (k : Int)) (hk : k ≤ 5) {p : Nat} {μ : Mem} (h : Xw t n p μ) : pk (p_X4_readDigits a1 a2 μ) (fun r => r.1 = dv t n k p a1) := by
  have e0 : (0 : Int32).toInt = 0 := by decide
  have e1 : (1 : Int32).toInt = 1 := by decide
  have loop : ∀ (fu j : Nat) (a3 a4 : Int32) (μ2 : Mem) (p2 : Nat), a4.toInt = (j : Int) → j ≤ k → p2 = p + j → Xw t n p2 μ2 → dv t n (k - j) p2 a3 = dv t n k p a1 → pk (p_X4_readDigits_b5 fu a2 a3 a4 μ2) (fun r => r.1 = dv t n k p a1) := by
    intro fu
    induction fu with
    | zero => intro j a3 a4 μ2 p2 _ _ _ _ _ r e; rw [p_X4_readDigits_b5_z] at e; cases e
    | succ fu ih =>
      intro j a3 a4 μ2 p2 h4 hj hp2 hw hd
      have b50 : a3 = dv t n k p a1 → pk (p_X4_readDigits_b50 a3 a4 μ2) (fun r => r.1 = dv t n k p a1) := by
        intro e
        rw [p_X4_readDigits_b50_eq]
        exact pk_ite (fun _ => pk_bw (q_Xfail hw) (fun q _ => pk_some e)) (fun _ => pk_some e)
      rw [p_X4_readDigits_b5_s]
      refine pk_ite (fun c => ?_) (fun c => ?_)
      · rw [ti_le, ha, h4] at c
        have hjk : j = k := by omega
        rw [hjk, Nat.sub_self] at hd
        exact b50 hd
      · rw [ti_le, ha, h4] at c
        refine pk_bd (q_Xhere hw) ?_
        rintro r6 μ5 ⟨e, hh⟩
        have e : μ5 = μ2 := e
        subst e
        have hh : r6 = hr t n p2 := hh
        obtain ⟨d, hd'⟩ : ∃ d, k - j = d + 1 := ⟨k - j - 1, by omega⟩
        rw [hd', dv_s] at hd
        refine pk_ite (fun c1 => ?_) (fun c1 => ?_)
        · rw [isD_X, hh] at c1
          rw [if_neg (by rw [c1]; decide)] at hd
          exact b50 hd
        · rw [isD_X, hh] at c1
          have c1 : isD (hr t n p2) = true := by simpa using c1
          rw [if_pos c1] at hd
          refine pk_bd (q_Xhere hw) ?_
          rintro r9 μ8 ⟨e, hh9⟩
          have e : μ8 = μ5 := e
          subst e
          have hh9 : r9 = hr t n p2 := hh9
          exact pk_bvy (fun v10 e10 => pk_bvy (fun μ11 e11 => pk_bvy (fun v12 e12 => ih (j + 1) _ _ _ (p2 + 1) (by rw [e12, ti_add (by omega) (by omega), e1, h4]; omega) (by omega) (by omega) (by rw [e11]; exact xw_next hw (hr_lt (isD_ne c1))) (by rw [show k - (j + 1) = d by omega, e10, hh9]; exact hd))))
  rw [p_X4_readDigits_eq]
  exact loop FUEL 0 a1 0 μ p e0 (by omega) (by omega) h (by rw [Nat.sub_zero])
def sg1 (a v : Int32) : Int32 := if a = 0 then v else -v
theorem q_XnumV {t : Nat → Int32} {n p : Nat} {μ : Mem} (h : Xw t n p μ) : pk (p_X4_readNumber μ) (fun r => ∀ e, rn t n p = .inr e → r.1 = s_X0_make (nvl t n p).1 (nvl t n p).2) := by
  have e1 : (1 : Int32).toInt = 1 := by decide
  have e5 : (5 : Int32).toInt = ((5 : Nat) : Int) := by decide
  have e3 : (3 : Int32).toInt = ((3 : Nat) : Int) := by decide
  have b95 : ∀ (fu : Nat) (a1 a2 a4 a5 : Int32) (q : Mem) (m d i : Nat), a5.toInt = ((m + i : Nat) : Int) → (q.1 16 2).toInt = ((m + d : Nat) : Int) → i ≤ d → m + d ≤ 800 → a4 = p10 i → pk (p_X4_readNumber_b95 fu a1 a2 a4 a5 q) (fun r => r.1 = s_X0_make 1 (fdv (sg1 a1 a2) d)) := by
    intro fu
    induction fu with
    | zero => intro a1 a2 a4 a5 q m d i _ _ _ _ _ r e; rw [p_X4_readNumber_b95_z] at e; cases e
    | succ fu ih =>
      intro a1 a2 a4 a5 q m d i h5 hq hi hm h4
      rw [p_X4_readNumber_b95_s]
      refine pk_ite (fun c => ?_) (fun c => pk_bvy (fun v22 e22 => pk_bvy (fun v23 e23 => ?_)))
      · rw [ti_le, hq, h5] at c
        have hid : i = d := by omega
        subst hid
        refine pk_ite (fun c => ?_) (fun c => ?_)
        · rw [p_X4_readNumber_b128_eq]; exact pk_bv (pk_bv (pk_some (by show _ = s_X0_make 1 (fdv (sg1 a1 a2) i); unfold fdv sg1; rw [if_pos c, h4])))
        · rw [p_X4_readNumber_b128_eq]; exact pk_bv (pk_bv (pk_some (by show _ = s_X0_make 1 (fdv (sg1 a1 a2) i); unfold fdv sg1; rw [if_neg c, h4])))
      · rw [ti_le, hq, h5] at c
        exact ih a1 a2 v22 v23 q m d (i + 1) (by rw [e23, ti_add (by omega) (by omega), e1, h5]; omega) hq (by omega) hm (by rw [e22, h4]; rfl)
  have b52 : ∀ (a1 a2 : Int32) (q : Mem), pk (p_X4_readNumber_b52 a1 a2 q) (fun r => r.1 = s_X0_make 0 (sg1 a1 a2)) := by
    intro a1 a2 q
    rw [p_X4_readNumber_b52_eq]
    exact pk_ite (fun c => pk_some (by show _ = s_X0_make 0 (sg1 a1 a2); unfold sg1; rw [if_pos c])) (fun c => pk_some (by show _ = s_X0_make 0 (sg1 a1 a2); unfold sg1; rw [if_neg c]))
  have b29 : ∀ (a1 : Int32) (q : Mem), Xw t n (nmp t n p) q → (∀ v, sg1 a1 v = sgn (hr t n p) v) → pk (p_X4_readNumber_b29 a1 q) (fun r => ∀ e, rn t n p = .inr e → r.1 = s_X0_make (nvl t n p).1 (nvl t n p).2) := by
    intro a1 q hw hsg
    rw [p_X4_readNumber_b29_eq]
    refine pk_bd (pk_both (q_Xdigits (a1 := 0) e5 (by omega) hw) (q_XdigitsV (a1 := 0) e5 (by omega) hw)) ?_
    rintro r6 μ5 ⟨⟨hE5, hO⟩, hv⟩
    have hv : r6 = dv t n 5 (nmp t n p) 0 := hv
    by_cases hd : dg t n 5 (nmp t n p) = nmp t n p
    · have hrn : rn t n p = .inl (nmp t n p) := by rw [rn_e, if_pos hd]
      intro r _ e he
      rw [hrn] at he; cases he
    · rw [if_neg hd] at hO
      have hO : Xw t n (dg t n 5 (nmp t n p)) μ5 := hO
      refine pk_bd q_Xwell ?_
      rintro r8 μ7 ⟨e, hw7⟩
      have e : μ7 = μ5 := e
      subst e
      have hw7 : (r8 = 1 ∧ μ7.1 16 3 = -1) ∨ (r8 = 0 ∧ μ7.1 16 3 ≠ -1) := hw7
      have r1 : r8 = 1 := by
        rcases hw7 with ⟨a, _⟩ | ⟨_, b⟩
        · exact a
        · exact absurd hO.2.1 b
      rw [if_neg (by rw [r1]; decide)]
      refine pk_bd (q_Xhere hO) ?_
      rintro r12 μ11 ⟨e, hh⟩
      have e : μ11 = μ7 := e
      subst e
      have hh : r12 = hr t n (dg t n 5 (nmp t n p)) := hh
      refine pk_ite (fun c => pk_bvy (fun μ14 e14 => pk_bvy (fun v15 e15 => ?_))) (fun c => ?_)
      · rw [hh] at c
        have hw14 : Xw t n (dg t n 5 (nmp t n p) + 1) μ14 := by rw [e14]; exact xw_next hO (hr_lt (by rw [c]; decide))
        have h15 : v15.toInt = ((dg t n 5 (nmp t n p) + 1 : Nat) : Int) := by rw [e15]; exact hw14.2.2.1
        refine pk_bd (pk_both (q_Xdigits (a1 := r6) e3 (by omega) hw14) (q_XdigitsV (a1 := r6) e3 (by omega) hw14)) ?_
        rintro r17 μ16 ⟨⟨hE16, hO16⟩, hv17⟩
        have hv17 : r17 = dv t n 3 (dg t n 5 (nmp t n p) + 1) r6 := hv17
        by_cases hd3 : dg t n 3 (dg t n 5 (nmp t n p) + 1) = dg t n 5 (nmp t n p) + 1
        · have hrn : rn t n p = .inl (dg t n 5 (nmp t n p) + 1) := by rw [rn_e, if_neg hd, if_pos c, if_pos hd3]
          intro r _ e he
          rw [hrn] at he; cases he
        · rw [if_neg hd3] at hO16
          have hO16 : Xw t n (dg t n 3 (dg t n 5 (nmp t n p) + 1)) μ16 := hO16
          have hle := dg_le t n 3 (dg t n 5 (nmp t n p) + 1)
          have h800 := hO16.1.2.1
          have hpn := hO16.2.2.2
          refine pk_mono (b95 FUEL a1 r17 1 v15 μ16 (dg t n 5 (nmp t n p) + 1) (dg t n 3 (dg t n 5 (nmp t n p) + 1) - (dg t n 5 (nmp t n p) + 1)) 0 h15 (by rw [hO16.2.2.1]; omega) (by omega) (by omega) rfl) (fun r hr2 e _ => ?_)
          rw [hr2, hsg, hv17, show r6 = dv t n 5 (nmp t n p) 0 from hv]
          unfold nvl
          rw [if_pos c]
      · rw [hh] at c
        refine pk_mono (b52 a1 r6 μ11) (fun r hr2 e _ => ?_)
        rw [hr2, hsg, show r6 = dv t n 5 (nmp t n p) 0 from hv]
        unfold nvl
        rw [if_neg c]
  rw [p_X4_readNumber_eq]
  refine pk_bd (q_Xhere h) ?_
  rintro r2 μ1 ⟨e, hh⟩
  have e : μ1 = μ := e
  subst e
  have hh : r2 = hr t n p := hh
  refine pk_ite (fun c => ?_) (fun c => ?_)
  · rw [hh] at c
    rw [p_X4_readNumber_b14_eq, if_neg (by decide)]
    refine pk_bvy (fun μ24 e24 => b29 _ _ ?_ (fun v => ?_))
    · rw [e24]; unfold nmp; rw [if_pos c]; exact xw_next h (hr_lt (by rw [c]; decide))
    · unfold sg1 sgn; rw [if_pos c, if_neg (by decide)]
  · rw [hh] at c
    rw [p_X4_readNumber_b14_eq, if_pos rfl]
    refine b29 _ _ ?_ (fun v => ?_)
    · unfold nmp; rw [if_neg c]; exact h
    · unfold sg1 sgn; rw [if_neg c, if_pos rfl]
