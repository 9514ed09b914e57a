def isVa (c : Int32) : Bool := !decide (c < 109) && !decide (122 < c)
def isSg (c : Int32) : Bool := decide (c = 43) || (decide (c = 45) || (decide (c = 42) || (decide (c = 47) || (decide (c = 37) || (decide (c = 60) || decide (c = 61))))))
def isPl (c : Int32) : Bool := !decide (c < 48) && !decide (55 < c)
def bnd {α β : Type} (o : Rd α) (f : α → Rd β) : Rd β := match o with | .inl x => .inl x | .inr a => f a
def tk (t : Nat → Int32) (n : Nat) (c : Int32) (o : Rd (Nat × Nat)) : Rd (Nat × Nat) := bnd o (fun v => if hr t n v.1 = c then .inr (v.1 + 1, v.2) else .inl v.1)
def tc (t : Nat → Int32) (n : Nat) (f : Int32 → Bool) (o : Rd (Nat × Nat)) : Rd (Nat × Nat) := bnd o (fun v => if f (hr t n v.1) = true then .inr (v.1 + 1, v.2) else .inl v.1)
def mo (t : Nat → Int32) (n : Nat) (e : Nat × Nat → Rd (Nat × Nat)) (o : Rd (Nat × Nat)) : Rd (Nat × Nat) := bnd o (fun v => if hr t n v.1 = 44 then e (v.1 + 1, v.2) else .inr v)
def mos (t : Nat → Int32) (n : Nat) (e : Nat × Nat → Rd (Nat × Nat)) : Nat → Rd (Nat × Nat) → Rd (Nat × Nat)
  | 0, o => o
  | k + 1, o => mos t n e k (mo t n e o)
def ag (t : Nat → Int32) (n : Nat) (e : Nat × Nat → Rd (Nat × Nat)) (o : Rd (Nat × Nat)) : Rd (Nat × Nat) := bnd o (fun v => if hr t n v.1 = 41 then .inr (v.1 + 1, v.2) else tk t n 41 (mos t n e 4 (e v)))
def isT1 (h : Int32) : Bool := decide (h = 33) || (decide (h = 35) || (decide (h = 36) || (decide (h = 64) || (decide (h = 94) || decide (h = 126)))))
def rsg (t : Nat → Int32) (n : Nat) (e : List Int32 → Nat × Nat → Rd (Nat × Nat)) (N : List Int32) (h : Int32) (p c : Nat) : Rd (Nat × Nat) :=
  if isT1 h = true then e N (p + 1, c)
  else if h = 38 then bnd (tc t n isPl (.inr (p + 1, c))) (e N)
  else if h = 40 then tk t n 41 (bnd (tc t n isSg (e N (p + 1, c))) (e N))
  else if h = 58 then bnd (tk t n 44 (bnd (tk t n 61 (tc t n isVa (.inr (p + 1, c)))) (e N))) (e (hr t n (p + 1) :: N))
  else if h = 63 then tk t n 41 (bnd (tk t n 44 (bnd (tk t n 44 (bnd (tk t n 40 (.inr (p + 1, c))) (e N))) (e N))) (e N))
  else if h = 91 then tk t n 93 (bnd (tk t n 44 (e N (p + 1, c))) (e N))
  else if h = 95 then tc t n isPl (.inr (p + 1, c))
  else .inl p
def re (t : Nat → Int32) (n : Nat) : Nat → List Int32 → Nat × Nat → Rd (Nat × Nat)
  | 0, _, v => .inl v.1
  | r + 1, N, v =>
    if 80 ≤ v.2 then .inl v.1
    else if hr t n v.1 = 45 ∨ isD (hr t n v.1) = true then bnd (rn t n v.1) (fun q => .inr (q, v.2 + 1))
    else if isVa (hr t n v.1) = true then (if hr t n v.1 ∈ N then .inr (v.1 + 1, v.2 + 1) else .inl v.1)
    else if isL (hr t n v.1) = true then ag t n (re t n r N) (tk t n 40 (.inr (v.1 + 1, v.2 + 1)))
    else rsg t n (re t n r) N (hr t n v.1) v.1 (v.2 + 1)
theorem x6_fail (a : Int32) (μ : Mem) : pk (p_X4_fail a μ) (fun q => q.1 16 6 = μ.1 16 6) := by
  rw [p_X4_fail_eq]
  exact pk_ite (fun _ => pk_bv (pk_some (by rw [sF_k (by decide)]))) (fun _ => pk_some rfl)
theorem x6_here (μ : Mem) : pk (p_X4_here μ) (fun r => r.2 = μ) := by
  rw [p_X4_here_eq]
  exact pk_ite (fun _ => pk_some rfl) (fun _ => pk_ite (fun _ => pk_some rfl) (fun _ => pk_gd (fun _ => pk_some rfl)))
theorem x6_well (μ : Mem) : pk (p_X4_isWell μ) (fun r => r.2 = μ) := pk_mono q_Xwell (fun _ h => h.1)
theorem x6_take (a : Int32) (μ : Mem) : pk (p_X4_take a μ) (fun r => r.2.1 16 6 = μ.1 16 6) := by
  rw [p_X4_take_eq]
  refine pk_bd (x6_well μ) (fun r q e => ?_)
  have e : q = μ := e
  subst e
  refine pk_ite (fun _ => pk_some rfl) (fun _ => pk_bd (x6_here q) (fun r2 q2 e => ?_))
  have e : q2 = q := e
  subst e
  exact pk_ite (fun _ => pk_bv (pk_some (by rw [sF_k (by decide)]))) (fun _ => pk_bw (x6_fail _ _) (fun z hz => pk_some hz))
theorem x6_digits (a1 a2 : Int32) (μ : Mem) : pk (p_X4_readDigits a1 a2 μ) (fun r => r.2.1 16 6 = μ.1 16 6) := by
  have b50 : ∀ (a3 a4 : Int32) (q : Mem), q.1 16 6 = μ.1 16 6 → pk (p_X4_readDigits_b50 a3 a4 q) (fun r => r.2.1 16 6 = μ.1 16 6) := by
    intro a3 a4 q h
    rw [p_X4_readDigits_b50_eq]
    exact pk_ite (fun _ => pk_bw (x6_fail _ _) (fun z hz => pk_some (by show z.1 16 6 = _; rw [hz]; exact h))) (fun _ => pk_some h)
  have loop : ∀ (fu : Nat) (a3 a4 : Int32) (q : Mem), q.1 16 6 = μ.1 16 6 → pk (p_X4_readDigits_b5 fu a2 a3 a4 q) (fun r => r.2.1 16 6 = μ.1 16 6) := by
    intro fu
    induction fu with
    | zero => intro a3 a4 q _ r e; rw [p_X4_readDigits_b5_z] at e; cases e
    | succ fu ih =>
      intro a3 a4 q h
      rw [p_X4_readDigits_b5_s]
      refine pk_ite (fun _ => b50 _ _ _ h) (fun _ => pk_bd (x6_here q) (fun r2 q2 e => ?_))
      have e : q2 = q := e
      subst e
      refine pk_ite (fun _ => b50 _ _ _ h) (fun _ => pk_bd (x6_here q2) (fun r3 q3 e => ?_))
      have e : q3 = q2 := e
      subst e
      exact pk_bv (pk_bv (pk_bv (ih _ _ _ (by rw [sF_k (by decide)]; exact h))))
  rw [p_X4_readDigits_eq]
  exact loop _ _ _ μ rfl
theorem x6_number (μ : Mem) : pk (p_X4_readNumber μ) (fun r => r.2.1 16 6 = μ.1 16 6) := by
  have b52 : ∀ (a1 a2 : Int32) (q : Mem), q.1 16 6 = μ.1 16 6 → pk (p_X4_readNumber_b52 a1 a2 q) (fun r => r.2.1 16 6 = μ.1 16 6) := by
    intro a1 a2 q hq
    rw [p_X4_readNumber_b52_eq]
    exact pk_ite (fun _ => pk_some hq) (fun _ => pk_some hq)
  have b95 : ∀ (fu : Nat) (a1 a2 a4 a5 : Int32) (q : Mem), q.1 16 6 = μ.1 16 6 → pk (p_X4_readNumber_b95 fu a1 a2 a4 a5 q) (fun r => r.2.1 16 6 = μ.1 16 6) := by
    intro fu
    induction fu with
    | zero => intro a1 a2 a4 a5 q _ r e; rw [p_X4_readNumber_b95_z] at e; cases e
    | succ fu ih =>
      intro a1 a2 a4 a5 q hq
      rw [p_X4_readNumber_b95_s]
      refine pk_ite (fun _ => pk_ite (fun _ => ?_) (fun _ => ?_)) (fun _ => pk_bv (pk_bv (ih _ _ _ _ _ hq)))
      · rw [p_X4_readNumber_b128_eq]; exact pk_bv (pk_bv (pk_some hq))
      · rw [p_X4_readNumber_b128_eq]; exact pk_bv (pk_bv (pk_some hq))
  have b29 : ∀ (a1 : Int32) (q : Mem), q.1 16 6 = μ.1 16 6 → pk (p_X4_readNumber_b29 a1 q) (fun r => r.2.1 16 6 = μ.1 16 6) := by
    intro a1 q hq
    rw [p_X4_readNumber_b29_eq]
    refine pk_bd (x6_digits _ _ q) (fun r6 μ5 h5 => pk_bd (x6_well μ5) (fun r8 μ7 e => ?_))
    have h5 : μ5.1 16 6 = q.1 16 6 := h5
    have e : μ7 = μ5 := e
    subst e
    refine pk_ite (fun _ => b52 _ _ _ (h5.trans hq)) (fun _ => pk_bd (x6_here μ7) (fun r9 μ9 e => ?_))
    have e : μ9 = μ7 := e
    subst e
    refine pk_ite (fun _ => pk_bv (pk_bv (pk_bd (x6_digits _ _ _) (fun r17 μ16 h16 => b95 _ _ _ _ _ _ ?_)))) (fun _ => b52 _ _ _ (h5.trans hq))
    have h16 : μ16.1 16 6 = (sF μ9 16 2 (μ9.1 16 2 + 1)).1 16 6 := h16
    rw [h16, sF_k (by decide)]; exact h5.trans hq
  have b14 : ∀ (k0 : Int32) (q : Mem), q.1 16 6 = μ.1 16 6 → pk (p_X4_readNumber_b14 k0 q) (fun r => r.2.1 16 6 = μ.1 16 6) := by
    intro k0 q hq
    rw [p_X4_readNumber_b14_eq]
    exact pk_ite (fun _ => b29 _ _ hq) (fun _ => pk_bv (b29 _ _ (by rw [sF_k (by decide)]; exact hq)))
  rw [p_X4_readNumber_eq]
  refine pk_bd (x6_here μ) (fun r2 μ1 e => ?_)
  have e : μ1 = μ := e
  subst e
  exact pk_ite (fun _ => b14 _ _ rfl) (fun _ => b14 _ _ rfl)
