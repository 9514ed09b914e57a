theorem near_scale {x y k : Nat} (hk : 0 < k) : Jvm.FP.Core.nearest (x * k) (y * k) = Jvm.FP.Core.nearest x y := by
  unfold Jvm.FP.Core.nearest
  rw [Nat.mul_mod_mul_right, Nat.mul_div_mul_right _ _ hk, ← Nat.mul_assoc]
  have e1 : 2 * (x % y) * k < y * k ↔ 2 * (x % y) < y := Nat.mul_lt_mul_right hk
  have e2 : y * k < 2 * (x % y) * k ↔ y < 2 * (x % y) := Nat.mul_lt_mul_right hk
  by_cases a : 2 * (x % y) < y
  · rw [if_pos (e1.mpr a), if_pos a]
  · rw [if_neg (fun z => a (e1.mp z)), if_neg a]
    by_cases b : y < 2 * (x % y)
    · rw [if_pos (e2.mpr b), if_pos b]
    · rw [if_neg (fun z => b (e2.mp z)), if_neg b]
theorem near_sticky {A d Z H : Nat} (hd : 0 < d) (hH : H % 2 = 0) (hH0 : 0 < H) (hZ : Z = if A % d = 0 then A / d else A / d / 2 * 2 + 1) : Jvm.FP.Core.nearest A (d * (2 * H)) = Jvm.FP.Core.nearest Z (2 * H) := by
  have hm := Nat.div_add_mod A d
  have hr := Nat.mod_lt A hd
  generalize hof : A / d = o at hm hZ
  generalize hre : A % d = r at hm hr hZ
  have hm2 := Nat.div_add_mod o (2 * H)
  have hr2 := Nat.mod_lt o (show 0 < 2 * H by omega)
  have hu : A / (d * (2 * H)) = o / (2 * H) := by rw [← Nat.div_div_eq_div_mul, hof]
  have hrho : A % (d * (2 * H)) = o % (2 * H) * d + r := by
    rw [Nat.mod_mul, hof, hre]
    rw [Nat.mul_comm d]; omega
  have hpar : 2 * H * (o / (2 * H)) % 2 = 0 := by rw [Nat.mul_assoc, Nat.mul_mod_right]
  have hZu : Z / (2 * H) = o / (2 * H) ∧ Z % (2 * H) = if r = 0 then o % (2 * H) else o % (2 * H) / 2 * 2 + 1 := by
    by_cases c : r = 0
    · rw [hZ, if_pos c, if_pos c]; exact ⟨rfl, rfl⟩
    · rw [hZ, if_neg c, if_neg c]
      generalize hv : o % (2 * H) = v at hm2 hr2
      generalize hU : 2 * H * (o / (2 * H)) = U at hm2 hpar
      have e : o / 2 * 2 + 1 = (v / 2 * 2 + 1) + 2 * H * (o / (2 * H)) := by rw [hU]; omega
      have hl : v / 2 * 2 + 1 < 2 * H := by omega
      rw [e, Nat.add_mul_div_left _ _ (show 0 < 2 * H by omega), Nat.add_mul_mod_self_left, Nat.div_eq_of_lt hl, Nat.mod_eq_of_lt hl, Nat.zero_add]
      exact ⟨rfl, rfl⟩
  unfold Jvm.FP.Core.nearest
  rw [hu, hrho, hZu.1, hZu.2]
  generalize o % (2 * H) = v at hr2
  have k1 : v < H → v * d + r < H * d := by
    intro h
    have : (v + 1) * d ≤ H * d := Nat.mul_le_mul_right d h
    rw [Nat.add_mul] at this; omega
  have k2 : H ≤ v → H * d ≤ v * d := fun h => Nat.mul_le_mul_right d h
  have k3 : H < v → H * d + d ≤ v * d := by
    intro h
    have : (H + 1) * d ≤ v * d := Nat.mul_le_mul_right d h
    rw [Nat.add_mul] at this; omega
  have e0 : d * (2 * H) = 2 * (H * d) := by rw [Nat.mul_comm d, Nat.mul_assoc]
  rw [e0]
  have k4 : v = H → v * d = H * d := fun h => by rw [h]
  generalize v * d = P at k1 k2 k3 k4
  generalize H * d = R at k1 k2 k3 k4
  by_cases c : r = 0
  · rw [if_pos c]
    rcases Nat.lt_trichotomy v H with h | h | h
    · have := k1 h
      rw [if_pos (show 2 * (P + r) < 2 * R by omega), if_pos (show 2 * v < 2 * H by omega)]
    · have := k4 h
      rw [if_neg (show ¬ 2 * (P + r) < 2 * R by omega), if_neg (show ¬ 2 * R < 2 * (P + r) by omega), if_neg (show ¬ 2 * v < 2 * H by omega), if_neg (show ¬ 2 * H < 2 * v by omega)]
    · have := k3 h
      rw [if_neg (show ¬ 2 * (P + r) < 2 * R by omega), if_pos (show 2 * R < 2 * (P + r) by omega), if_neg (show ¬ 2 * v < 2 * H by omega), if_pos (show 2 * H < 2 * v by omega)]
  · rw [if_neg c]
    rcases Nat.lt_or_ge v H with h | h
    · have := k1 h
      rw [if_pos (show 2 * (P + r) < 2 * R by omega), if_pos (show 2 * (v / 2 * 2 + 1) < 2 * H by omega)]
    · have := k2 h
      rw [if_neg (show ¬ 2 * (P + r) < 2 * R by omega), if_pos (show 2 * R < 2 * (P + r) by omega), if_neg (show ¬ 2 * (v / 2 * 2 + 1) < 2 * H by omega), if_pos (show 2 * H < 2 * (v / 2 * 2 + 1) by omega)]
theorem lead_bounds {c d t : Nat} {k : Int} (hc : 0 < c) (hd : 0 < d) (ht : 0 ≤ k + t) (ht2 : d.log2 ≤ t) (h1 : d * 2 ^ (k + t).toNat ≤ c * 2 ^ t) (h2 : c * 2 ^ t < d * 2 ^ ((k + t).toNat + 1)) : Jvm.FP.Core.leading c d = k := by
  have lc := (Nat.log2_eq_iff (n := c) (by omega)).mp rfl
  have ld := (Nat.log2_eq_iff (n := d) (by omega)).mp rfl
  obtain ⟨k0, hk0⟩ : ∃ k0 : Int, k0 = (c.log2 : Int) - (d.log2 : Int) := ⟨_, rfl⟩
  have hcond : d * 2 ^ k0.toNat ≤ c * 2 ^ (-k0).toNat ↔ d * 2 ^ (k0 + t).toNat ≤ c * 2 ^ t := by
    by_cases p : 0 ≤ k0
    · rw [show (-k0).toNat = 0 by omega, Nat.pow_zero, Nat.mul_one, show (k0 + t).toNat = k0.toNat + t by omega, Nat.pow_add, ← Nat.mul_assoc]
      exact (Nat.mul_le_mul_right_iff (Nat.two_pow_pos t)).symm
    · have e : (2 : Nat) ^ t = 2 ^ (-k0).toNat * 2 ^ (k0 + t).toNat := by rw [← Nat.pow_add]; congr 1; omega
      rw [show k0.toNat = 0 by omega, Nat.pow_zero, Nat.mul_one, e, ← Nat.mul_assoc]
      exact (Nat.mul_le_mul_right_iff (Nat.two_pow_pos _)).symm
  have up : k ≤ k0 := by
    refine Int.not_lt.mp (fun z => ?_)
    have e1 : d * 2 ^ (c.log2 + 1 + t - d.log2) ≤ d * 2 ^ (k + t).toNat := Nat.mul_le_mul_left d (Nat.pow_le_pow_right (by decide) (by omega))
    have e2 : 2 ^ d.log2 * 2 ^ (c.log2 + 1 + t - d.log2) ≤ d * 2 ^ (c.log2 + 1 + t - d.log2) := Nat.mul_le_mul_right _ ld.1
    rw [← Nat.pow_add, show d.log2 + (c.log2 + 1 + t - d.log2) = c.log2 + 1 + t by omega, Nat.pow_add] at e2
    have e3 : c * 2 ^ t < 2 ^ (c.log2 + 1) * 2 ^ t := Nat.mul_lt_mul_of_pos_right lc.2 (Nat.two_pow_pos t)
    omega
  have lo : k0 - 1 ≤ k := by
    refine Int.not_lt.mp (fun z => ?_)
    have e1 : d * 2 ^ ((k + t).toNat + 1) ≤ d * 2 ^ (c.log2 + t - d.log2 - 1) := Nat.mul_le_mul_left d (Nat.pow_le_pow_right (by decide) (by omega))
    have e2 : d * 2 ^ (c.log2 + t - d.log2 - 1) ≤ 2 ^ (d.log2 + 1) * 2 ^ (c.log2 + t - d.log2 - 1) := Nat.mul_le_mul_right _ (Nat.le_of_lt ld.2)
    rw [← Nat.pow_add, show d.log2 + 1 + (c.log2 + t - d.log2 - 1) = c.log2 + t by omega, Nat.pow_add] at e2
    have e3 : 2 ^ c.log2 * 2 ^ t ≤ c * 2 ^ t := Nat.mul_le_mul_right _ lc.1
    omega
  unfold Jvm.FP.Core.leading
  show (if d * 2 ^ ((c.log2 : Int) - (d.log2 : Int)).toNat ≤ c * 2 ^ (-((c.log2 : Int) - (d.log2 : Int))).toNat then ((c.log2 : Int) - (d.log2 : Int)) else ((c.log2 : Int) - (d.log2 : Int)) - 1) = k
  rw [← hk0]
  by_cases p : d * 2 ^ k0.toNat ≤ c * 2 ^ (-k0).toNat
  · rw [if_pos p]
    have p2 := hcond.mp p
    refine Int.le_antisymm (Int.not_lt.mp (fun z => ?_)) up
    have e1 : d * 2 ^ ((k + t).toNat + 1) ≤ d * 2 ^ (k0 + t).toNat := Nat.mul_le_mul_left d (Nat.pow_le_pow_right (by decide) (by omega))
    omega
  · rw [if_neg p]
    have p2 : ¬ d * 2 ^ (k0 + t).toNat ≤ c * 2 ^ t := fun z => p (hcond.mpr z)
    refine Int.le_antisymm lo (Int.not_lt.mp (fun z => ?_))
    have e1 : d * 2 ^ (k0 + t).toNat ≤ d * 2 ^ (k + t).toNat := Nat.mul_le_mul_left d (Nat.pow_le_pow_right (by decide) (by omega))
    omega
def sZ (A d : Nat) : Nat := if A % d = 0 then A / d else A / d / 2 * 2 + 1
theorem rr_div {c d sh : Nat} {e : Int} (s : Bool) (hc : 0 < c) (hd : 0 < d) (hd2 : d < 2 ^ 24) (hA1 : 2 ^ 60 ≤ c * 2 ^ sh) (hsh : 24 ≤ sh) : Jvm.FP.Core.roundRatio B s c d e = Jvm.FP.Core.roundRatio B s (sZ (c * 2 ^ sh) d) 1 (e - sh) := by
  have hof : 2 ^ 36 ≤ c * 2 ^ sh / d := by
    rw [Nat.le_div_iff_mul_le hd]
    have : 2 ^ 36 * d ≤ 2 ^ 36 * 2 ^ 24 := Nat.mul_le_mul_left _ (by omega)
    omega
  have hm := Nat.div_add_mod (c * 2 ^ sh) d
  have hr := Nat.mod_lt (c * 2 ^ sh) hd
  have hl := (Nat.log2_eq_iff (n := c * 2 ^ sh / d) (by omega)).mp rfl
  have hl36 : 36 ≤ (c * 2 ^ sh / d).log2 := (Nat.le_log2 (by omega)).mpr hof
  have hld : d.log2 ≤ sh := by
    have := (Nat.log2_lt (n := d) (k := 24) (by omega)).mpr hd2
    omega
  have hZ : sZ (c * 2 ^ sh) d / 2 = c * 2 ^ sh / d / 2 := by unfold sZ; split <;> omega
  have hlZ : (sZ (c * 2 ^ sh) d).log2 = (c * 2 ^ sh / d).log2 := by
    obtain ⟨m, hmm⟩ : ∃ m, (c * 2 ^ sh / d).log2 = m + 1 := ⟨(c * 2 ^ sh / d).log2 - 1, by omega⟩
    rw [hmm] at hl ⊢
    have p1 : (2 : Nat) ^ (m + 1) = 2 ^ m * 2 := Nat.pow_succ _ _
    have p2 : (2 : Nat) ^ (m + 1 + 1) = 2 ^ m * 2 * 2 := by rw [Nat.pow_succ, Nat.pow_succ]
    rw [Nat.log2_eq_iff (by omega)]
    omega
  have hlead : Jvm.FP.Core.leading c d = ((c * 2 ^ sh / d).log2 : Int) - sh := by
    refine lead_bounds (t := sh) hc hd (by omega) hld ?_ ?_
    · rw [show (((c * 2 ^ sh / d).log2 : Int) - sh + sh).toNat = (c * 2 ^ sh / d).log2 by omega]
      have := Nat.mul_le_mul_left d hl.1
      omega
    · rw [show (((c * 2 ^ sh / d).log2 : Int) - sh + sh).toNat = (c * 2 ^ sh / d).log2 by omega]
      have h3 : d * (c * 2 ^ sh / d + 1) ≤ d * 2 ^ ((c * 2 ^ sh / d).log2 + 1) := Nat.mul_le_mul_left d hl.2
      rw [Nat.mul_add] at h3
      omega
  unfold Jvm.FP.Core.roundRatio
  rw [if_neg (by omega), if_neg (by omega)]
  unfold Jvm.FP.Core.roundAt Jvm.FP.Core.quantum
  rw [hlead, lead_eq (by omega), hlZ, b_qmin, b_p24, show ((c * 2 ^ sh / d).log2 : Int) - sh + e = ((c * 2 ^ sh / d).log2 : Int) + (e - sh) by omega]
  generalize hK : max (-149 : Int) (((c * 2 ^ sh / d).log2 : Int) + (e - sh) - (((24 : Nat) : Int) - 1)) = K
  have hKl : ((c * 2 ^ sh / d).log2 : Int) + (e - sh) - 23 ≤ K := by omega
  congr 1
  unfold Jvm.FP.Core.unitsNum Jvm.FP.Core.unitsDen
  obtain ⟨D, hD⟩ : ∃ D : Nat, K - (e - sh) = ((D + 2 : Nat) : Int) := ⟨(K - (e - sh)).toNat - 2, by omega⟩
  rw [show (e - sh - K).toNat = 0 by omega, Nat.pow_zero, Nat.mul_one, show (K - (e - sh)).toNat = D + 2 by omega, Nat.one_mul, show (2 : Nat) ^ (D + 2) = 2 * 2 ^ (D + 1) by rw [Nat.pow_succ, Nat.mul_comm]]
  have hEv : (2 : Nat) ^ (D + 1) % 2 = 0 := by rw [Nat.pow_succ, Nat.mul_mod_left]
  rw [← near_sticky (A := c * 2 ^ sh) (d := d) (Z := sZ (c * 2 ^ sh) d) (H := 2 ^ (D + 1)) hd hEv (Nat.two_pow_pos _) rfl]
  have hD2 : d * (2 * 2 ^ (D + 1)) = d * 2 ^ (D + 2) := by rw [Nat.pow_succ 2 (D + 1), Nat.mul_comm 2]
  rw [hD2]
  by_cases p : e ≤ K
  · rw [show (e - K).toNat = 0 by omega, Nat.pow_zero, Nat.mul_one, ← near_scale (x := c) (y := d * 2 ^ (K - e).toNat) (Nat.two_pow_pos sh), Nat.mul_assoc d, ← Nat.pow_add, show (K - e).toNat + sh = D + 2 by omega]
  · rw [show (K - e).toNat = 0 by omega, Nat.pow_zero, Nat.mul_one, ← near_scale (x := c * 2 ^ (e - K).toNat) (y := d) (Nat.two_pow_pos (D + 2)), Nat.mul_assoc c, ← Nat.pow_add, show (e - K).toNat + (D + 2) = sh by omega]
