/-! the quotient: nearest of a ratio out of a whole part with a sticky bit -/
theorem near_scale {x y k : Nat} (hk : 0 < k) : Jvm.FP.Core.nearest (x * k) (y * k) = Jvm.FP.Core.nearest x y := by
  unfold Jvm.FP.Core.nearest
  rw [Nat.mul_mod_mul_right, Nat.mul_div_mul_right _ _ hk, ← Nat.mul_assoc]
  have e1 : 2 * (x % y) * k < y * k ↔ 2 * (x % y) < y := Nat.mul_lt_mul_right hk
  have e2 : y * k < 2 * (x % y) * k ↔ y < 2 * (x % y) := Nat.mul_lt_mul_right hk
  by_cases a : 2 * (x % y) < y
  · rw [if_pos (e1.mpr a), if_pos a]
  · rw [if_neg (fun z => a (e1.mp z)), if_neg a]
    by_cases b : y < 2 * (x % y)
    · rw [if_pos (e2.mpr b), if_pos b]
    · rw [if_neg (fun z => b (e2.mp z)), if_neg b]
theorem near_sticky {A d Z H : Nat} (hd : 0 < d) (hH : H % 2 = 0) (hH0 : 0 < H) (hZ : Z = if A % d = 0 then A / d else A / d / 2 * 2 + 1) : Jvm.FP.Core.nearest A (d * (2 * H)) = Jvm.FP.Core.nearest Z (2 * H) := by
  have hm := Nat.div_add_mod A d
  have hr := Nat.mod_lt A hd
  generalize hof : A / d = o at hm hZ
  generalize hre : A % d = r at hm hr hZ
  have hm2 := Nat.div_add_mod o (2 * H)
  have hr2 := Nat.mod_lt o (show 0 < 2 * H by omega)
  have hu : A / (d * (2 * H)) = o / (2 * H) := by rw [← Nat.div_div_eq_div_mul, hof]
  have hrho : A % (d * (2 * H)) = o % (2 * H) * d + r := by
    rw [Nat.mod_mul, hof, hre]
    rw [Nat.mul_comm d]; omega
  have hpar : 2 * H * (o / (2 * H)) % 2 = 0 := by rw [Nat.mul_assoc, Nat.mul_mod_right]
  have hZu : Z / (2 * H) = o / (2 * H) ∧ Z % (2 * H) = if r = 0 then o % (2 * H) else o % (2 * H) / 2 * 2 + 1 := by
    by_cases c : r = 0
    · rw [hZ, if_pos c, if_pos c]; exact ⟨rfl, rfl⟩
    · rw [hZ, if_neg c, if_neg c]
      generalize hv : o % (2 * H) = v at hm2 hr2
      generalize hU : 2 * H * (o / (2 * H)) = U at hm2 hpar
      have e : o / 2 * 2 + 1 = (v / 2 * 2 + 1) + 2 * H * (o / (2 * H)) := by rw [hU]; omega
      have hl : v / 2 * 2 + 1 < 2 * H := by omega
      rw [e, Nat.add_mul_div_left _ _ (show 0 < 2 * H by omega), Nat.add_mul_mod_self_left, Nat.div_eq_of_lt hl, Nat.mod_eq_of_lt hl, Nat.zero_add]
      exact ⟨rfl, rfl⟩
  unfold Jvm.FP.Core.nearest
  rw [hu, hrho, hZu.1, hZu.2]
  generalize o % (2 * H) = v at hr2
  have k1 : v < H → v * d + r < H * d := by
    intro h
    have : (v + 1) * d ≤ H * d := Nat.mul_le_mul_right d h
    rw [Nat.add_mul] at this; omega
  have k2 : H ≤ v → H * d ≤ v * d := fun h => Nat.mul_le_mul_right d h
  have k3 : H < v → H * d + d ≤ v * d := by
    intro h
    have : (H + 1) * d ≤ v * d := Nat.mul_le_mul_right d h
    rw [Nat.add_mul] at this; omega
  have e0 : d * (2 * H) = 2 * (H * d) := by rw [Nat.mul_comm d, Nat.mul_assoc]
  rw [e0]
  have k4 : v = H → v * d = H * d := fun h => by rw [h]
  generalize v * d = P at k1 k2 k3 k4
  generalize H * d = R at k1 k2 k3 k4
  by_cases c : r = 0
  · rw [if_pos c]
    rcases Nat.lt_trichotomy v H with h | h | h
    · have := k1 h
      rw [if_pos (show 2 * (P + r) < 2 * R by omega), if_pos (show 2 * v < 2 * H by omega)]
    · have := k4 h
      rw [if_neg (show ¬ 2 * (P + r) < 2 * R by omega), if_neg (show ¬ 2 * R < 2 * (P + r) by omega), if_neg (show ¬ 2 * v < 2 * H by omega), if_neg (show ¬ 2 * H < 2 * v by omega)]
    · have := k3 h
      rw [if_neg (show ¬ 2 * (P + r) < 2 * R by omega), if_pos (show 2 * R < 2 * (P + r) by omega), if_neg (show ¬ 2 * v < 2 * H by omega), if_pos (show 2 * H < 2 * v by omega)]
  · rw [if_neg c]
    rcases Nat.lt_or_ge v H with h | h
    · have := k1 h
      rw [if_pos (show 2 * (P + r) < 2 * R by omega), if_pos (show 2 * (v / 2 * 2 + 1) < 2 * H by omega)]
    · have := k2 h
      rw [if_neg (show ¬ 2 * (P + r) < 2 * R by omega), if_pos (show 2 * R < 2 * (P + r) by omega), if_neg (show ¬ 2 * (v / 2 * 2 + 1) < 2 * H by omega), if_pos (show 2 * H < 2 * (v / 2 * 2 + 1) by omega)]
theorem lead_bounds {c d : Nat} {k : Int} (hc : 0 < c) (hd : 0 < d) (t : Nat) (h1 : d * 2 ^ (k + t).toNat ≤ c * 2 ^ t) (h2 : c * 2 ^ t < d * 2 ^ ((k + t).toNat + 1)) (ht : 0 ≤ k + t) : Jvm.FP.Core.leading c d = k := by
  sorry
