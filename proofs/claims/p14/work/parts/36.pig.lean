/-- no more pigeons than holes -/
theorem pigeon : ∀ (m n : Nat) (f : Nat → Nat), (∀ k, k < n → f k < m) → (∀ i j, i < n → j < n → f i = f j → i = j) → n ≤ m := by
  intro m
  induction m with
  | zero =>
    intro n f h _
    cases n with
    | zero => exact Nat.le_refl _
    | succ n => exact absurd (h 0 (Nat.succ_pos n)) (Nat.not_lt_zero _)
  | succ m ih =>
    intro n f h hi
    by_cases e : ∃ k0, k0 < n ∧ f k0 = m
    · obtain ⟨k0, hk0, he⟩ := e
      have h1 : n - 1 ≤ m := by
        refine ih (n - 1) (fun k => if k < k0 then f k else f (k + 1)) ?_ ?_
        · intro k hk
          show (if k < k0 then f k else f (k + 1)) < m
          by_cases c : k < k0
          · rw [if_pos c]
            have h2 := h k (by omega)
            have h3 : f k ≠ m := fun z => by
              have h4 := hi k k0 (by omega) hk0 (z.trans he.symm)
              omega
            omega
          · rw [if_neg c]
            have h2 := h (k + 1) (by omega)
            have h3 : f (k + 1) ≠ m := fun z => by
              have h4 := hi (k + 1) k0 (by omega) hk0 (z.trans he.symm)
              omega
            omega
        · intro i j hi1 hj1 hij
          replace hij : (if i < k0 then f i else f (i + 1)) = (if j < k0 then f j else f (j + 1)) := hij
          by_cases c1 : i < k0 <;> by_cases c2 : j < k0
          · rw [if_pos c1, if_pos c2] at hij
            exact hi i j (by omega) (by omega) hij
          · rw [if_pos c1, if_neg c2] at hij
            have h4 := hi i (j + 1) (by omega) (by omega) hij
            omega
          · rw [if_neg c1, if_pos c2] at hij
            have h4 := hi (i + 1) j (by omega) (by omega) hij
            omega
          · rw [if_neg c1, if_neg c2] at hij
            have h4 := hi (i + 1) (j + 1) (by omega) (by omega) hij
            omega
      omega
    · have h1 : n ≤ m := by
        refine ih n f ?_ hi
        intro k hk
        have h2 := h k hk
        have h3 : f k ≠ m := fun z => e ⟨k, hk, z⟩
        omega
      omega
