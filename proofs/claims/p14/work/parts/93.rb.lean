/-! A CALL, ITS ARGUMENTS -/
/-- every variant can be run from its begin -/
def RB (μ0 : Mem) : Prop := ∀ v, v < nv μ0 110 → ∃ b0 : Nat, iv μ0 62 v = (b0 : Int) ∧ b0 ≤ nv μ0 87 ∧ Rw μ0 v (fun u => (u : Int) < iv μ0 59 v) b0
theorem RI.rb {μ0 : Mem} (h : RI μ0) : RB μ0 := by
  obtain ⟨k, h1, h2, h3⟩ := h
  intro v hv
  obtain ⟨g0, b0, e, o, V, g1, g2, g3, g4, g5, g6⟩ := h1.2.2.2 v (by omega)
  have := g5.le
  exact ⟨b0, g1, by omega, hv, e, o, g2, g3, g4, bk_rn g5 (Nat.le_refl _) (Rn.fin g6)⟩
