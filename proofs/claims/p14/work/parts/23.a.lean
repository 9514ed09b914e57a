theorem lg_nz {x y : Int64} (h : ¬ lg_cmp x y = 0) : ¬ x = y := by
  intro e
  subst e
  apply h
  unfold lg_cmp
  rw [if_neg (by simp), if_pos rfl]
