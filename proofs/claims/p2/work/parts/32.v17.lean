set_option maxHeartbeats 4000000 in
set_option maxRecDepth 100000 in
theorem k_X11_op (a1 : Int32) (a2 : Int32) (a3 : Int32) (μ : Mem) (hI_μ : IX μ) : ok (p_X11_op a1 a2 a3 μ) (fun q => μ = q.2) := by
  have li0 : (0 : Int32).toInt = 0 := by decide
  have li1 : (1 : Int32).toInt = 1 := by decide
  have hF_μ : Fr [] true μ μ := Fr.rf
  have hr_μ : μ.2.2 = μ.2.2 := rfl
  rw [p_X11_op_eq]
  have lo_a1 := ti_lo a1
  have hi_a1 := ti_hi a1
  have lo_a2 := ti_lo a2
  have hi_a2 := ti_hi a2
  have lo_a3 := ti_lo a3
  have hi_a3 := ti_hi a3
  refine ok_ite ?_ ?_
  · intro c1
    rw [ti_eq] at c1
    exact ok_some rfl
  · intro c1
    rw [ti_eq] at c1
    refine ok_bv (fun v2 ev2 => ?_)
    exact ok_some rfl
