theorem KK_start {s : State} {args : Array Value} (hts : ∀ w ∈ lw_all, w.before args s = true) (hao : (Cond.arrayOver (.object "OnlineParts$Pattern")).before args s = true) : ∃ G : Gt, KK G s := by
  obtain ⟨c0, i0, k0⟩ := u_known (C := RX1) (T := TX1) (N := 10) (n := 10) hts inX1 (hts _ ia_X1)
  obtain ⟨c1, i1, k1⟩ := u_known (C := RX2) (T := TX2) (N := 4) (n := 4) hts inX2 (hts _ ia_X2)
  obtain ⟨c2, i2, k2⟩ := u_known (C := RX3) (T := TX3) (N := 9) (n := 9) hts inX3 (hts _ ia_X3)
  obtain ⟨c3, i3, k3⟩ := u_known (C := RX4) (T := TX4) (N := 7) (n := 7) hts inX4 (hts _ ia_X4)
  obtain ⟨c4, i4, k4⟩ := u_known (C := RX5) (T := TX5) (N := 14) (n := 14) hts inX5 (hts _ ia_X5)
  obtain ⟨c5, i5, k5⟩ := u_known (C := RX6) (T := TX6) (N := 9) (n := 9) hts inX6 (hts _ ia_X6)
  obtain ⟨c6, i6, k6⟩ := u_known (C := RX7) (T := TX7) (N := 6) (n := 6) hts inX7 (hts _ ia_X7)
  obtain ⟨c7, i7, k7⟩ := u_known (C := RX8) (T := TX8) (N := 11) (n := 11) hts inX8 (hts _ ia_X8)
  obtain ⟨c8, i8, k8⟩ := u_known (C := RX9) (T := TX9) (N := 2) (n := 2) hts inX9 (hts _ ia_X9)
  obtain ⟨c9, i9, k9⟩ := u_known (C := RX10) (T := TX10) (N := 18) (n := 18) hts inX10 (hts _ ia_X10)
  obtain ⟨c10, i10, k10⟩ := u_known (C := RX11) (T := TX11) (N := 20) (n := 20) hts inX11 (hts _ ia_X11)
  obtain ⟨c11, i11, k11⟩ := u_known (C := RX12) (T := TX12) (N := 141) (n := 141) hts inX12 (hts _ ia_X12)
  obtain ⟨cB, kB, pB, aB1, aB2, aB3⟩ := Cond.arrayClass_spec (hts _ ac_byte)
  obtain ⟨cI, kI, pI, aI1, aI2, aI3⟩ := Cond.arrayClass_spec (hts _ ac_int)
  obtain ⟨cJ, kJ, pJ, aJ1, aJ2, aJ3⟩ := Cond.arrayClass_spec (hts _ ac_long)
  obtain ⟨pP, cP, kP, b1, b2, b3, b4, b5⟩ := Cond.arrayOver_spec hao
  refine ⟨((fun k => if k = 0 then c0 else if k = 1 then c1 else if k = 2 then c2 else if k = 3 then c3 else if k = 4 then c4 else if k = 5 then c5 else if k = 6 then c6 else if k = 7 then c7 else if k = 8 then c8 else if k = 9 then c9 else if k = 10 then c10 else c11, fun k => if k = 0 then i0 else if k = 1 then i1 else if k = 2 then i2 else if k = 3 then i3 else if k = 4 then i4 else if k = 5 then i5 else if k = 6 then i6 else if k = 7 then i7 else if k = 8 then i8 else if k = 9 then i9 else if k = 10 then i10 else i11), cB, cI, cJ, cP), ⟨?_, ?_⟩, va_AO.of hao⟩
  · intro k q hq
    match k, hq with
    | 0, hq => cases hq; exact k0
    | 1, hq => cases hq; exact k1
    | 2, hq => cases hq; exact k2
    | 3, hq => cases hq; exact k3
    | 4, hq => cases hq; exact k4
    | 5, hq => cases hq; exact k5
    | 6, hq => cases hq; exact k6
    | 7, hq => cases hq; exact k7
    | 8, hq => cases hq; exact k8
    | 9, hq => cases hq; exact k9
    | 10, hq => cases hq; exact k10
    | 11, hq => cases hq; exact k11
    | k + 12, hq => simp [vwCl] at hq
  · intro k q hq
    match k, hq with
    | 0, hq => cases hq; exact ⟨fun n z => ⟨(fun k h => by cases h), kB, aB2, pB, aB3⟩, aB1⟩
    | 1, hq => cases hq; exact ⟨fun n z => ⟨(fun k h => by cases h), kI, aI2, pI, aI3⟩, aI1⟩
    | 2, hq => cases hq; exact ⟨fun n z => ⟨(fun k h => by cases h), kJ, aJ2, pJ, aJ3⟩, aJ1⟩
    | 3, hq => cases hq; exact ⟨fun n z => ⟨(fun k h => by cases h), kP, b3, pP, b4⟩, kP, pP, b3, b4, b1, b5⟩
    | k + 4, hq => simp [ty4] at hq
theorem ao_in : Cond.arrayOver (.object "OnlineParts$Pattern") ∈ lw_tbl := List.mem_append_right _ (show _ ∈ tables_1 from List.mem_append_left _ (List.mem_of_getElem? (i := 178) (by decide +kernel)))
