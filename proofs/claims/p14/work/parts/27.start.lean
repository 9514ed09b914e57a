theorem KK_start {s : State} {args : Array Value} (hts : ∀ w ∈ lw_all, w.before args s = true) (hao : (Cond.arrayOver (.object "OnlineParts$Pattern")).before args s = true) : ∃ G : Gt, KK G s := by
  obtain ⟨c0, i0, k0⟩ := u_known (C := RX1) (T := TX1) (N := 10) (n := 10) hts inX1 (hts _ ia_X1)
  obtain ⟨c1, i1, k1⟩ := u_known (C := RX2) (T := TX2) (N := 4) (n := 4) hts inX2 (hts _ ia_X2)
  obtain ⟨c2, i2, k2⟩ := u_known (C := RX3) (T := TX3) (N := 9) (n := 9) hts inX3 (hts _ ia_X3)
  obtain ⟨c3, i3, k3⟩ := u_known (C := RX4) (T := TX4) (N := 7) (n := 7) hts inX4 (hts _ ia_X4)
  obtain ⟨c4, i4, k4⟩ := u_known (C := RX5) (T := TX5) (N := 14) (n := 14) hts inX5 (hts _ ia_X5)
  obtain ⟨c5, i5, k5⟩ := u_known (C := RX6) (T := TX6) (N := 9) (n := 9) hts inX6 (hts _ ia_X6)
  obtain ⟨c6, i6, k6⟩ := u_known (C := RX7) (T := TX7) (N := 6) (n := 6) hts inX7 (hts _ ia_X7)
  obtain ⟨c7, i7, k7⟩ := u_known (C := RX8) (T := TX8) (N := 11) (n := 11) hts inX8 (hts _ ia_X8)
  obtain ⟨c8, i8, k8⟩ := u_known (C := RX9) (T := TX9) (N := 2) (n := 2) hts inX9 (hts _ ia_X9)
  obtain ⟨c9, i9, k9⟩ := u_known (C := RX10) (T := TX10) (N := 18) (n := 18) hts inX10 (hts _ ia_X10)
  obtain ⟨c10, i10, k10⟩ := u_known (C := RX11) (T := TX11) (N := 20) (n := 20) hts inX11 (hts _ ia_X11)
  obtain ⟨c11, i11, k11⟩ := u_known (C := RX12) (T := TX12) (N := 141) (n := 141) hts inX12 (hts _ ia_X12)
  obtain ⟨cB, kB, pB, aB1, aB2, aB3⟩ := Cond.arrayClass_spec (hts _ ac_byte)
  obtain ⟨cI, kI, pI, aI1, aI2, aI3⟩ := Cond.arrayClass_spec (hts _ ac_int)
  obtain ⟨cJ, kJ, pJ, aJ1, aJ2, aJ3⟩ := Cond.arrayClass_spec (hts _ ac_long)
  obtain ⟨pP, cP, kP, b1, b2, b3, b4, b5⟩ := Cond.arrayOver_spec hao
  refine ⟨((fun k => if k = 0 then c0 else if k = 1 then c1 else if k = 2 then c2 else if k = 3 then c3 else if k = 4 then c4 else if k = 5 then c5 else if k = 6 then c6 else if k = 7 then c7 else if k = 8 then c8 else if k = 9 then c9 else if k = 10 then c10 else c11, fun k => if k = 0 then i0 else if k = 1 then i1 else if k = 2 then i2 else if k = 3 then i3 else if k = 4 then i4 else if k = 5 then i5 else if k = 6 then i6 else if k = 7 then i7 else if k = 8 then i8 else if k = 9 then i9 else if k = 10 then i10 else i11), cB, cI, cJ, cP), ⟨?_, ?_⟩, va_AO.of hao⟩
  · intro k q hq
    match k, hq with
    | 0, hq => cases hq; exact k0
    | 1, hq => cases hq; exact k1
    | 2, hq => cases hq; exact k2
    | 3, hq => cases hq; exact k3
    | 4, hq => cases hq; exact k4
    | 5, hq => cases hq; exact k5
    | 6, hq => cases hq; exact k6
    | 7, hq => cases hq; exact k7
    | 8, hq => cases hq; exact k8
    | 9, hq => cases hq; exact k9
    | 10, hq => cases hq; exact k10
    | 11, hq => cases hq; exact k11
    | k + 12, hq => simp [vwCl] at hq
  · intro k q hq
    match k, hq with
    | 0, hq => cases hq; exact ⟨fun n z => ⟨(fun k h => by cases h), kB, aB2, pB, aB3⟩, aB1⟩
    | 1, hq => cases hq; exact ⟨fun n z => ⟨(fun k h => by cases h), kI, aI2, pI, aI3⟩, aI1⟩
    | 2, hq => cases hq; exact ⟨fun n z => ⟨(fun k h => by cases h), kJ, aJ2, pJ, aJ3⟩, aJ1⟩
    | 3, hq => cases hq; exact ⟨fun n z => ⟨(fun k h => by cases h), kP, b3, pP, b4⟩, kP, pP, b3, b4, b1, b5⟩
    | k + 4, hq => simp [ty4] at hq
theorem ao_in : Cond.arrayOver (.object "OnlineParts$Pattern") ∈ lw_tbl := List.mem_append_right _ (show _ ∈ tables_1 from List.mem_append_left _ (List.mem_of_getElem? (i := 178) (by decide +kernel)))
def μX0 : Mem := (fun i => if i = 0 then (fun k => if k = 2 then (-1) else 0) else if i = 5 then (fl_fill (-1) 0 72) else if i = 12 then (fl_fill (-1) 0 72) else if i = 16 then (fun k => if k = 3 then (-1) else 0) else if i = 119 then (fun k => if k = 0 then (-1) else 0) else if i = 125 then (fun k => if k = 0 then (-1) else 0) else if i = 131 then (fun k => if k = 0 then (-1) else 0) else if i = 137 then (fun k => if k = 0 then 6 else if k = 1 then 3 else if k = 2 then 120 else 0) else if i = 148 then (fun k => if k = 5 then (-1) else 0) else (fun _ => 0), fun i => if i = 140 then (fl_reg 8) else (fun _ => 0), fun i => if i = 0 then (fun k => if k = 4 then 2 else if k = 5 then 9 else if k = 6 then 18 else if k = 7 then 21 else if k = 8 then 24 else if k = 9 then 27 else 0) else if i = 16 then (fun k => if k = 4 then 9 else 0) else if i = 137 then (fun k => if k = 5 then 2 else if k = 14 then 142 else if k = 15 then 145 else 0) else if i = 148 then (fun k => if k = 3 then 2 else if k = 4 then 119 else 0) else if i = 151 then (fun k => if k = 8 then 119 else 0) else (fun _ => 0))
def adX (h0 : Nat) (w : Nat → Nat) : Nat → Nat := fun i => [h0, w 0, w 2, w 17, w 18, w 19, w 20, w 21, w 22, w 3, w 23, w 24, w 25, w 26, w 27, w 28, w 1, w 29, w 4, w 30, w 31, w 5, w 32, w 33, w 6, w 34, w 35, w 7, w 36, w 37, w 38, w 39, w 40, w 41, w 42, w 43, w 44, w 45, w 46, w 9, w 47, w 48, w 49, w 50, w 51, w 52, w 53, w 54, w 78, w 79, w 55, w 80, w 81, w 56, w 82, w 83, w 57, w 84, w 85, w 58, w 86, w 87, w 59, w 88, w 89, w 60, w 90, w 91, w 61, w 92, w 93, w 62, w 94, w 95, w 63, w 96, w 97, w 64, w 98, w 99, w 65, w 100, w 101, w 66, w 102, w 103, w 67, w 104, w 105, w 68, w 106, w 107, w 69, w 108, w 109, w 70, w 110, w 111, w 71, w 112, w 113, w 72, w 114, w 115, w 73, w 116, w 117, w 74, w 118, w 119, w 75, w 120, w 121, w 76, w 122, w 123, w 77, w 124, w 125, w 12, w 126, w 127, w 128, w 129, w 130, w 13, w 131, w 132, w 133, w 134, w 135, w 14, w 136, w 137, w 138, w 139, w 140, w 8, w 141, w 142, w 145, w 146, w 143, w 147, w 148, w 144, w 149, w 150, w 10, w 151, w 152, w 11, w 153, w 154, w 155, w 156, w 15, w 157, w 158, w 16, w 159].getD i 0
def μM0 : Mem := (fun i => if i = 0 then (fun k => if k = 5 then (-1) else if k = 42 then 1 else 0) else if i = 29 then (upd (upd (upd (fun _ => 0) 0 6) 1 3) 2 120) else (fun _ => 0), fun i =>  (fun _ => 0), fun i =>  (fun _ => 0))
def adM (h0 : Nat) (w : Nat → Nat) : Nat → Nat := fun i => [h0, w 0, w 1, w 2, w 3, w 4, w 5, w 6, w 7, w 8, w 9, w 10, w 11, w 12, w 13, w 14, w 15, w 16, w 17, w 18, w 19, w 20, w 21, w 22, w 23, w 24, w 25, w 26, w 27, w 28, w 29, w 30, w 31, w 32, w 33, w 34, w 35, w 36, w 37, w 38, w 39, w 40, w 41, w 42, w 43, w 44, w 45, w 46, w 47, w 48, w 49, w 50, w 51, w 52, w 53, w 54, w 55, w 56, w 57, w 58, w 59, w 60, w 61, w 62, w 63, w 64, w 65, w 66, w 67, w 68, w 69, w 70, w 71, w 72, w 73, w 74, w 75, w 76, w 77, w 78, w 79, w 80, w 81, w 82, w 83, w 84, w 85, w 86, w 87, w 88].getD i 0
set_option maxRecDepth 100000 in
theorem eX_0 (G : Gt) (h0 : Nat) (w : Nat → Nat) : (ob 10 [.ref (w 0), .int 0, .int (-1), .ref (w 1), .ref (w 2), .ref (w 3), .ref (w 4), .ref (w 5), .ref (w 6), .ref (w 7), .int 0, .ref (w 8), .ref (w 9), .ref (w 10), .ref (w 11), .ref (w 12), .ref (w 13), .ref (w 14), .ref (w 15), .ref (w 16)] : va_E) = cellOf G (adX h0 w) μX0 0 (sh 0 0) := rfl
set_option maxRecDepth 100000 in
theorem eX_1 (G : Gt) (h0 : Nat) (w : Nat → Nat) : (aI G 800 (fun _ => 0) : va_E) = cellOf G (adX h0 w) μX0 1 (sh 0 1) := rfl
set_option maxRecDepth 100000 in
theorem eX_2 (G : Gt) (h0 : Nat) (w : Nat → Nat) : (ob 2 [.int 0, .int 0, .int 0, .ref (w 17), .ref (w 18), .ref (w 19), .ref (w 20), .ref (w 21), .ref (w 22)] : va_E) = cellOf G (adX h0 w) μX0 2 (sh 0 2) := rfl
set_option maxRecDepth 100000 in
theorem eX_3 (G : Gt) (h0 : Nat) (w : Nat → Nat) : (aI G 432 (fun _ => 0) : va_E) = cellOf G (adX h0 w) μX0 3 (sh 0 3) := rfl
set_option maxRecDepth 100000 in
theorem eX_4 (G : Gt) (h0 : Nat) (w : Nat → Nat) : (aI G 72 (fun _ => 0) : va_E) = cellOf G (adX h0 w) μX0 4 (sh 0 4) := rfl
set_option maxRecDepth 100000 in
theorem eX_5 (G : Gt) (h0 : Nat) (w : Nat → Nat) : (aI G 72 (fl_fill (-1) 0 72) : va_E) = cellOf G (adX h0 w) μX0 5 (sh 0 5) := rfl
set_option maxRecDepth 100000 in
theorem eX_6 (G : Gt) (h0 : Nat) (w : Nat → Nat) : (aI G 2472 (fun _ => 0) : va_E) = cellOf G (adX h0 w) μX0 6 (sh 0 6) := rfl
set_option maxRecDepth 100000 in
theorem eX_7 (G : Gt) (h0 : Nat) (w : Nat → Nat) : (aI G 2472 (fun _ => 0) : va_E) = cellOf G (adX h0 w) μX0 7 (sh 0 7) := rfl
set_option maxRecDepth 100000 in
theorem eX_8 (G : Gt) (h0 : Nat) (w : Nat → Nat) : (aI G 2472 (fun _ => 0) : va_E) = cellOf G (adX h0 w) μX0 8 (sh 0 8) := rfl
set_option maxRecDepth 100000 in
theorem eX_9 (G : Gt) (h0 : Nat) (w : Nat → Nat) : (ob 2 [.int 0, .int 0, .int 0, .ref (w 23), .ref (w 24), .ref (w 25), .ref (w 26), .ref (w 27), .ref (w 28)] : va_E) = cellOf G (adX h0 w) μX0 9 (sh 0 9) := rfl
set_option maxRecDepth 100000 in
theorem eX_10 (G : Gt) (h0 : Nat) (w : Nat → Nat) : (aI G 432 (fun _ => 0) : va_E) = cellOf G (adX h0 w) μX0 10 (sh 0 10) := rfl
set_option maxRecDepth 100000 in
theorem eX_11 (G : Gt) (h0 : Nat) (w : Nat → Nat) : (aI G 72 (fun _ => 0) : va_E) = cellOf G (adX h0 w) μX0 11 (sh 0 11) := rfl
set_option maxRecDepth 100000 in
theorem eX_12 (G : Gt) (h0 : Nat) (w : Nat → Nat) : (aI G 72 (fl_fill (-1) 0 72) : va_E) = cellOf G (adX h0 w) μX0 12 (sh 0 12) := rfl
set_option maxRecDepth 100000 in
theorem eX_13 (G : Gt) (h0 : Nat) (w : Nat → Nat) : (aI G 2472 (fun _ => 0) : va_E) = cellOf G (adX h0 w) μX0 13 (sh 0 13) := rfl
set_option maxRecDepth 100000 in
theorem eX_14 (G : Gt) (h0 : Nat) (w : Nat → Nat) : (aI G 2472 (fun _ => 0) : va_E) = cellOf G (adX h0 w) μX0 14 (sh 0 14) := rfl
set_option maxRecDepth 100000 in
theorem eX_15 (G : Gt) (h0 : Nat) (w : Nat → Nat) : (aI G 2472 (fun _ => 0) : va_E) = cellOf G (adX h0 w) μX0 15 (sh 0 15) := rfl
set_option maxRecDepth 100000 in
theorem eX_16 (G : Gt) (h0 : Nat) (w : Nat → Nat) : (ob 3 [.ref (w 0), .int 0, .int 0, .int (-1), .ref (w 3), .ref (w 29), .int 0] : va_E) = cellOf G (adX h0 w) μX0 16 (sh 0 16) := rfl
set_option maxRecDepth 100000 in
theorem eX_17 (G : Gt) (h0 : Nat) (w : Nat → Nat) : (aI G 32 (fun _ => 0) : va_E) = cellOf G (adX h0 w) μX0 17 (sh 0 17) := rfl
set_option maxRecDepth 100000 in
theorem eX_18 (G : Gt) (h0 : Nat) (w : Nat → Nat) : (ob 1 [.ref (w 30), .ref (w 31), .int 0, .int 0] : va_E) = cellOf G (adX h0 w) μX0 18 (sh 0 18) := rfl
set_option maxRecDepth 100000 in
theorem eX_19 (G : Gt) (h0 : Nat) (w : Nat → Nat) : (aJ G 30 (fun _ => 0) : va_E) = cellOf G (adX h0 w) μX0 19 (sh 0 19) := rfl
set_option maxRecDepth 100000 in
theorem eX_20 (G : Gt) (h0 : Nat) (w : Nat → Nat) : (aJ G 30 (fun _ => 0) : va_E) = cellOf G (adX h0 w) μX0 20 (sh 0 20) := rfl
set_option maxRecDepth 100000 in
theorem eX_21 (G : Gt) (h0 : Nat) (w : Nat → Nat) : (ob 1 [.ref (w 32), .ref (w 33), .int 0, .int 0] : va_E) = cellOf G (adX h0 w) μX0 21 (sh 0 21) := rfl
set_option maxRecDepth 100000 in
theorem eX_22 (G : Gt) (h0 : Nat) (w : Nat → Nat) : (aJ G 30 (fun _ => 0) : va_E) = cellOf G (adX h0 w) μX0 22 (sh 0 22) := rfl
set_option maxRecDepth 100000 in
theorem eX_23 (G : Gt) (h0 : Nat) (w : Nat → Nat) : (aJ G 30 (fun _ => 0) : va_E) = cellOf G (adX h0 w) μX0 23 (sh 0 23) := rfl
set_option maxRecDepth 100000 in
theorem eX_24 (G : Gt) (h0 : Nat) (w : Nat → Nat) : (ob 1 [.ref (w 34), .ref (w 35), .int 0, .int 0] : va_E) = cellOf G (adX h0 w) μX0 24 (sh 0 24) := rfl
set_option maxRecDepth 100000 in
theorem eX_25 (G : Gt) (h0 : Nat) (w : Nat → Nat) : (aJ G 30 (fun _ => 0) : va_E) = cellOf G (adX h0 w) μX0 25 (sh 0 25) := rfl
set_option maxRecDepth 100000 in
theorem eX_26 (G : Gt) (h0 : Nat) (w : Nat → Nat) : (aJ G 30 (fun _ => 0) : va_E) = cellOf G (adX h0 w) μX0 26 (sh 0 26) := rfl
set_option maxRecDepth 100000 in
theorem eX_27 (G : Gt) (h0 : Nat) (w : Nat → Nat) : (ob 1 [.ref (w 36), .ref (w 37), .int 0, .int 0] : va_E) = cellOf G (adX h0 w) μX0 27 (sh 0 27) := rfl
set_option maxRecDepth 100000 in
theorem eX_28 (G : Gt) (h0 : Nat) (w : Nat → Nat) : (aJ G 30 (fun _ => 0) : va_E) = cellOf G (adX h0 w) μX0 28 (sh 0 28) := rfl
set_option maxRecDepth 100000 in
theorem eX_29 (G : Gt) (h0 : Nat) (w : Nat → Nat) : (aJ G 30 (fun _ => 0) : va_E) = cellOf G (adX h0 w) μX0 29 (sh 0 29) := rfl
set_option maxRecDepth 100000 in
theorem eX_30 (G : Gt) (h0 : Nat) (w : Nat → Nat) : (ob 7 [.ref (w 39), .ref (w 40), .ref (w 41), .ref (w 42), .ref (w 43), .int 0, .ref (w 44), .int 0, .ref (w 45), .ref (w 46), .int 0] : va_E) = cellOf G (adX h0 w) μX0 30 (sh 0 30) := rfl
set_option maxRecDepth 100000 in
theorem eX_31 (G : Gt) (h0 : Nat) (w : Nat → Nat) : (aJ G 30200 (fun _ => 0) : va_E) = cellOf G (adX h0 w) μX0 31 (sh 0 31) := rfl
set_option maxRecDepth 100000 in
theorem eX_32 (G : Gt) (h0 : Nat) (w : Nat → Nat) : (aJ G 30200 (fun _ => 0) : va_E) = cellOf G (adX h0 w) μX0 32 (sh 0 32) := rfl
set_option maxRecDepth 100000 in
theorem eX_33 (G : Gt) (h0 : Nat) (w : Nat → Nat) : (aI G 30200 (fun _ => 0) : va_E) = cellOf G (adX h0 w) μX0 33 (sh 0 33) := rfl
set_option maxRecDepth 100000 in
theorem eX_34 (G : Gt) (h0 : Nat) (w : Nat → Nat) : (aI G 30200 (fun _ => 0) : va_E) = cellOf G (adX h0 w) μX0 34 (sh 0 34) := rfl
set_option maxRecDepth 100000 in
theorem eX_35 (G : Gt) (h0 : Nat) (w : Nat → Nat) : (aJ G 264 (fun _ => 0) : va_E) = cellOf G (adX h0 w) μX0 35 (sh 0 35) := rfl
set_option maxRecDepth 100000 in
theorem eX_36 (G : Gt) (h0 : Nat) (w : Nat → Nat) : (aJ G 2480 (fun _ => 0) : va_E) = cellOf G (adX h0 w) μX0 36 (sh 0 36) := rfl
set_option maxRecDepth 100000 in
theorem eX_37 (G : Gt) (h0 : Nat) (w : Nat → Nat) : (aJ G 992 (fun _ => 0) : va_E) = cellOf G (adX h0 w) μX0 37 (sh 0 37) := rfl
set_option maxRecDepth 100000 in
theorem eX_38 (G : Gt) (h0 : Nat) (w : Nat → Nat) : (aI G 31 (fun _ => 0) : va_E) = cellOf G (adX h0 w) μX0 38 (sh 0 38) := rfl
set_option maxRecDepth 100000 in
theorem eX_39 (G : Gt) (h0 : Nat) (w : Nat → Nat) : (ob 4 [.int 0, .int 0, .int 0, .int 0, .int 0, .int 0, .int 0, .ref (w 47), .ref (w 48), .ref (w 49), .ref (w 50), .ref (w 51), .ref (w 52), .ref (w 53)] : va_E) = cellOf G (adX h0 w) μX0 39 (sh 0 39) := rfl
set_option maxRecDepth 100000 in
theorem eX_40 (G : Gt) (h0 : Nat) (w : Nat → Nat) : (aI G 2400 (fun _ => 0) : va_E) = cellOf G (adX h0 w) μX0 40 (sh 0 40) := rfl
set_option maxRecDepth 100000 in
theorem eX_41 (G : Gt) (h0 : Nat) (w : Nat → Nat) : (aJ G 3000 (fun _ => 0) : va_E) = cellOf G (adX h0 w) μX0 41 (sh 0 41) := rfl
set_option maxRecDepth 100000 in
theorem eX_42 (G : Gt) (h0 : Nat) (w : Nat → Nat) : (aI G 672 (fun _ => 0) : va_E) = cellOf G (adX h0 w) μX0 42 (sh 0 42) := rfl
set_option maxRecDepth 100000 in
theorem eX_43 (G : Gt) (h0 : Nat) (w : Nat → Nat) : (aI G 672 (fun _ => 0) : va_E) = cellOf G (adX h0 w) μX0 43 (sh 0 43) := rfl
set_option maxRecDepth 100000 in
theorem eX_44 (G : Gt) (h0 : Nat) (w : Nat → Nat) : (aJ G 672 (fun _ => 0) : va_E) = cellOf G (adX h0 w) μX0 44 (sh 0 44) := rfl
set_option maxRecDepth 100000 in
theorem eX_45 (G : Gt) (h0 : Nat) (w : Nat → Nat) : (aI G 96 (fun _ => 0) : va_E) = cellOf G (adX h0 w) μX0 45 (sh 0 45) := rfl
set_option maxRecDepth 100000 in
theorem eX_46 (G : Gt) (h0 : Nat) (w : Nat → Nat) : (aP G 24 (va_up (va_up (va_up (va_up (va_up (va_up (va_up (va_up (va_up (va_up (va_up (va_up (va_up (va_up (va_up (va_up (va_up (va_up (va_up (va_up (va_up (va_up (va_up (va_up (fun _ => none) 0 (some (w 54))) 1 (some (w 55))) 2 (some (w 56))) 3 (some (w 57))) 4 (some (w 58))) 5 (some (w 59))) 6 (some (w 60))) 7 (some (w 61))) 8 (some (w 62))) 9 (some (w 63))) 10 (some (w 64))) 11 (some (w 65))) 12 (some (w 66))) 13 (some (w 67))) 14 (some (w 68))) 15 (some (w 69))) 16 (some (w 70))) 17 (some (w 71))) 18 (some (w 72))) 19 (some (w 73))) 20 (some (w 74))) 21 (some (w 75))) 22 (some (w 76))) 23 (some (w 77))) : va_E) = cellOf G (adX h0 w) μX0 46 (sh 0 46) := congrArg (aP G 24) (by
  funext k
  match k with
  | 0 => rfl
  | 1 => rfl
  | 2 => rfl
  | 3 => rfl
  | 4 => rfl
  | 5 => rfl
  | 6 => rfl
  | 7 => rfl
  | 8 => rfl
  | 9 => rfl
  | 10 => rfl
  | 11 => rfl
  | 12 => rfl
  | 13 => rfl
  | 14 => rfl
  | 15 => rfl
  | 16 => rfl
  | 17 => rfl
  | 18 => rfl
  | 19 => rfl
  | 20 => rfl
  | 21 => rfl
  | 22 => rfl
  | 23 => rfl
  | n + 24 =>
    simp [va_up, shx_46])
set_option maxRecDepth 100000 in
theorem eX_47 (G : Gt) (h0 : Nat) (w : Nat → Nat) : (ob 1 [.ref (w 78), .ref (w 79), .int 0, .int 0] : va_E) = cellOf G (adX h0 w) μX0 47 (sh 0 47) := rfl
set_option maxRecDepth 100000 in
theorem eX_48 (G : Gt) (h0 : Nat) (w : Nat → Nat) : (aJ G 200 (fun _ => 0) : va_E) = cellOf G (adX h0 w) μX0 48 (sh 0 48) := rfl
set_option maxRecDepth 100000 in
theorem eX_49 (G : Gt) (h0 : Nat) (w : Nat → Nat) : (aJ G 200 (fun _ => 0) : va_E) = cellOf G (adX h0 w) μX0 49 (sh 0 49) := rfl
set_option maxRecDepth 100000 in
theorem eX_50 (G : Gt) (h0 : Nat) (w : Nat → Nat) : (ob 1 [.ref (w 80), .ref (w 81), .int 0, .int 0] : va_E) = cellOf G (adX h0 w) μX0 50 (sh 0 50) := rfl
set_option maxRecDepth 100000 in
theorem eX_51 (G : Gt) (h0 : Nat) (w : Nat → Nat) : (aJ G 200 (fun _ => 0) : va_E) = cellOf G (adX h0 w) μX0 51 (sh 0 51) := rfl
set_option maxRecDepth 100000 in
theorem eX_52 (G : Gt) (h0 : Nat) (w : Nat → Nat) : (aJ G 200 (fun _ => 0) : va_E) = cellOf G (adX h0 w) μX0 52 (sh 0 52) := rfl
set_option maxRecDepth 100000 in
theorem eX_53 (G : Gt) (h0 : Nat) (w : Nat → Nat) : (ob 1 [.ref (w 82), .ref (w 83), .int 0, .int 0] : va_E) = cellOf G (adX h0 w) μX0 53 (sh 0 53) := rfl
set_option maxRecDepth 100000 in
theorem eX_54 (G : Gt) (h0 : Nat) (w : Nat → Nat) : (aJ G 200 (fun _ => 0) : va_E) = cellOf G (adX h0 w) μX0 54 (sh 0 54) := rfl
set_option maxRecDepth 100000 in
theorem eX_55 (G : Gt) (h0 : Nat) (w : Nat → Nat) : (aJ G 200 (fun _ => 0) : va_E) = cellOf G (adX h0 w) μX0 55 (sh 0 55) := rfl
set_option maxRecDepth 100000 in
theorem eX_56 (G : Gt) (h0 : Nat) (w : Nat → Nat) : (ob 1 [.ref (w 84), .ref (w 85), .int 0, .int 0] : va_E) = cellOf G (adX h0 w) μX0 56 (sh 0 56) := rfl
set_option maxRecDepth 100000 in
theorem eX_57 (G : Gt) (h0 : Nat) (w : Nat → Nat) : (aJ G 200 (fun _ => 0) : va_E) = cellOf G (adX h0 w) μX0 57 (sh 0 57) := rfl
set_option maxRecDepth 100000 in
theorem eX_58 (G : Gt) (h0 : Nat) (w : Nat → Nat) : (aJ G 200 (fun _ => 0) : va_E) = cellOf G (adX h0 w) μX0 58 (sh 0 58) := rfl
set_option maxRecDepth 100000 in
theorem eX_59 (G : Gt) (h0 : Nat) (w : Nat → Nat) : (ob 1 [.ref (w 86), .ref (w 87), .int 0, .int 0] : va_E) = cellOf G (adX h0 w) μX0 59 (sh 0 59) := rfl
set_option maxRecDepth 100000 in
theorem eX_60 (G : Gt) (h0 : Nat) (w : Nat → Nat) : (aJ G 200 (fun _ => 0) : va_E) = cellOf G (adX h0 w) μX0 60 (sh 0 60) := rfl
set_option maxRecDepth 100000 in
theorem eX_61 (G : Gt) (h0 : Nat) (w : Nat → Nat) : (aJ G 200 (fun _ => 0) : va_E) = cellOf G (adX h0 w) μX0 61 (sh 0 61) := rfl
set_option maxRecDepth 100000 in
theorem eX_62 (G : Gt) (h0 : Nat) (w : Nat → Nat) : (ob 1 [.ref (w 88), .ref (w 89), .int 0, .int 0] : va_E) = cellOf G (adX h0 w) μX0 62 (sh 0 62) := rfl
set_option maxRecDepth 100000 in
theorem eX_63 (G : Gt) (h0 : Nat) (w : Nat → Nat) : (aJ G 200 (fun _ => 0) : va_E) = cellOf G (adX h0 w) μX0 63 (sh 0 63) := rfl
set_option maxRecDepth 100000 in
theorem eX_64 (G : Gt) (h0 : Nat) (w : Nat → Nat) : (aJ G 200 (fun _ => 0) : va_E) = cellOf G (adX h0 w) μX0 64 (sh 0 64) := rfl
set_option maxRecDepth 100000 in
theorem eX_65 (G : Gt) (h0 : Nat) (w : Nat → Nat) : (ob 1 [.ref (w 90), .ref (w 91), .int 0, .int 0] : va_E) = cellOf G (adX h0 w) μX0 65 (sh 0 65) := rfl
set_option maxRecDepth 100000 in
theorem eX_66 (G : Gt) (h0 : Nat) (w : Nat → Nat) : (aJ G 200 (fun _ => 0) : va_E) = cellOf G (adX h0 w) μX0 66 (sh 0 66) := rfl
set_option maxRecDepth 100000 in
theorem eX_67 (G : Gt) (h0 : Nat) (w : Nat → Nat) : (aJ G 200 (fun _ => 0) : va_E) = cellOf G (adX h0 w) μX0 67 (sh 0 67) := rfl
set_option maxRecDepth 100000 in
theorem eX_68 (G : Gt) (h0 : Nat) (w : Nat → Nat) : (ob 1 [.ref (w 92), .ref (w 93), .int 0, .int 0] : va_E) = cellOf G (adX h0 w) μX0 68 (sh 0 68) := rfl
set_option maxRecDepth 100000 in
theorem eX_69 (G : Gt) (h0 : Nat) (w : Nat → Nat) : (aJ G 200 (fun _ => 0) : va_E) = cellOf G (adX h0 w) μX0 69 (sh 0 69) := rfl
set_option maxRecDepth 100000 in
theorem eX_70 (G : Gt) (h0 : Nat) (w : Nat → Nat) : (aJ G 200 (fun _ => 0) : va_E) = cellOf G (adX h0 w) μX0 70 (sh 0 70) := rfl
set_option maxRecDepth 100000 in
theorem eX_71 (G : Gt) (h0 : Nat) (w : Nat → Nat) : (ob 1 [.ref (w 94), .ref (w 95), .int 0, .int 0] : va_E) = cellOf G (adX h0 w) μX0 71 (sh 0 71) := rfl
set_option maxRecDepth 100000 in
theorem eX_72 (G : Gt) (h0 : Nat) (w : Nat → Nat) : (aJ G 200 (fun _ => 0) : va_E) = cellOf G (adX h0 w) μX0 72 (sh 0 72) := rfl
set_option maxRecDepth 100000 in
theorem eX_73 (G : Gt) (h0 : Nat) (w : Nat → Nat) : (aJ G 200 (fun _ => 0) : va_E) = cellOf G (adX h0 w) μX0 73 (sh 0 73) := rfl
set_option maxRecDepth 100000 in
theorem eX_74 (G : Gt) (h0 : Nat) (w : Nat → Nat) : (ob 1 [.ref (w 96), .ref (w 97), .int 0, .int 0] : va_E) = cellOf G (adX h0 w) μX0 74 (sh 0 74) := rfl
set_option maxRecDepth 100000 in
theorem eX_75 (G : Gt) (h0 : Nat) (w : Nat → Nat) : (aJ G 200 (fun _ => 0) : va_E) = cellOf G (adX h0 w) μX0 75 (sh 0 75) := rfl
set_option maxRecDepth 100000 in
theorem eX_76 (G : Gt) (h0 : Nat) (w : Nat → Nat) : (aJ G 200 (fun _ => 0) : va_E) = cellOf G (adX h0 w) μX0 76 (sh 0 76) := rfl
set_option maxRecDepth 100000 in
theorem eX_77 (G : Gt) (h0 : Nat) (w : Nat → Nat) : (ob 1 [.ref (w 98), .ref (w 99), .int 0, .int 0] : va_E) = cellOf G (adX h0 w) μX0 77 (sh 0 77) := rfl
set_option maxRecDepth 100000 in
theorem eX_78 (G : Gt) (h0 : Nat) (w : Nat → Nat) : (aJ G 200 (fun _ => 0) : va_E) = cellOf G (adX h0 w) μX0 78 (sh 0 78) := rfl
set_option maxRecDepth 100000 in
theorem eX_79 (G : Gt) (h0 : Nat) (w : Nat → Nat) : (aJ G 200 (fun _ => 0) : va_E) = cellOf G (adX h0 w) μX0 79 (sh 0 79) := rfl
set_option maxRecDepth 100000 in
theorem eX_80 (G : Gt) (h0 : Nat) (w : Nat → Nat) : (ob 1 [.ref (w 100), .ref (w 101), .int 0, .int 0] : va_E) = cellOf G (adX h0 w) μX0 80 (sh 0 80) := rfl
set_option maxRecDepth 100000 in
theorem eX_81 (G : Gt) (h0 : Nat) (w : Nat → Nat) : (aJ G 200 (fun _ => 0) : va_E) = cellOf G (adX h0 w) μX0 81 (sh 0 81) := rfl
set_option maxRecDepth 100000 in
theorem eX_82 (G : Gt) (h0 : Nat) (w : Nat → Nat) : (aJ G 200 (fun _ => 0) : va_E) = cellOf G (adX h0 w) μX0 82 (sh 0 82) := rfl
set_option maxRecDepth 100000 in
theorem eX_83 (G : Gt) (h0 : Nat) (w : Nat → Nat) : (ob 1 [.ref (w 102), .ref (w 103), .int 0, .int 0] : va_E) = cellOf G (adX h0 w) μX0 83 (sh 0 83) := rfl
set_option maxRecDepth 100000 in
theorem eX_84 (G : Gt) (h0 : Nat) (w : Nat → Nat) : (aJ G 200 (fun _ => 0) : va_E) = cellOf G (adX h0 w) μX0 84 (sh 0 84) := rfl
set_option maxRecDepth 100000 in
theorem eX_85 (G : Gt) (h0 : Nat) (w : Nat → Nat) : (aJ G 200 (fun _ => 0) : va_E) = cellOf G (adX h0 w) μX0 85 (sh 0 85) := rfl
set_option maxRecDepth 100000 in
theorem eX_86 (G : Gt) (h0 : Nat) (w : Nat → Nat) : (ob 1 [.ref (w 104), .ref (w 105), .int 0, .int 0] : va_E) = cellOf G (adX h0 w) μX0 86 (sh 0 86) := rfl
set_option maxRecDepth 100000 in
theorem eX_87 (G : Gt) (h0 : Nat) (w : Nat → Nat) : (aJ G 200 (fun _ => 0) : va_E) = cellOf G (adX h0 w) μX0 87 (sh 0 87) := rfl
set_option maxRecDepth 100000 in
theorem eX_88 (G : Gt) (h0 : Nat) (w : Nat → Nat) : (aJ G 200 (fun _ => 0) : va_E) = cellOf G (adX h0 w) μX0 88 (sh 0 88) := rfl
set_option maxRecDepth 100000 in
theorem eX_89 (G : Gt) (h0 : Nat) (w : Nat → Nat) : (ob 1 [.ref (w 106), .ref (w 107), .int 0, .int 0] : va_E) = cellOf G (adX h0 w) μX0 89 (sh 0 89) := rfl
set_option maxRecDepth 100000 in
theorem eX_90 (G : Gt) (h0 : Nat) (w : Nat → Nat) : (aJ G 200 (fun _ => 0) : va_E) = cellOf G (adX h0 w) μX0 90 (sh 0 90) := rfl
set_option maxRecDepth 100000 in
theorem eX_91 (G : Gt) (h0 : Nat) (w : Nat → Nat) : (aJ G 200 (fun _ => 0) : va_E) = cellOf G (adX h0 w) μX0 91 (sh 0 91) := rfl
set_option maxRecDepth 100000 in
theorem eX_92 (G : Gt) (h0 : Nat) (w : Nat → Nat) : (ob 1 [.ref (w 108), .ref (w 109), .int 0, .int 0] : va_E) = cellOf G (adX h0 w) μX0 92 (sh 0 92) := rfl
set_option maxRecDepth 100000 in
theorem eX_93 (G : Gt) (h0 : Nat) (w : Nat → Nat) : (aJ G 200 (fun _ => 0) : va_E) = cellOf G (adX h0 w) μX0 93 (sh 0 93) := rfl
set_option maxRecDepth 100000 in
theorem eX_94 (G : Gt) (h0 : Nat) (w : Nat → Nat) : (aJ G 200 (fun _ => 0) : va_E) = cellOf G (adX h0 w) μX0 94 (sh 0 94) := rfl
set_option maxRecDepth 100000 in
theorem eX_95 (G : Gt) (h0 : Nat) (w : Nat → Nat) : (ob 1 [.ref (w 110), .ref (w 111), .int 0, .int 0] : va_E) = cellOf G (adX h0 w) μX0 95 (sh 0 95) := rfl
set_option maxRecDepth 100000 in
theorem eX_96 (G : Gt) (h0 : Nat) (w : Nat → Nat) : (aJ G 200 (fun _ => 0) : va_E) = cellOf G (adX h0 w) μX0 96 (sh 0 96) := rfl
set_option maxRecDepth 100000 in
theorem eX_97 (G : Gt) (h0 : Nat) (w : Nat → Nat) : (aJ G 200 (fun _ => 0) : va_E) = cellOf G (adX h0 w) μX0 97 (sh 0 97) := rfl
set_option maxRecDepth 100000 in
theorem eX_98 (G : Gt) (h0 : Nat) (w : Nat → Nat) : (ob 1 [.ref (w 112), .ref (w 113), .int 0, .int 0] : va_E) = cellOf G (adX h0 w) μX0 98 (sh 0 98) := rfl
set_option maxRecDepth 100000 in
theorem eX_99 (G : Gt) (h0 : Nat) (w : Nat → Nat) : (aJ G 200 (fun _ => 0) : va_E) = cellOf G (adX h0 w) μX0 99 (sh 0 99) := rfl
set_option maxRecDepth 100000 in
theorem eX_100 (G : Gt) (h0 : Nat) (w : Nat → Nat) : (aJ G 200 (fun _ => 0) : va_E) = cellOf G (adX h0 w) μX0 100 (sh 0 100) := rfl
set_option maxRecDepth 100000 in
theorem eX_101 (G : Gt) (h0 : Nat) (w : Nat → Nat) : (ob 1 [.ref (w 114), .ref (w 115), .int 0, .int 0] : va_E) = cellOf G (adX h0 w) μX0 101 (sh 0 101) := rfl
set_option maxRecDepth 100000 in
theorem eX_102 (G : Gt) (h0 : Nat) (w : Nat → Nat) : (aJ G 200 (fun _ => 0) : va_E) = cellOf G (adX h0 w) μX0 102 (sh 0 102) := rfl
set_option maxRecDepth 100000 in
theorem eX_103 (G : Gt) (h0 : Nat) (w : Nat → Nat) : (aJ G 200 (fun _ => 0) : va_E) = cellOf G (adX h0 w) μX0 103 (sh 0 103) := rfl
set_option maxRecDepth 100000 in
theorem eX_104 (G : Gt) (h0 : Nat) (w : Nat → Nat) : (ob 1 [.ref (w 116), .ref (w 117), .int 0, .int 0] : va_E) = cellOf G (adX h0 w) μX0 104 (sh 0 104) := rfl
set_option maxRecDepth 100000 in
theorem eX_105 (G : Gt) (h0 : Nat) (w : Nat → Nat) : (aJ G 200 (fun _ => 0) : va_E) = cellOf G (adX h0 w) μX0 105 (sh 0 105) := rfl
set_option maxRecDepth 100000 in
theorem eX_106 (G : Gt) (h0 : Nat) (w : Nat → Nat) : (aJ G 200 (fun _ => 0) : va_E) = cellOf G (adX h0 w) μX0 106 (sh 0 106) := rfl
set_option maxRecDepth 100000 in
theorem eX_107 (G : Gt) (h0 : Nat) (w : Nat → Nat) : (ob 1 [.ref (w 118), .ref (w 119), .int 0, .int 0] : va_E) = cellOf G (adX h0 w) μX0 107 (sh 0 107) := rfl
set_option maxRecDepth 100000 in
theorem eX_108 (G : Gt) (h0 : Nat) (w : Nat → Nat) : (aJ G 200 (fun _ => 0) : va_E) = cellOf G (adX h0 w) μX0 108 (sh 0 108) := rfl
set_option maxRecDepth 100000 in
theorem eX_109 (G : Gt) (h0 : Nat) (w : Nat → Nat) : (aJ G 200 (fun _ => 0) : va_E) = cellOf G (adX h0 w) μX0 109 (sh 0 109) := rfl
set_option maxRecDepth 100000 in
theorem eX_110 (G : Gt) (h0 : Nat) (w : Nat → Nat) : (ob 1 [.ref (w 120), .ref (w 121), .int 0, .int 0] : va_E) = cellOf G (adX h0 w) μX0 110 (sh 0 110) := rfl
set_option maxRecDepth 100000 in
theorem eX_111 (G : Gt) (h0 : Nat) (w : Nat → Nat) : (aJ G 200 (fun _ => 0) : va_E) = cellOf G (adX h0 w) μX0 111 (sh 0 111) := rfl
set_option maxRecDepth 100000 in
theorem eX_112 (G : Gt) (h0 : Nat) (w : Nat → Nat) : (aJ G 200 (fun _ => 0) : va_E) = cellOf G (adX h0 w) μX0 112 (sh 0 112) := rfl
set_option maxRecDepth 100000 in
theorem eX_113 (G : Gt) (h0 : Nat) (w : Nat → Nat) : (ob 1 [.ref (w 122), .ref (w 123), .int 0, .int 0] : va_E) = cellOf G (adX h0 w) μX0 113 (sh 0 113) := rfl
set_option maxRecDepth 100000 in
theorem eX_114 (G : Gt) (h0 : Nat) (w : Nat → Nat) : (aJ G 200 (fun _ => 0) : va_E) = cellOf G (adX h0 w) μX0 114 (sh 0 114) := rfl
set_option maxRecDepth 100000 in
theorem eX_115 (G : Gt) (h0 : Nat) (w : Nat → Nat) : (aJ G 200 (fun _ => 0) : va_E) = cellOf G (adX h0 w) μX0 115 (sh 0 115) := rfl
set_option maxRecDepth 100000 in
theorem eX_116 (G : Gt) (h0 : Nat) (w : Nat → Nat) : (ob 1 [.ref (w 124), .ref (w 125), .int 0, .int 0] : va_E) = cellOf G (adX h0 w) μX0 116 (sh 0 116) := rfl
set_option maxRecDepth 100000 in
theorem eX_117 (G : Gt) (h0 : Nat) (w : Nat → Nat) : (aJ G 200 (fun _ => 0) : va_E) = cellOf G (adX h0 w) μX0 117 (sh 0 117) := rfl
set_option maxRecDepth 100000 in
theorem eX_118 (G : Gt) (h0 : Nat) (w : Nat → Nat) : (aJ G 200 (fun _ => 0) : va_E) = cellOf G (adX h0 w) μX0 118 (sh 0 118) := rfl
set_option maxRecDepth 100000 in
theorem eX_119 (G : Gt) (h0 : Nat) (w : Nat → Nat) : (ob 0 [.int (-1), .int 0, .int 0, .int 0, .int 0, .int 0, .int 0, .ref (w 126), .ref (w 127), .ref (w 128)] : va_E) = cellOf G (adX h0 w) μX0 119 (sh 0 119) := rfl
set_option maxRecDepth 100000 in
theorem eX_120 (G : Gt) (h0 : Nat) (w : Nat → Nat) : (aJ G 60 (fun _ => 0) : va_E) = cellOf G (adX h0 w) μX0 120 (sh 0 120) := rfl
set_option maxRecDepth 100000 in
theorem eX_121 (G : Gt) (h0 : Nat) (w : Nat → Nat) : (aI G 8 (fun _ => 0) : va_E) = cellOf G (adX h0 w) μX0 121 (sh 0 121) := rfl
set_option maxRecDepth 100000 in
theorem eX_122 (G : Gt) (h0 : Nat) (w : Nat → Nat) : (ob 1 [.ref (w 129), .ref (w 130), .int 0, .int 0] : va_E) = cellOf G (adX h0 w) μX0 122 (sh 0 122) := rfl
set_option maxRecDepth 100000 in
theorem eX_123 (G : Gt) (h0 : Nat) (w : Nat → Nat) : (aJ G 40 (fun _ => 0) : va_E) = cellOf G (adX h0 w) μX0 123 (sh 0 123) := rfl
set_option maxRecDepth 100000 in
theorem eX_124 (G : Gt) (h0 : Nat) (w : Nat → Nat) : (aJ G 40 (fun _ => 0) : va_E) = cellOf G (adX h0 w) μX0 124 (sh 0 124) := rfl
set_option maxRecDepth 100000 in
theorem eX_125 (G : Gt) (h0 : Nat) (w : Nat → Nat) : (ob 0 [.int (-1), .int 0, .int 0, .int 0, .int 0, .int 0, .int 0, .ref (w 131), .ref (w 132), .ref (w 133)] : va_E) = cellOf G (adX h0 w) μX0 125 (sh 0 125) := rfl
set_option maxRecDepth 100000 in
theorem eX_126 (G : Gt) (h0 : Nat) (w : Nat → Nat) : (aJ G 60 (fun _ => 0) : va_E) = cellOf G (adX h0 w) μX0 126 (sh 0 126) := rfl
set_option maxRecDepth 100000 in
theorem eX_127 (G : Gt) (h0 : Nat) (w : Nat → Nat) : (aI G 8 (fun _ => 0) : va_E) = cellOf G (adX h0 w) μX0 127 (sh 0 127) := rfl
set_option maxRecDepth 100000 in
theorem eX_128 (G : Gt) (h0 : Nat) (w : Nat → Nat) : (ob 1 [.ref (w 134), .ref (w 135), .int 0, .int 0] : va_E) = cellOf G (adX h0 w) μX0 128 (sh 0 128) := rfl
set_option maxRecDepth 100000 in
theorem eX_129 (G : Gt) (h0 : Nat) (w : Nat → Nat) : (aJ G 40 (fun _ => 0) : va_E) = cellOf G (adX h0 w) μX0 129 (sh 0 129) := rfl
set_option maxRecDepth 100000 in
theorem eX_130 (G : Gt) (h0 : Nat) (w : Nat → Nat) : (aJ G 40 (fun _ => 0) : va_E) = cellOf G (adX h0 w) μX0 130 (sh 0 130) := rfl
set_option maxRecDepth 100000 in
theorem eX_131 (G : Gt) (h0 : Nat) (w : Nat → Nat) : (ob 0 [.int (-1), .int 0, .int 0, .int 0, .int 0, .int 0, .int 0, .ref (w 136), .ref (w 137), .ref (w 138)] : va_E) = cellOf G (adX h0 w) μX0 131 (sh 0 131) := rfl
set_option maxRecDepth 100000 in
theorem eX_132 (G : Gt) (h0 : Nat) (w : Nat → Nat) : (aJ G 60 (fun _ => 0) : va_E) = cellOf G (adX h0 w) μX0 132 (sh 0 132) := rfl
set_option maxRecDepth 100000 in
theorem eX_133 (G : Gt) (h0 : Nat) (w : Nat → Nat) : (aI G 8 (fun _ => 0) : va_E) = cellOf G (adX h0 w) μX0 133 (sh 0 133) := rfl
set_option maxRecDepth 100000 in
theorem eX_134 (G : Gt) (h0 : Nat) (w : Nat → Nat) : (ob 1 [.ref (w 139), .ref (w 140), .int 0, .int 0] : va_E) = cellOf G (adX h0 w) μX0 134 (sh 0 134) := rfl
set_option maxRecDepth 100000 in
theorem eX_135 (G : Gt) (h0 : Nat) (w : Nat → Nat) : (aJ G 40 (fun _ => 0) : va_E) = cellOf G (adX h0 w) μX0 135 (sh 0 135) := rfl
set_option maxRecDepth 100000 in
theorem eX_136 (G : Gt) (h0 : Nat) (w : Nat → Nat) : (aJ G 40 (fun _ => 0) : va_E) = cellOf G (adX h0 w) μX0 136 (sh 0 136) := rfl
set_option maxRecDepth 100000 in
theorem eX_137 (G : Gt) (h0 : Nat) (w : Nat → Nat) : (ob 9 [.int 6, .int 3, .int 120, .ref (w 38), .ref (w 9), .ref (w 2), .int 0, .int 0, .int 0, .int 0, .ref (w 141), .ref (w 142), .int 0, .int 0, .ref (w 143), .ref (w 144), .ref (w 145), .ref (w 146)] : va_E) = cellOf G (adX h0 w) μX0 137 (sh 0 137) := rfl
set_option maxRecDepth 100000 in
theorem eX_138 (G : Gt) (h0 : Nat) (w : Nat → Nat) : (aI G 780 (fun _ => 0) : va_E) = cellOf G (adX h0 w) μX0 138 (sh 0 138) := rfl
set_option maxRecDepth 100000 in
theorem eX_139 (G : Gt) (h0 : Nat) (w : Nat → Nat) : (aJ G 260 (fun _ => 0) : va_E) = cellOf G (adX h0 w) μX0 139 (sh 0 139) := rfl
set_option maxRecDepth 100000 in
theorem eX_140 (G : Gt) (h0 : Nat) (w : Nat → Nat) : (aJ G 8 (fl_reg 8) : va_E) = cellOf G (adX h0 w) μX0 140 (sh 0 140) := rfl
set_option maxRecDepth 100000 in
theorem eX_141 (G : Gt) (h0 : Nat) (w : Nat → Nat) : (aJ G 8 (fun _ => 0) : va_E) = cellOf G (adX h0 w) μX0 141 (sh 0 141) := rfl
set_option maxRecDepth 100000 in
theorem eX_142 (G : Gt) (h0 : Nat) (w : Nat → Nat) : (ob 1 [.ref (w 147), .ref (w 148), .int 0, .int 0] : va_E) = cellOf G (adX h0 w) μX0 142 (sh 0 142) := rfl
set_option maxRecDepth 100000 in
theorem eX_143 (G : Gt) (h0 : Nat) (w : Nat → Nat) : (aJ G 200 (fun _ => 0) : va_E) = cellOf G (adX h0 w) μX0 143 (sh 0 143) := rfl
set_option maxRecDepth 100000 in
theorem eX_144 (G : Gt) (h0 : Nat) (w : Nat → Nat) : (aJ G 200 (fun _ => 0) : va_E) = cellOf G (adX h0 w) μX0 144 (sh 0 144) := rfl
set_option maxRecDepth 100000 in
theorem eX_145 (G : Gt) (h0 : Nat) (w : Nat → Nat) : (ob 1 [.ref (w 149), .ref (w 150), .int 0, .int 0] : va_E) = cellOf G (adX h0 w) μX0 145 (sh 0 145) := rfl
set_option maxRecDepth 100000 in
theorem eX_146 (G : Gt) (h0 : Nat) (w : Nat → Nat) : (aJ G 200 (fun _ => 0) : va_E) = cellOf G (adX h0 w) μX0 146 (sh 0 146) := rfl
set_option maxRecDepth 100000 in
theorem eX_147 (G : Gt) (h0 : Nat) (w : Nat → Nat) : (aJ G 200 (fun _ => 0) : va_E) = cellOf G (adX h0 w) μX0 147 (sh 0 147) := rfl
set_option maxRecDepth 100000 in
theorem eX_148 (G : Gt) (h0 : Nat) (w : Nat → Nat) : (ob 6 [.ref (w 38), .ref (w 151), .ref (w 152), .ref (w 2), .ref (w 12), .int (-1)] : va_E) = cellOf G (adX h0 w) μX0 148 (sh 0 148) := rfl
set_option maxRecDepth 100000 in
theorem eX_149 (G : Gt) (h0 : Nat) (w : Nat → Nat) : (aJ G 8 (fun _ => 0) : va_E) = cellOf G (adX h0 w) μX0 149 (sh 0 149) := rfl
set_option maxRecDepth 100000 in
theorem eX_150 (G : Gt) (h0 : Nat) (w : Nat → Nat) : (aJ G 5 (fun _ => 0) : va_E) = cellOf G (adX h0 w) μX0 150 (sh 0 150) := rfl
set_option maxRecDepth 100000 in
theorem eX_151 (G : Gt) (h0 : Nat) (w : Nat → Nat) : (ob 5 [.ref (w 38), .ref (w 153), .ref (w 154), .ref (w 155), .ref (w 156), .int 0, .int 0, .ref (w 9), .ref (w 12)] : va_E) = cellOf G (adX h0 w) μX0 151 (sh 0 151) := rfl
set_option maxRecDepth 100000 in
theorem eX_152 (G : Gt) (h0 : Nat) (w : Nat → Nat) : (aJ G 9548 (fun _ => 0) : va_E) = cellOf G (adX h0 w) μX0 152 (sh 0 152) := rfl
set_option maxRecDepth 100000 in
theorem eX_153 (G : Gt) (h0 : Nat) (w : Nat → Nat) : (aJ G 8 (fun _ => 0) : va_E) = cellOf G (adX h0 w) μX0 153 (sh 0 153) := rfl
set_option maxRecDepth 100000 in
theorem eX_154 (G : Gt) (h0 : Nat) (w : Nat → Nat) : (aI G 744 (fun _ => 0) : va_E) = cellOf G (adX h0 w) μX0 154 (sh 0 154) := rfl
set_option maxRecDepth 100000 in
theorem eX_155 (G : Gt) (h0 : Nat) (w : Nat → Nat) : (aI G 744 (fun _ => 0) : va_E) = cellOf G (adX h0 w) μX0 155 (sh 0 155) := rfl
set_option maxRecDepth 100000 in
theorem eX_156 (G : Gt) (h0 : Nat) (w : Nat → Nat) : (ob 1 [.ref (w 157), .ref (w 158), .int 0, .int 0] : va_E) = cellOf G (adX h0 w) μX0 156 (sh 0 156) := rfl
set_option maxRecDepth 100000 in
theorem eX_157 (G : Gt) (h0 : Nat) (w : Nat → Nat) : (aJ G 40 (fun _ => 0) : va_E) = cellOf G (adX h0 w) μX0 157 (sh 0 157) := rfl
set_option maxRecDepth 100000 in
theorem eX_158 (G : Gt) (h0 : Nat) (w : Nat → Nat) : (aJ G 40 (fun _ => 0) : va_E) = cellOf G (adX h0 w) μX0 158 (sh 0 158) := rfl
set_option maxRecDepth 100000 in
theorem eX_159 (G : Gt) (h0 : Nat) (w : Nat → Nat) : (ob 8 [.ref (w 159), .int 0] : va_E) = cellOf G (adX h0 w) μX0 159 (sh 0 159) := rfl
set_option maxRecDepth 100000 in
theorem eX_160 (G : Gt) (h0 : Nat) (w : Nat → Nat) : (aB G 40000 (fun _ => 0) : va_E) = cellOf G (adX h0 w) μX0 160 (sh 0 160) := rfl
set_option maxRecDepth 100000 in
theorem wX_eq (G : Gt) (h0 : Nat) (w : Nat → Nat) : ([(h0, ob 10 [.ref (w 0), .int 0, .int (-1), .ref (w 1), .ref (w 2), .ref (w 3), .ref (w 4), .ref (w 5), .ref (w 6), .ref (w 7), .int 0, .ref (w 8), .ref (w 9), .ref (w 10), .ref (w 11), .ref (w 12), .ref (w 13), .ref (w 14), .ref (w 15), .ref (w 16)]), (w 0, aI G 800 (fun _ => 0)), (w 2, ob 2 [.int 0, .int 0, .int 0, .ref (w 17), .ref (w 18), .ref (w 19), .ref (w 20), .ref (w 21), .ref (w 22)]), (w 17, aI G 432 (fun _ => 0)), (w 18, aI G 72 (fun _ => 0)), (w 19, aI G 72 (fl_fill (-1) 0 72)), (w 20, aI G 2472 (fun _ => 0)), (w 21, aI G 2472 (fun _ => 0)), (w 22, aI G 2472 (fun _ => 0)), (w 3, ob 2 [.int 0, .int 0, .int 0, .ref (w 23), .ref (w 24), .ref (w 25), .ref (w 26), .ref (w 27), .ref (w 28)]), (w 23, aI G 432 (fun _ => 0)), (w 24, aI G 72 (fun _ => 0)), (w 25, aI G 72 (fl_fill (-1) 0 72)), (w 26, aI G 2472 (fun _ => 0)), (w 27, aI G 2472 (fun _ => 0)), (w 28, aI G 2472 (fun _ => 0)), (w 1, ob 3 [.ref (w 0), .int 0, .int 0, .int (-1), .ref (w 3), .ref (w 29), .int 0]), (w 29, aI G 32 (fun _ => 0)), (w 4, ob 1 [.ref (w 30), .ref (w 31), .int 0, .int 0]), (w 30, aJ G 30 (fun _ => 0)), (w 31, aJ G 30 (fun _ => 0)), (w 5, ob 1 [.ref (w 32), .ref (w 33), .int 0, .int 0]), (w 32, aJ G 30 (fun _ => 0)), (w 33, aJ G 30 (fun _ => 0)), (w 6, ob 1 [.ref (w 34), .ref (w 35), .int 0, .int 0]), (w 34, aJ G 30 (fun _ => 0)), (w 35, aJ G 30 (fun _ => 0)), (w 7, ob 1 [.ref (w 36), .ref (w 37), .int 0, .int 0]), (w 36, aJ G 30 (fun _ => 0)), (w 37, aJ G 30 (fun _ => 0)), (w 38, ob 7 [.ref (w 39), .ref (w 40), .ref (w 41), .ref (w 42), .ref (w 43), .int 0, .ref (w 44), .int 0, .ref (w 45), .ref (w 46), .int 0]), (w 39, aJ G 30200 (fun _ => 0)), (w 40, aJ G 30200 (fun _ => 0)), (w 41, aI G 30200 (fun _ => 0)), (w 42, aI G 30200 (fun _ => 0)), (w 43, aJ G 264 (fun _ => 0)), (w 44, aJ G 2480 (fun _ => 0)), (w 45, aJ G 992 (fun _ => 0)), (w 46, aI G 31 (fun _ => 0)), (w 9, ob 4 [.int 0, .int 0, .int 0, .int 0, .int 0, .int 0, .int 0, .ref (w 47), .ref (w 48), .ref (w 49), .ref (w 50), .ref (w 51), .ref (w 52), .ref (w 53)]), (w 47, aI G 2400 (fun _ => 0)), (w 48, aJ G 3000 (fun _ => 0)), (w 49, aI G 672 (fun _ => 0)), (w 50, aI G 672 (fun _ => 0)), (w 51, aJ G 672 (fun _ => 0)), (w 52, aI G 96 (fun _ => 0)), (w 53, aP G 24 (va_up (va_up (va_up (va_up (va_up (va_up (va_up (va_up (va_up (va_up (va_up (va_up (va_up (va_up (va_up (va_up (va_up (va_up (va_up (va_up (va_up (va_up (va_up (va_up (fun _ => none) 0 (some (w 54))) 1 (some (w 55))) 2 (some (w 56))) 3 (some (w 57))) 4 (some (w 58))) 5 (some (w 59))) 6 (some (w 60))) 7 (some (w 61))) 8 (some (w 62))) 9 (some (w 63))) 10 (some (w 64))) 11 (some (w 65))) 12 (some (w 66))) 13 (some (w 67))) 14 (some (w 68))) 15 (some (w 69))) 16 (some (w 70))) 17 (some (w 71))) 18 (some (w 72))) 19 (some (w 73))) 20 (some (w 74))) 21 (some (w 75))) 22 (some (w 76))) 23 (some (w 77)))), (w 54, ob 1 [.ref (w 78), .ref (w 79), .int 0, .int 0]), (w 78, aJ G 200 (fun _ => 0)), (w 79, aJ G 200 (fun _ => 0)), (w 55, ob 1 [.ref (w 80), .ref (w 81), .int 0, .int 0]), (w 80, aJ G 200 (fun _ => 0)), (w 81, aJ G 200 (fun _ => 0)), (w 56, ob 1 [.ref (w 82), .ref (w 83), .int 0, .int 0]), (w 82, aJ G 200 (fun _ => 0)), (w 83, aJ G 200 (fun _ => 0)), (w 57, ob 1 [.ref (w 84), .ref (w 85), .int 0, .int 0]), (w 84, aJ G 200 (fun _ => 0)), (w 85, aJ G 200 (fun _ => 0)), (w 58, ob 1 [.ref (w 86), .ref (w 87), .int 0, .int 0]), (w 86, aJ G 200 (fun _ => 0)), (w 87, aJ G 200 (fun _ => 0)), (w 59, ob 1 [.ref (w 88), .ref (w 89), .int 0, .int 0]), (w 88, aJ G 200 (fun _ => 0)), (w 89, aJ G 200 (fun _ => 0)), (w 60, ob 1 [.ref (w 90), .ref (w 91), .int 0, .int 0]), (w 90, aJ G 200 (fun _ => 0)), (w 91, aJ G 200 (fun _ => 0)), (w 61, ob 1 [.ref (w 92), .ref (w 93), .int 0, .int 0]), (w 92, aJ G 200 (fun _ => 0)), (w 93, aJ G 200 (fun _ => 0)), (w 62, ob 1 [.ref (w 94), .ref (w 95), .int 0, .int 0]), (w 94, aJ G 200 (fun _ => 0)), (w 95, aJ G 200 (fun _ => 0)), (w 63, ob 1 [.ref (w 96), .ref (w 97), .int 0, .int 0]), (w 96, aJ G 200 (fun _ => 0)), (w 97, aJ G 200 (fun _ => 0)), (w 64, ob 1 [.ref (w 98), .ref (w 99), .int 0, .int 0]), (w 98, aJ G 200 (fun _ => 0)), (w 99, aJ G 200 (fun _ => 0)), (w 65, ob 1 [.ref (w 100), .ref (w 101), .int 0, .int 0]), (w 100, aJ G 200 (fun _ => 0)), (w 101, aJ G 200 (fun _ => 0)), (w 66, ob 1 [.ref (w 102), .ref (w 103), .int 0, .int 0]), (w 102, aJ G 200 (fun _ => 0)), (w 103, aJ G 200 (fun _ => 0)), (w 67, ob 1 [.ref (w 104), .ref (w 105), .int 0, .int 0]), (w 104, aJ G 200 (fun _ => 0)), (w 105, aJ G 200 (fun _ => 0)), (w 68, ob 1 [.ref (w 106), .ref (w 107), .int 0, .int 0]), (w 106, aJ G 200 (fun _ => 0)), (w 107, aJ G 200 (fun _ => 0)), (w 69, ob 1 [.ref (w 108), .ref (w 109), .int 0, .int 0]), (w 108, aJ G 200 (fun _ => 0)), (w 109, aJ G 200 (fun _ => 0)), (w 70, ob 1 [.ref (w 110), .ref (w 111), .int 0, .int 0]), (w 110, aJ G 200 (fun _ => 0)), (w 111, aJ G 200 (fun _ => 0)), (w 71, ob 1 [.ref (w 112), .ref (w 113), .int 0, .int 0]), (w 112, aJ G 200 (fun _ => 0)), (w 113, aJ G 200 (fun _ => 0)), (w 72, ob 1 [.ref (w 114), .ref (w 115), .int 0, .int 0]), (w 114, aJ G 200 (fun _ => 0)), (w 115, aJ G 200 (fun _ => 0)), (w 73, ob 1 [.ref (w 116), .ref (w 117), .int 0, .int 0]), (w 116, aJ G 200 (fun _ => 0)), (w 117, aJ G 200 (fun _ => 0)), (w 74, ob 1 [.ref (w 118), .ref (w 119), .int 0, .int 0]), (w 118, aJ G 200 (fun _ => 0)), (w 119, aJ G 200 (fun _ => 0)), (w 75, ob 1 [.ref (w 120), .ref (w 121), .int 0, .int 0]), (w 120, aJ G 200 (fun _ => 0)), (w 121, aJ G 200 (fun _ => 0)), (w 76, ob 1 [.ref (w 122), .ref (w 123), .int 0, .int 0]), (w 122, aJ G 200 (fun _ => 0)), (w 123, aJ G 200 (fun _ => 0)), (w 77, ob 1 [.ref (w 124), .ref (w 125), .int 0, .int 0]), (w 124, aJ G 200 (fun _ => 0)), (w 125, aJ G 200 (fun _ => 0)), (w 12, ob 0 [.int (-1), .int 0, .int 0, .int 0, .int 0, .int 0, .int 0, .ref (w 126), .ref (w 127), .ref (w 128)]), (w 126, aJ G 60 (fun _ => 0)), (w 127, aI G 8 (fun _ => 0)), (w 128, ob 1 [.ref (w 129), .ref (w 130), .int 0, .int 0]), (w 129, aJ G 40 (fun _ => 0)), (w 130, aJ G 40 (fun _ => 0)), (w 13, ob 0 [.int (-1), .int 0, .int 0, .int 0, .int 0, .int 0, .int 0, .ref (w 131), .ref (w 132), .ref (w 133)]), (w 131, aJ G 60 (fun _ => 0)), (w 132, aI G 8 (fun _ => 0)), (w 133, ob 1 [.ref (w 134), .ref (w 135), .int 0, .int 0]), (w 134, aJ G 40 (fun _ => 0)), (w 135, aJ G 40 (fun _ => 0)), (w 14, ob 0 [.int (-1), .int 0, .int 0, .int 0, .int 0, .int 0, .int 0, .ref (w 136), .ref (w 137), .ref (w 138)]), (w 136, aJ G 60 (fun _ => 0)), (w 137, aI G 8 (fun _ => 0)), (w 138, ob 1 [.ref (w 139), .ref (w 140), .int 0, .int 0]), (w 139, aJ G 40 (fun _ => 0)), (w 140, aJ G 40 (fun _ => 0)), (w 8, ob 9 [.int 6, .int 3, .int 120, .ref (w 38), .ref (w 9), .ref (w 2), .int 0, .int 0, .int 0, .int 0, .ref (w 141), .ref (w 142), .int 0, .int 0, .ref (w 143), .ref (w 144), .ref (w 145), .ref (w 146)]), (w 141, aI G 780 (fun _ => 0)), (w 142, aJ G 260 (fun _ => 0)), (w 145, aJ G 8 (fl_reg 8)), (w 146, aJ G 8 (fun _ => 0)), (w 143, ob 1 [.ref (w 147), .ref (w 148), .int 0, .int 0]), (w 147, aJ G 200 (fun _ => 0)), (w 148, aJ G 200 (fun _ => 0)), (w 144, ob 1 [.ref (w 149), .ref (w 150), .int 0, .int 0]), (w 149, aJ G 200 (fun _ => 0)), (w 150, aJ G 200 (fun _ => 0)), (w 10, ob 6 [.ref (w 38), .ref (w 151), .ref (w 152), .ref (w 2), .ref (w 12), .int (-1)]), (w 151, aJ G 8 (fun _ => 0)), (w 152, aJ G 5 (fun _ => 0)), (w 11, ob 5 [.ref (w 38), .ref (w 153), .ref (w 154), .ref (w 155), .ref (w 156), .int 0, .int 0, .ref (w 9), .ref (w 12)]), (w 153, aJ G 9548 (fun _ => 0)), (w 154, aJ G 8 (fun _ => 0)), (w 155, aI G 744 (fun _ => 0)), (w 156, aI G 744 (fun _ => 0)), (w 15, ob 1 [.ref (w 157), .ref (w 158), .int 0, .int 0]), (w 157, aJ G 40 (fun _ => 0)), (w 158, aJ G 40 (fun _ => 0)), (w 16, ob 8 [.ref (w 159), .int 0]), (w 159, aB G 40000 (fun _ => 0))] : va_W) = wd 0 G (adX h0 w) μX0 := by
  show _ = (List.range 161).map (fun i => (adX h0 w i, cellOf G (adX h0 w) μX0 i (sh 0 i)))
  rw [show List.range 161 = [0, 1, 2, 3, 4, 5, 6, 7, 8, 9, 10, 11, 12, 13, 14, 15, 16, 17, 18, 19, 20, 21, 22, 23, 24, 25, 26, 27, 28, 29, 30, 31, 32, 33, 34, 35, 36, 37, 38, 39, 40, 41, 42, 43, 44, 45, 46, 47, 48, 49, 50, 51, 52, 53, 54, 55, 56, 57, 58, 59, 60, 61, 62, 63, 64, 65, 66, 67, 68, 69, 70, 71, 72, 73, 74, 75, 76, 77, 78, 79, 80, 81, 82, 83, 84, 85, 86, 87, 88, 89, 90, 91, 92, 93, 94, 95, 96, 97, 98, 99, 100, 101, 102, 103, 104, 105, 106, 107, 108, 109, 110, 111, 112, 113, 114, 115, 116, 117, 118, 119, 120, 121, 122, 123, 124, 125, 126, 127, 128, 129, 130, 131, 132, 133, 134, 135, 136, 137, 138, 139, 140, 141, 142, 143, 144, 145, 146, 147, 148, 149, 150, 151, 152, 153, 154, 155, 156, 157, 158, 159, 160] from rfl]
  simp only [List.map_cons, List.map_nil]
  rw [← eX_0, ← eX_1, ← eX_2, ← eX_3, ← eX_4, ← eX_5, ← eX_6, ← eX_7, ← eX_8, ← eX_9, ← eX_10, ← eX_11, ← eX_12, ← eX_13, ← eX_14, ← eX_15, ← eX_16, ← eX_17, ← eX_18, ← eX_19, ← eX_20, ← eX_21, ← eX_22, ← eX_23, ← eX_24, ← eX_25, ← eX_26, ← eX_27, ← eX_28, ← eX_29, ← eX_30, ← eX_31, ← eX_32, ← eX_33, ← eX_34, ← eX_35, ← eX_36, ← eX_37, ← eX_38, ← eX_39, ← eX_40, ← eX_41, ← eX_42, ← eX_43, ← eX_44, ← eX_45, ← eX_46, ← eX_47, ← eX_48, ← eX_49, ← eX_50, ← eX_51, ← eX_52, ← eX_53, ← eX_54, ← eX_55, ← eX_56, ← eX_57, ← eX_58, ← eX_59, ← eX_60, ← eX_61, ← eX_62, ← eX_63, ← eX_64, ← eX_65, ← eX_66, ← eX_67, ← eX_68, ← eX_69, ← eX_70, ← eX_71, ← eX_72, ← eX_73, ← eX_74, ← eX_75, ← eX_76, ← eX_77, ← eX_78, ← eX_79, ← eX_80, ← eX_81, ← eX_82, ← eX_83, ← eX_84, ← eX_85, ← eX_86, ← eX_87, ← eX_88, ← eX_89, ← eX_90, ← eX_91, ← eX_92, ← eX_93, ← eX_94, ← eX_95, ← eX_96, ← eX_97, ← eX_98, ← eX_99, ← eX_100, ← eX_101, ← eX_102, ← eX_103, ← eX_104, ← eX_105, ← eX_106, ← eX_107, ← eX_108, ← eX_109, ← eX_110, ← eX_111, ← eX_112, ← eX_113, ← eX_114, ← eX_115, ← eX_116, ← eX_117, ← eX_118, ← eX_119, ← eX_120, ← eX_121, ← eX_122, ← eX_123, ← eX_124, ← eX_125, ← eX_126, ← eX_127, ← eX_128, ← eX_129, ← eX_130, ← eX_131, ← eX_132, ← eX_133, ← eX_134, ← eX_135, ← eX_136, ← eX_137, ← eX_138, ← eX_139, ← eX_140, ← eX_141, ← eX_142, ← eX_143, ← eX_144, ← eX_145, ← eX_146, ← eX_147, ← eX_148, ← eX_149, ← eX_150, ← eX_151, ← eX_152, ← eX_153, ← eX_154, ← eX_155, ← eX_156, ← eX_157, ← eX_158, ← eX_159, ← eX_160]
  rfl
set_option maxRecDepth 100000 in
theorem eM_0 (G : Gt) (h0 : Nat) (w : Nat → Nat) : (ob 11 [.int 0, .int 0, .ref (w 0), .int 0, .int 0, .int (-1), .int 0, .int 0, .ref (w 1), .ref (w 2), .ref (w 3), .ref (w 4), .ref (w 5), .ref (w 6), .ref (w 7), .ref (w 8), .ref (w 9), .int 0, .int 0, .ref (w 10), .ref (w 11), .ref (w 12), .ref (w 13), .ref (w 14), .ref (w 15), .ref (w 16), .ref (w 17), .int 0, .int 0, .ref (w 18), .ref (w 19), .ref (w 20), .int 0, .ref (w 21), .ref (w 22), .ref (w 23), .int 0, .int 0, .ref (w 24), .ref (w 25), .ref (w 26), .ref (w 27), .int 1, .int 0, .int 0, .int 0, .int 0, .int 0, .int 0, .int 0, .ref (w 28), .ref (w 29), .ref (w 30), .ref (w 31), .ref (w 32), .ref (w 33), .int 0, .ref (w 34), .int 0, .ref (w 35), .ref (w 36), .ref (w 37), .ref (w 38), .ref (w 39), .ref (w 40), .int 0, .int 0, .int 0, .int 0, .int 0, .ref (w 41), .ref (w 42), .ref (w 43), .int 0, .ref (w 44), .int 0, .int 0, .int 0, .ref (w 45), .ref (w 46), .ref (w 47), .ref (w 48), .ref (w 49), .ref (w 50), .ref (w 51), .ref (w 52), .ref (w 53), .int 0, .int 0, .int 0, .int 0, .int 0, .int 0, .int 0, .int 0, .int 0, .int 0, .int 0, .ref (w 54), .ref (w 55), .ref (w 56), .ref (w 57), .ref (w 58), .ref (w 59), .ref (w 60), .ref (w 61), .ref (w 62), .ref (w 63), .ref (w 64), .ref (w 65), .int 0, .int 0, .ref (w 66), .ref (w 67), .ref (w 68), .ref (w 69), .ref (w 70), .ref (w 71), .int 0, .ref (w 72), .ref (w 73), .ref (w 74), .int 0, .ref (w 75), .ref (w 76), .ref (w 77), .int 0, .ref (w 78), .ref (w 79), .ref (w 80), .ref (w 81), .ref (w 82), .int 0, .int 0, .ref (w 83), .ref (w 84), .ref (w 85), .ref (w 86), .ref (w 87), .int 0, .ref (w 88)] : va_E) = cellOf G (adM h0 w) μM0 0 (sh 1 0) := rfl
set_option maxRecDepth 100000 in
theorem eM_1 (G : Gt) (h0 : Nat) (w : Nat → Nat) : (aB G 800 (fun _ => 0) : va_E) = cellOf G (adM h0 w) μM0 1 (sh 1 1) := rfl
set_option maxRecDepth 100000 in
theorem eM_2 (G : Gt) (h0 : Nat) (w : Nat → Nat) : (aI G 73 (fun _ => 0) : va_E) = cellOf G (adM h0 w) μM0 2 (sh 1 2) := rfl
set_option maxRecDepth 100000 in
theorem eM_3 (G : Gt) (h0 : Nat) (w : Nat → Nat) : (aI G 73 (fun _ => 0) : va_E) = cellOf G (adM h0 w) μM0 3 (sh 1 3) := rfl
set_option maxRecDepth 100000 in
theorem eM_4 (G : Gt) (h0 : Nat) (w : Nat → Nat) : (aI G 365 (fun _ => 0) : va_E) = cellOf G (adM h0 w) μM0 4 (sh 1 4) := rfl
set_option maxRecDepth 100000 in
theorem eM_5 (G : Gt) (h0 : Nat) (w : Nat → Nat) : (aI G 73 (fun _ => 0) : va_E) = cellOf G (adM h0 w) μM0 5 (sh 1 5) := rfl
set_option maxRecDepth 100000 in
theorem eM_6 (G : Gt) (h0 : Nat) (w : Nat → Nat) : (aI G 73 (fun _ => 0) : va_E) = cellOf G (adM h0 w) μM0 6 (sh 1 6) := rfl
set_option maxRecDepth 100000 in
theorem eM_7 (G : Gt) (h0 : Nat) (w : Nat → Nat) : (aI G 800 (fun _ => 0) : va_E) = cellOf G (adM h0 w) μM0 7 (sh 1 7) := rfl
set_option maxRecDepth 100000 in
theorem eM_8 (G : Gt) (h0 : Nat) (w : Nat → Nat) : (aI G 800 (fun _ => 0) : va_E) = cellOf G (adM h0 w) μM0 8 (sh 1 8) := rfl
set_option maxRecDepth 100000 in
theorem eM_9 (G : Gt) (h0 : Nat) (w : Nat → Nat) : (aI G 800 (fun _ => 0) : va_E) = cellOf G (adM h0 w) μM0 9 (sh 1 9) := rfl
set_option maxRecDepth 100000 in
theorem eM_10 (G : Gt) (h0 : Nat) (w : Nat → Nat) : (aI G 800 (fun _ => 0) : va_E) = cellOf G (adM h0 w) μM0 10 (sh 1 10) := rfl
set_option maxRecDepth 100000 in
theorem eM_11 (G : Gt) (h0 : Nat) (w : Nat → Nat) : (aI G 73 (fun _ => 0) : va_E) = cellOf G (adM h0 w) μM0 11 (sh 1 11) := rfl
set_option maxRecDepth 100000 in
theorem eM_12 (G : Gt) (h0 : Nat) (w : Nat → Nat) : (aI G 73 (fun _ => 0) : va_E) = cellOf G (adM h0 w) μM0 12 (sh 1 12) := rfl
set_option maxRecDepth 100000 in
theorem eM_13 (G : Gt) (h0 : Nat) (w : Nat → Nat) : (aI G 365 (fun _ => 0) : va_E) = cellOf G (adM h0 w) μM0 13 (sh 1 13) := rfl
set_option maxRecDepth 100000 in
theorem eM_14 (G : Gt) (h0 : Nat) (w : Nat → Nat) : (aI G 73 (fun _ => 0) : va_E) = cellOf G (adM h0 w) μM0 14 (sh 1 14) := rfl
set_option maxRecDepth 100000 in
theorem eM_15 (G : Gt) (h0 : Nat) (w : Nat → Nat) : (aI G 73 (fun _ => 0) : va_E) = cellOf G (adM h0 w) μM0 15 (sh 1 15) := rfl
set_option maxRecDepth 100000 in
theorem eM_16 (G : Gt) (h0 : Nat) (w : Nat → Nat) : (aI G 800 (fun _ => 0) : va_E) = cellOf G (adM h0 w) μM0 16 (sh 1 16) := rfl
set_option maxRecDepth 100000 in
theorem eM_17 (G : Gt) (h0 : Nat) (w : Nat → Nat) : (aI G 800 (fun _ => 0) : va_E) = cellOf G (adM h0 w) μM0 17 (sh 1 17) := rfl
set_option maxRecDepth 100000 in
theorem eM_18 (G : Gt) (h0 : Nat) (w : Nat → Nat) : (aI G 800 (fun _ => 0) : va_E) = cellOf G (adM h0 w) μM0 18 (sh 1 18) := rfl
set_option maxRecDepth 100000 in
theorem eM_19 (G : Gt) (h0 : Nat) (w : Nat → Nat) : (aI G 20 (fun _ => 0) : va_E) = cellOf G (adM h0 w) μM0 19 (sh 1 19) := rfl
set_option maxRecDepth 100000 in
theorem eM_20 (G : Gt) (h0 : Nat) (w : Nat → Nat) : (aI G 20 (fun _ => 0) : va_E) = cellOf G (adM h0 w) μM0 20 (sh 1 20) := rfl
set_option maxRecDepth 100000 in
theorem eM_21 (G : Gt) (h0 : Nat) (w : Nat → Nat) : (aI G 14 (fun _ => 0) : va_E) = cellOf G (adM h0 w) μM0 21 (sh 1 21) := rfl
set_option maxRecDepth 100000 in
theorem eM_22 (G : Gt) (h0 : Nat) (w : Nat → Nat) : (aI G 30 (fun _ => 0) : va_E) = cellOf G (adM h0 w) μM0 22 (sh 1 22) := rfl
set_option maxRecDepth 100000 in
theorem eM_23 (G : Gt) (h0 : Nat) (w : Nat → Nat) : (aI G 30 (fun _ => 0) : va_E) = cellOf G (adM h0 w) μM0 23 (sh 1 23) := rfl
set_option maxRecDepth 100000 in
theorem eM_24 (G : Gt) (h0 : Nat) (w : Nat → Nat) : (aI G 30 (fun _ => 0) : va_E) = cellOf G (adM h0 w) μM0 24 (sh 1 24) := rfl
set_option maxRecDepth 100000 in
theorem eM_25 (G : Gt) (h0 : Nat) (w : Nat → Nat) : (aI G 30 (fun _ => 0) : va_E) = cellOf G (adM h0 w) μM0 25 (sh 1 25) := rfl
set_option maxRecDepth 100000 in
theorem eM_26 (G : Gt) (h0 : Nat) (w : Nat → Nat) : (aI G 30 (fun _ => 0) : va_E) = cellOf G (adM h0 w) μM0 26 (sh 1 26) := rfl
set_option maxRecDepth 100000 in
theorem eM_27 (G : Gt) (h0 : Nat) (w : Nat → Nat) : (aI G 30 (fun _ => 0) : va_E) = cellOf G (adM h0 w) μM0 27 (sh 1 27) := rfl
set_option maxRecDepth 100000 in
theorem eM_28 (G : Gt) (h0 : Nat) (w : Nat → Nat) : (aI G 30 (fun _ => 0) : va_E) = cellOf G (adM h0 w) μM0 28 (sh 1 28) := rfl
set_option maxRecDepth 100000 in
theorem eM_29 (G : Gt) (h0 : Nat) (w : Nat → Nat) : (aI G 3 (upd (upd (upd (fun _ => 0) 0 6) 1 3) 2 120) : va_E) = cellOf G (adM h0 w) μM0 29 (sh 1 29) := rfl
set_option maxRecDepth 100000 in
theorem eM_30 (G : Gt) (h0 : Nat) (w : Nat → Nat) : (aI G 100000 (fun _ => 0) : va_E) = cellOf G (adM h0 w) μM0 30 (sh 1 30) := rfl
set_option maxRecDepth 100000 in
theorem eM_31 (G : Gt) (h0 : Nat) (w : Nat → Nat) : (aI G 100000 (fun _ => 0) : va_E) = cellOf G (adM h0 w) μM0 31 (sh 1 31) := rfl
set_option maxRecDepth 100000 in
theorem eM_32 (G : Gt) (h0 : Nat) (w : Nat → Nat) : (aI G 100000 (fun _ => 0) : va_E) = cellOf G (adM h0 w) μM0 32 (sh 1 32) := rfl
set_option maxRecDepth 100000 in
theorem eM_33 (G : Gt) (h0 : Nat) (w : Nat → Nat) : (aI G 100000 (fun _ => 0) : va_E) = cellOf G (adM h0 w) μM0 33 (sh 1 33) := rfl
set_option maxRecDepth 100000 in
theorem eM_34 (G : Gt) (h0 : Nat) (w : Nat → Nat) : (aI G 100000 (fun _ => 0) : va_E) = cellOf G (adM h0 w) μM0 34 (sh 1 34) := rfl
set_option maxRecDepth 100000 in
theorem eM_35 (G : Gt) (h0 : Nat) (w : Nat → Nat) : (aI G 300 (fun _ => 0) : va_E) = cellOf G (adM h0 w) μM0 35 (sh 1 35) := rfl
set_option maxRecDepth 100000 in
theorem eM_36 (G : Gt) (h0 : Nat) (w : Nat → Nat) : (aI G 8 (fun _ => 0) : va_E) = cellOf G (adM h0 w) μM0 36 (sh 1 36) := rfl
set_option maxRecDepth 100000 in
theorem eM_37 (G : Gt) (h0 : Nat) (w : Nat → Nat) : (aI G 6000 (fun _ => 0) : va_E) = cellOf G (adM h0 w) μM0 37 (sh 1 37) := rfl
set_option maxRecDepth 100000 in
theorem eM_38 (G : Gt) (h0 : Nat) (w : Nat → Nat) : (aI G 6000 (fun _ => 0) : va_E) = cellOf G (adM h0 w) μM0 38 (sh 1 38) := rfl
set_option maxRecDepth 100000 in
theorem eM_39 (G : Gt) (h0 : Nat) (w : Nat → Nat) : (aI G 6000 (fun _ => 0) : va_E) = cellOf G (adM h0 w) μM0 39 (sh 1 39) := rfl
set_option maxRecDepth 100000 in
theorem eM_40 (G : Gt) (h0 : Nat) (w : Nat → Nat) : (aI G 6000 (fun _ => 0) : va_E) = cellOf G (adM h0 w) μM0 40 (sh 1 40) := rfl
set_option maxRecDepth 100000 in
theorem eM_41 (G : Gt) (h0 : Nat) (w : Nat → Nat) : (aI G 500 (fun _ => 0) : va_E) = cellOf G (adM h0 w) μM0 41 (sh 1 41) := rfl
set_option maxRecDepth 100000 in
theorem eM_42 (G : Gt) (h0 : Nat) (w : Nat → Nat) : (aI G 8 (fun _ => 0) : va_E) = cellOf G (adM h0 w) μM0 42 (sh 1 42) := rfl
set_option maxRecDepth 100000 in
theorem eM_43 (G : Gt) (h0 : Nat) (w : Nat → Nat) : (aI G 60 (fun _ => 0) : va_E) = cellOf G (adM h0 w) μM0 43 (sh 1 43) := rfl
set_option maxRecDepth 100000 in
theorem eM_44 (G : Gt) (h0 : Nat) (w : Nat → Nat) : (aI G 60 (fun _ => 0) : va_E) = cellOf G (adM h0 w) μM0 44 (sh 1 44) := rfl
set_option maxRecDepth 100000 in
theorem eM_45 (G : Gt) (h0 : Nat) (w : Nat → Nat) : (aI G 5 (fun _ => 0) : va_E) = cellOf G (adM h0 w) μM0 45 (sh 1 45) := rfl
set_option maxRecDepth 100000 in
theorem eM_46 (G : Gt) (h0 : Nat) (w : Nat → Nat) : (aI G 960 (fun _ => 0) : va_E) = cellOf G (adM h0 w) μM0 46 (sh 1 46) := rfl
set_option maxRecDepth 100000 in
theorem eM_47 (G : Gt) (h0 : Nat) (w : Nat → Nat) : (aI G 960 (fun _ => 0) : va_E) = cellOf G (adM h0 w) μM0 47 (sh 1 47) := rfl
set_option maxRecDepth 100000 in
theorem eM_48 (G : Gt) (h0 : Nat) (w : Nat → Nat) : (aI G 960 (fun _ => 0) : va_E) = cellOf G (adM h0 w) μM0 48 (sh 1 48) := rfl
set_option maxRecDepth 100000 in
theorem eM_49 (G : Gt) (h0 : Nat) (w : Nat → Nat) : (aI G 960 (fun _ => 0) : va_E) = cellOf G (adM h0 w) μM0 49 (sh 1 49) := rfl
set_option maxRecDepth 100000 in
theorem eM_50 (G : Gt) (h0 : Nat) (w : Nat → Nat) : (aI G 960 (fun _ => 0) : va_E) = cellOf G (adM h0 w) μM0 50 (sh 1 50) := rfl
set_option maxRecDepth 100000 in
theorem eM_51 (G : Gt) (h0 : Nat) (w : Nat → Nat) : (aI G 960 (fun _ => 0) : va_E) = cellOf G (adM h0 w) μM0 51 (sh 1 51) := rfl
set_option maxRecDepth 100000 in
theorem eM_52 (G : Gt) (h0 : Nat) (w : Nat → Nat) : (aI G 960 (fun _ => 0) : va_E) = cellOf G (adM h0 w) μM0 52 (sh 1 52) := rfl
set_option maxRecDepth 100000 in
theorem eM_53 (G : Gt) (h0 : Nat) (w : Nat → Nat) : (aI G 4200 (fun _ => 0) : va_E) = cellOf G (adM h0 w) μM0 53 (sh 1 53) := rfl
set_option maxRecDepth 100000 in
theorem eM_54 (G : Gt) (h0 : Nat) (w : Nat → Nat) : (aI G 4200 (fun _ => 0) : va_E) = cellOf G (adM h0 w) μM0 54 (sh 1 54) := rfl
set_option maxRecDepth 100000 in
theorem eM_55 (G : Gt) (h0 : Nat) (w : Nat → Nat) : (aI G 200 (fun _ => 0) : va_E) = cellOf G (adM h0 w) μM0 55 (sh 1 55) := rfl
set_option maxRecDepth 100000 in
theorem eM_56 (G : Gt) (h0 : Nat) (w : Nat → Nat) : (aI G 200 (fun _ => 0) : va_E) = cellOf G (adM h0 w) μM0 56 (sh 1 56) := rfl
set_option maxRecDepth 100000 in
theorem eM_57 (G : Gt) (h0 : Nat) (w : Nat → Nat) : (aI G 25 (fun _ => 0) : va_E) = cellOf G (adM h0 w) μM0 57 (sh 1 57) := rfl
set_option maxRecDepth 100000 in
theorem eM_58 (G : Gt) (h0 : Nat) (w : Nat → Nat) : (aI G 25 (fun _ => 0) : va_E) = cellOf G (adM h0 w) μM0 58 (sh 1 58) := rfl
set_option maxRecDepth 100000 in
theorem eM_59 (G : Gt) (h0 : Nat) (w : Nat → Nat) : (aI G 25 (fun _ => 0) : va_E) = cellOf G (adM h0 w) μM0 59 (sh 1 59) := rfl
set_option maxRecDepth 100000 in
theorem eM_60 (G : Gt) (h0 : Nat) (w : Nat → Nat) : (aI G 5250 (fun _ => 0) : va_E) = cellOf G (adM h0 w) μM0 60 (sh 1 60) := rfl
set_option maxRecDepth 100000 in
theorem eM_61 (G : Gt) (h0 : Nat) (w : Nat → Nat) : (aI G 5250 (fun _ => 0) : va_E) = cellOf G (adM h0 w) μM0 61 (sh 1 61) := rfl
set_option maxRecDepth 100000 in
theorem eM_62 (G : Gt) (h0 : Nat) (w : Nat → Nat) : (aI G 25 (fun _ => 0) : va_E) = cellOf G (adM h0 w) μM0 62 (sh 1 62) := rfl
set_option maxRecDepth 100000 in
theorem eM_63 (G : Gt) (h0 : Nat) (w : Nat → Nat) : (aI G 25 (fun _ => 0) : va_E) = cellOf G (adM h0 w) μM0 63 (sh 1 63) := rfl
set_option maxRecDepth 100000 in
theorem eM_64 (G : Gt) (h0 : Nat) (w : Nat → Nat) : (aI G 25 (fun _ => 0) : va_E) = cellOf G (adM h0 w) μM0 64 (sh 1 64) := rfl
set_option maxRecDepth 100000 in
theorem eM_65 (G : Gt) (h0 : Nat) (w : Nat → Nat) : (aI G 25 (fun _ => 0) : va_E) = cellOf G (adM h0 w) μM0 65 (sh 1 65) := rfl
set_option maxRecDepth 100000 in
theorem eM_66 (G : Gt) (h0 : Nat) (w : Nat → Nat) : (aI G 25 (fun _ => 0) : va_E) = cellOf G (adM h0 w) μM0 66 (sh 1 66) := rfl
set_option maxRecDepth 100000 in
theorem eM_67 (G : Gt) (h0 : Nat) (w : Nat → Nat) : (aI G 210 (fun _ => 0) : va_E) = cellOf G (adM h0 w) μM0 67 (sh 1 67) := rfl
set_option maxRecDepth 100000 in
theorem eM_68 (G : Gt) (h0 : Nat) (w : Nat → Nat) : (aI G 210 (fun _ => 0) : va_E) = cellOf G (adM h0 w) μM0 68 (sh 1 68) := rfl
set_option maxRecDepth 100000 in
theorem eM_69 (G : Gt) (h0 : Nat) (w : Nat → Nat) : (aI G 210 (fun _ => 0) : va_E) = cellOf G (adM h0 w) μM0 69 (sh 1 69) := rfl
set_option maxRecDepth 100000 in
theorem eM_70 (G : Gt) (h0 : Nat) (w : Nat → Nat) : (aI G 210 (fun _ => 0) : va_E) = cellOf G (adM h0 w) μM0 70 (sh 1 70) := rfl
set_option maxRecDepth 100000 in
theorem eM_71 (G : Gt) (h0 : Nat) (w : Nat → Nat) : (aI G 210 (fun _ => 0) : va_E) = cellOf G (adM h0 w) μM0 71 (sh 1 71) := rfl
set_option maxRecDepth 100000 in
theorem eM_72 (G : Gt) (h0 : Nat) (w : Nat → Nat) : (aI G 210 (fun _ => 0) : va_E) = cellOf G (adM h0 w) μM0 72 (sh 1 72) := rfl
set_option maxRecDepth 100000 in
theorem eM_73 (G : Gt) (h0 : Nat) (w : Nat → Nat) : (aI G 6 (fun _ => 0) : va_E) = cellOf G (adM h0 w) μM0 73 (sh 1 73) := rfl
set_option maxRecDepth 100000 in
theorem eM_74 (G : Gt) (h0 : Nat) (w : Nat → Nat) : (aI G 41 (fun _ => 0) : va_E) = cellOf G (adM h0 w) μM0 74 (sh 1 74) := rfl
set_option maxRecDepth 100000 in
theorem eM_75 (G : Gt) (h0 : Nat) (w : Nat → Nat) : (aI G 41 (fun _ => 0) : va_E) = cellOf G (adM h0 w) μM0 75 (sh 1 75) := rfl
set_option maxRecDepth 100000 in
theorem eM_76 (G : Gt) (h0 : Nat) (w : Nat → Nat) : (aI G 10000 (fun _ => 0) : va_E) = cellOf G (adM h0 w) μM0 76 (sh 1 76) := rfl
set_option maxRecDepth 100000 in
theorem eM_77 (G : Gt) (h0 : Nat) (w : Nat → Nat) : (aI G 31 (fun _ => 0) : va_E) = cellOf G (adM h0 w) μM0 77 (sh 1 77) := rfl
set_option maxRecDepth 100000 in
theorem eM_78 (G : Gt) (h0 : Nat) (w : Nat → Nat) : (aI G 31 (fun _ => 0) : va_E) = cellOf G (adM h0 w) μM0 78 (sh 1 78) := rfl
set_option maxRecDepth 100000 in
theorem eM_79 (G : Gt) (h0 : Nat) (w : Nat → Nat) : (aI G 60 (fun _ => 0) : va_E) = cellOf G (adM h0 w) μM0 79 (sh 1 79) := rfl
set_option maxRecDepth 100000 in
theorem eM_80 (G : Gt) (h0 : Nat) (w : Nat → Nat) : (aI G 60 (fun _ => 0) : va_E) = cellOf G (adM h0 w) μM0 80 (sh 1 80) := rfl
set_option maxRecDepth 100000 in
theorem eM_81 (G : Gt) (h0 : Nat) (w : Nat → Nat) : (aI G 8 (fun _ => 0) : va_E) = cellOf G (adM h0 w) μM0 81 (sh 1 81) := rfl
set_option maxRecDepth 100000 in
theorem eM_82 (G : Gt) (h0 : Nat) (w : Nat → Nat) : (aI G 41 (fun _ => 0) : va_E) = cellOf G (adM h0 w) μM0 82 (sh 1 82) := rfl
set_option maxRecDepth 100000 in
theorem eM_83 (G : Gt) (h0 : Nat) (w : Nat → Nat) : (aI G 41 (fun _ => 0) : va_E) = cellOf G (adM h0 w) μM0 83 (sh 1 83) := rfl
set_option maxRecDepth 100000 in
theorem eM_84 (G : Gt) (h0 : Nat) (w : Nat → Nat) : (aI G 101 (fun _ => 0) : va_E) = cellOf G (adM h0 w) μM0 84 (sh 1 84) := rfl
set_option maxRecDepth 100000 in
theorem eM_85 (G : Gt) (h0 : Nat) (w : Nat → Nat) : (aI G 101 (fun _ => 0) : va_E) = cellOf G (adM h0 w) μM0 85 (sh 1 85) := rfl
set_option maxRecDepth 100000 in
theorem eM_86 (G : Gt) (h0 : Nat) (w : Nat → Nat) : (aI G 8 (fun _ => 0) : va_E) = cellOf G (adM h0 w) μM0 86 (sh 1 86) := rfl
set_option maxRecDepth 100000 in
theorem eM_87 (G : Gt) (h0 : Nat) (w : Nat → Nat) : (aI G 6 (fun _ => 0) : va_E) = cellOf G (adM h0 w) μM0 87 (sh 1 87) := rfl
set_option maxRecDepth 100000 in
theorem eM_88 (G : Gt) (h0 : Nat) (w : Nat → Nat) : (aB G 50000 (fun _ => 0) : va_E) = cellOf G (adM h0 w) μM0 88 (sh 1 88) := rfl
set_option maxRecDepth 100000 in
theorem eM_89 (G : Gt) (h0 : Nat) (w : Nat → Nat) : (aI G 210 (fun _ => 0) : va_E) = cellOf G (adM h0 w) μM0 89 (sh 1 89) := rfl
set_option maxRecDepth 100000 in
theorem wM_eq (G : Gt) (h0 : Nat) (w : Nat → Nat) : ([(h0, ob 11 [.int 0, .int 0, .ref (w 0), .int 0, .int 0, .int (-1), .int 0, .int 0, .ref (w 1), .ref (w 2), .ref (w 3), .ref (w 4), .ref (w 5), .ref (w 6), .ref (w 7), .ref (w 8), .ref (w 9), .int 0, .int 0, .ref (w 10), .ref (w 11), .ref (w 12), .ref (w 13), .ref (w 14), .ref (w 15), .ref (w 16), .ref (w 17), .int 0, .int 0, .ref (w 18), .ref (w 19), .ref (w 20), .int 0, .ref (w 21), .ref (w 22), .ref (w 23), .int 0, .int 0, .ref (w 24), .ref (w 25), .ref (w 26), .ref (w 27), .int 1, .int 0, .int 0, .int 0, .int 0, .int 0, .int 0, .int 0, .ref (w 28), .ref (w 29), .ref (w 30), .ref (w 31), .ref (w 32), .ref (w 33), .int 0, .ref (w 34), .int 0, .ref (w 35), .ref (w 36), .ref (w 37), .ref (w 38), .ref (w 39), .ref (w 40), .int 0, .int 0, .int 0, .int 0, .int 0, .ref (w 41), .ref (w 42), .ref (w 43), .int 0, .ref (w 44), .int 0, .int 0, .int 0, .ref (w 45), .ref (w 46), .ref (w 47), .ref (w 48), .ref (w 49), .ref (w 50), .ref (w 51), .ref (w 52), .ref (w 53), .int 0, .int 0, .int 0, .int 0, .int 0, .int 0, .int 0, .int 0, .int 0, .int 0, .int 0, .ref (w 54), .ref (w 55), .ref (w 56), .ref (w 57), .ref (w 58), .ref (w 59), .ref (w 60), .ref (w 61), .ref (w 62), .ref (w 63), .ref (w 64), .ref (w 65), .int 0, .int 0, .ref (w 66), .ref (w 67), .ref (w 68), .ref (w 69), .ref (w 70), .ref (w 71), .int 0, .ref (w 72), .ref (w 73), .ref (w 74), .int 0, .ref (w 75), .ref (w 76), .ref (w 77), .int 0, .ref (w 78), .ref (w 79), .ref (w 80), .ref (w 81), .ref (w 82), .int 0, .int 0, .ref (w 83), .ref (w 84), .ref (w 85), .ref (w 86), .ref (w 87), .int 0, .ref (w 88)]), (w 0, aB G 800 (fun _ => 0)), (w 1, aI G 73 (fun _ => 0)), (w 2, aI G 73 (fun _ => 0)), (w 3, aI G 365 (fun _ => 0)), (w 4, aI G 73 (fun _ => 0)), (w 5, aI G 73 (fun _ => 0)), (w 6, aI G 800 (fun _ => 0)), (w 7, aI G 800 (fun _ => 0)), (w 8, aI G 800 (fun _ => 0)), (w 9, aI G 800 (fun _ => 0)), (w 10, aI G 73 (fun _ => 0)), (w 11, aI G 73 (fun _ => 0)), (w 12, aI G 365 (fun _ => 0)), (w 13, aI G 73 (fun _ => 0)), (w 14, aI G 73 (fun _ => 0)), (w 15, aI G 800 (fun _ => 0)), (w 16, aI G 800 (fun _ => 0)), (w 17, aI G 800 (fun _ => 0)), (w 18, aI G 20 (fun _ => 0)), (w 19, aI G 20 (fun _ => 0)), (w 20, aI G 14 (fun _ => 0)), (w 21, aI G 30 (fun _ => 0)), (w 22, aI G 30 (fun _ => 0)), (w 23, aI G 30 (fun _ => 0)), (w 24, aI G 30 (fun _ => 0)), (w 25, aI G 30 (fun _ => 0)), (w 26, aI G 30 (fun _ => 0)), (w 27, aI G 30 (fun _ => 0)), (w 28, aI G 3 (upd (upd (upd (fun _ => 0) 0 6) 1 3) 2 120)), (w 29, aI G 100000 (fun _ => 0)), (w 30, aI G 100000 (fun _ => 0)), (w 31, aI G 100000 (fun _ => 0)), (w 32, aI G 100000 (fun _ => 0)), (w 33, aI G 100000 (fun _ => 0)), (w 34, aI G 300 (fun _ => 0)), (w 35, aI G 8 (fun _ => 0)), (w 36, aI G 6000 (fun _ => 0)), (w 37, aI G 6000 (fun _ => 0)), (w 38, aI G 6000 (fun _ => 0)), (w 39, aI G 6000 (fun _ => 0)), (w 40, aI G 500 (fun _ => 0)), (w 41, aI G 8 (fun _ => 0)), (w 42, aI G 60 (fun _ => 0)), (w 43, aI G 60 (fun _ => 0)), (w 44, aI G 5 (fun _ => 0)), (w 45, aI G 960 (fun _ => 0)), (w 46, aI G 960 (fun _ => 0)), (w 47, aI G 960 (fun _ => 0)), (w 48, aI G 960 (fun _ => 0)), (w 49, aI G 960 (fun _ => 0)), (w 50, aI G 960 (fun _ => 0)), (w 51, aI G 960 (fun _ => 0)), (w 52, aI G 4200 (fun _ => 0)), (w 53, aI G 4200 (fun _ => 0)), (w 54, aI G 200 (fun _ => 0)), (w 55, aI G 200 (fun _ => 0)), (w 56, aI G 25 (fun _ => 0)), (w 57, aI G 25 (fun _ => 0)), (w 58, aI G 25 (fun _ => 0)), (w 59, aI G 5250 (fun _ => 0)), (w 60, aI G 5250 (fun _ => 0)), (w 61, aI G 25 (fun _ => 0)), (w 62, aI G 25 (fun _ => 0)), (w 63, aI G 25 (fun _ => 0)), (w 64, aI G 25 (fun _ => 0)), (w 65, aI G 25 (fun _ => 0)), (w 66, aI G 210 (fun _ => 0)), (w 67, aI G 210 (fun _ => 0)), (w 68, aI G 210 (fun _ => 0)), (w 69, aI G 210 (fun _ => 0)), (w 70, aI G 210 (fun _ => 0)), (w 71, aI G 210 (fun _ => 0)), (w 72, aI G 6 (fun _ => 0)), (w 73, aI G 41 (fun _ => 0)), (w 74, aI G 41 (fun _ => 0)), (w 75, aI G 10000 (fun _ => 0)), (w 76, aI G 31 (fun _ => 0)), (w 77, aI G 31 (fun _ => 0)), (w 78, aI G 60 (fun _ => 0)), (w 79, aI G 60 (fun _ => 0)), (w 80, aI G 8 (fun _ => 0)), (w 81, aI G 41 (fun _ => 0)), (w 82, aI G 41 (fun _ => 0)), (w 83, aI G 101 (fun _ => 0)), (w 84, aI G 101 (fun _ => 0)), (w 85, aI G 8 (fun _ => 0)), (w 86, aI G 6 (fun _ => 0)), (w 87, aB G 50000 (fun _ => 0)), (w 88, aI G 210 (fun _ => 0))] : va_W) = wd 1 G (adM h0 w) μM0 := by
  show _ = (List.range 90).map (fun i => (adM h0 w i, cellOf G (adM h0 w) μM0 i (sh 1 i)))
  rw [show List.range 90 = [0, 1, 2, 3, 4, 5, 6, 7, 8, 9, 10, 11, 12, 13, 14, 15, 16, 17, 18, 19, 20, 21, 22, 23, 24, 25, 26, 27, 28, 29, 30, 31, 32, 33, 34, 35, 36, 37, 38, 39, 40, 41, 42, 43, 44, 45, 46, 47, 48, 49, 50, 51, 52, 53, 54, 55, 56, 57, 58, 59, 60, 61, 62, 63, 64, 65, 66, 67, 68, 69, 70, 71, 72, 73, 74, 75, 76, 77, 78, 79, 80, 81, 82, 83, 84, 85, 86, 87, 88, 89] from rfl]
  simp only [List.map_cons, List.map_nil]
  rw [← eM_0, ← eM_1, ← eM_2, ← eM_3, ← eM_4, ← eM_5, ← eM_6, ← eM_7, ← eM_8, ← eM_9, ← eM_10, ← eM_11, ← eM_12, ← eM_13, ← eM_14, ← eM_15, ← eM_16, ← eM_17, ← eM_18, ← eM_19, ← eM_20, ← eM_21, ← eM_22, ← eM_23, ← eM_24, ← eM_25, ← eM_26, ← eM_27, ← eM_28, ← eM_29, ← eM_30, ← eM_31, ← eM_32, ← eM_33, ← eM_34, ← eM_35, ← eM_36, ← eM_37, ← eM_38, ← eM_39, ← eM_40, ← eM_41, ← eM_42, ← eM_43, ← eM_44, ← eM_45, ← eM_46, ← eM_47, ← eM_48, ← eM_49, ← eM_50, ← eM_51, ← eM_52, ← eM_53, ← eM_54, ← eM_55, ← eM_56, ← eM_57, ← eM_58, ← eM_59, ← eM_60, ← eM_61, ← eM_62, ← eM_63, ← eM_64, ← eM_65, ← eM_66, ← eM_67, ← eM_68, ← eM_69, ← eM_70, ← eM_71, ← eM_72, ← eM_73, ← eM_74, ← eM_75, ← eM_76, ← eM_77, ← eM_78, ← eM_79, ← eM_80, ← eM_81, ← eM_82, ← eM_83, ← eM_84, ← eM_85, ← eM_86, ← eM_87, ← eM_88, ← eM_89]
  rfl
