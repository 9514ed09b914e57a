theorem p_X12_putNumber_b47_ex : ∃ f : Nat → Int64 → Int64 → Mem → Option Mem, (∀ (a2 : Int64) (a6 : Int64) (μ : Mem), f  0 a2 a6 μ = none) ∧ (∀ (n : Nat) (a2 : Int64) (a6 : Int64) (μ : Mem), f  (n + 1) a2 a6 μ = (if (lg_cmp a6 (0 : Int64)) ≤ (0 : Int32) then some μ else gd (!(a6 == 0)) (bw (p_X12_put (((48 : Int64) + ((a2 / a6) - (a2 / a6) / (10 : Int64) * (10 : Int64))).toInt32) μ) (fun μ7 => bv (a6 / (10 : Int64)) (fun v9 => f n a2 v9 μ7))))) := ⟨fun n => Nat.rec (fun (a2 : Int64) (a6 : Int64) (μ : Mem) => none) (fun _ ih => fun (a2 : Int64) (a6 : Int64) (μ : Mem) => (if (lg_cmp a6 (0 : Int64)) ≤ (0 : Int32) then some μ else gd (!(a6 == 0)) (bw (p_X12_put (((48 : Int64) + ((a2 / a6) - (a2 / a6) / (10 : Int64) * (10 : Int64))).toInt32) μ) (fun μ7 => bv (a6 / (10 : Int64)) (fun v9 => ih a2 v9 μ7))))) n, fun  _ _ _ => rfl, fun  _ _ _ _ => rfl⟩
noncomputable def p_X12_putNumber_b47 : Nat → Int64 → Int64 → Mem → Option Mem := Classical.choose p_X12_putNumber_b47_ex
theorem p_X12_putNumber_b47_z (a2 : Int64) (a6 : Int64) (μ : Mem) : p_X12_putNumber_b47  0 a2 a6 μ = none := (Classical.choose_spec p_X12_putNumber_b47_ex).1  a2 a6 μ
theorem p_X12_putNumber_b47_s (n : Nat) (a2 : Int64) (a6 : Int64) (μ : Mem) : p_X12_putNumber_b47  (n + 1) a2 a6 μ = (if (lg_cmp a6 (0 : Int64)) ≤ (0 : Int32) then some μ else gd (!(a6 == 0)) (bw (p_X12_put (((48 : Int64) + ((a2 / a6) - (a2 / a6) / (10 : Int64) * (10 : Int64))).toInt32) μ) (fun μ7 => bv (a6 / (10 : Int64)) (fun v9 => p_X12_putNumber_b47  n a2 v9 μ7)))) := (Classical.choose_spec p_X12_putNumber_b47_ex).2  n a2 a6 μ
set_option maxHeartbeats 4000000 in
set_option maxRecDepth 100000 in
theorem t_X12_putNumber_b47 (l : Launch) (G : Gt) (ad : Nat → Nat) (av : List Value) {μz : Mem} : ∀ (n : Nat) (a2 : Int64) (a6 : Int64) (μ : Mem), p_X12_putNumber_b47  n a2 a6 μ = some μz → Bk l cX12_putNumber 8 RX12 none ({ frames := 1, cells := 0, slots := 0, locals := 21 } : Room) G av (eV 1 G ad μz) (wd 1 G ad μ) 47 [(0, .ref (ad 0)), (2, .long a2), (6, .long a6)] [] := by
  intro n
  induction n with
  | zero => intro a2 a6 μ h; rw [p_X12_putNumber_b47_z] at h; cases h
  | succ n ih =>
    intro a2 a6 μ h p e s m below meth c A ls H locs cx hr hlk hA hl hw
    have hx := cx.1
    have hb := cx.2.1
    rw [p_X12_putNumber_b47_s] at h
    refine lv_lload hx hb dX12_putNumber_47 (lv_at hl 2 rfl) ?_
    refine lv_lconst (v := 0) hx hb dX12_putNumber_49 (by decide) ?_
    refine W.lcmp hx hb dX12_putNumber_50 ?_
    refine lv_if_le (tgt := 82) hx hb dX12_putNumber_51 (by decide) (fun c5 => ?_) (fun c5 => ?_)
    · rw [if_pos c5] at h
      exact g_vret cx hr hlk hw h dX12_putNumber_82
    · rw [if_neg c5] at h
      refine lv_aload_n hx hb dX12_putNumber_54 rfl (lv_at hl 0 rfl) ?_
      refine lv_ldc2 hx hb cx.2.2.2.1 (cx.2.2.2.2.1 _ cs_X12_869) dX12_putNumber_55 ?_
      refine lv_lload_n hx hb dX12_putNumber_58 rfl (lv_at hl 1 rfl) ?_
      refine lv_lload hx hb dX12_putNumber_59 (lv_at hl 2 rfl) ?_
      obtain ⟨c6, h⟩ := gd_some h
      refine lv_ldiv hx hb dX12_putNumber_61 (nz_of c6) ?_
      refine lv_ldc2 hx hb cx.2.2.2.1 (cx.2.2.2.2.1 _ cs_X12_867) dX12_putNumber_62 ?_
      refine lv_lrem hx hb dX12_putNumber_65 (by decide) ?_
      refine lv_ladd hx hb dX12_putNumber_66 ?_
      refine lv_l2i hx hb dX12_putNumber_67 rfl ?_
      obtain ⟨μ7, gμ7, h⟩ := bw_some h
      refine g_callVV (As := [.int (((48 : Int64) + ((a2 / a6) - (a2 / a6) / (10 : Int64) * (10 : Int64))).toInt32)]) (rest := []) cx hw hA (t_X12_put l G ad (((48 : Int64) + ((a2 / a6) - (a2 / a6) / (10 : Int64) * (10 : Int64))).toInt32) μ gμ7) shm_0 rfl ml_X12_862 im_X12_put se_X12_put in_X12 co_X12_put rfl hd_X12_put rfl ⟨(Nat.le_of_ble_eq_true rfl), (Nat.le_of_ble_eq_true rfl)⟩ hl.1 rfl (Nat.le_of_ble_eq_true rfl) dX12_putNumber_68 ⟨rfl, rfl⟩ (fun H locs hw => ?_)
      refine lv_lload hx hb dX12_putNumber_71 (lv_at hl 2 rfl) ?_
      refine lv_ldc2 hx hb cx.2.2.2.1 (cx.2.2.2.2.1 _ cs_X12_867) dX12_putNumber_73 ?_
      refine lv_ldiv hx hb dX12_putNumber_76 (by decide) ?_
      obtain ⟨v9, ev9, h⟩ := bv_ex h
      refine lv_topl (fun y9 z9 => ?_)
      obtain rfl : v9 = y9 := ev9.trans z9.symm
      refine lv_lstore (lv' := [(6, .long v9), (0, .ref (ad 0)), (2, .long a2)]) hx hb dX12_putNumber_77 hl (by decide) rfl (fun ls hl => ?_)
      refine lv_goto (tgt := 47) hx hb dX12_putNumber_79 (by decide) ?_
      exact ih a2 v9 μ7 h p e s m below meth c A ls H locs cx hr hlk hA (lv_sub hl [1, 2, 0] rfl) hw
theorem p_X12_putNumber_b21_ex : ∃ f : Nat → Int64 → Int64 → Mem → Option Mem, (∀ (a2 : Int64) (a4 : Int64) (μ : Mem), f  0 a2 a4 μ = none) ∧ (∀ (n : Nat) (a2 : Int64) (a4 : Int64) (μ : Mem), f  (n + 1) a2 a4 μ = gd (!(a4 == 0)) ((if (lg_cmp (a2 / a4) (9 : Int64)) ≤ (0 : Int32) then p_X12_putNumber_b47  FUEL a2 a4 μ else bv (a4 * (10 : Int64)) (fun v10 => f n a2 v10 μ)))) := ⟨fun n => Nat.rec (fun (a2 : Int64) (a4 : Int64) (μ : Mem) => none) (fun _ ih => fun (a2 : Int64) (a4 : Int64) (μ : Mem) => gd (!(a4 == 0)) ((if (lg_cmp (a2 / a4) (9 : Int64)) ≤ (0 : Int32) then p_X12_putNumber_b47  FUEL a2 a4 μ else bv (a4 * (10 : Int64)) (fun v10 => ih a2 v10 μ)))) n, fun  _ _ _ => rfl, fun  _ _ _ _ => rfl⟩
noncomputable def p_X12_putNumber_b21 : Nat → Int64 → Int64 → Mem → Option Mem := Classical.choose p_X12_putNumber_b21_ex
theorem p_X12_putNumber_b21_z (a2 : Int64) (a4 : Int64) (μ : Mem) : p_X12_putNumber_b21  0 a2 a4 μ = none := (Classical.choose_spec p_X12_putNumber_b21_ex).1  a2 a4 μ
theorem p_X12_putNumber_b21_s (n : Nat) (a2 : Int64) (a4 : Int64) (μ : Mem) : p_X12_putNumber_b21  (n + 1) a2 a4 μ = gd (!(a4 == 0)) ((if (lg_cmp (a2 / a4) (9 : Int64)) ≤ (0 : Int32) then p_X12_putNumber_b47  FUEL a2 a4 μ else bv (a4 * (10 : Int64)) (fun v10 => p_X12_putNumber_b21  n a2 v10 μ))) := (Classical.choose_spec p_X12_putNumber_b21_ex).2  n a2 a4 μ
set_option maxHeartbeats 4000000 in
set_option maxRecDepth 100000 in
theorem t_X12_putNumber_b21 (l : Launch) (G : Gt) (ad : Nat → Nat) (av : List Value) {μz : Mem} : ∀ (n : Nat) (a2 : Int64) (a4 : Int64) (μ : Mem), p_X12_putNumber_b21  n a2 a4 μ = some μz → Bk l cX12_putNumber 8 RX12 none ({ frames := 1, cells := 0, slots := 0, locals := 21 } : Room) G av (eV 1 G ad μz) (wd 1 G ad μ) 21 [(0, .ref (ad 0)), (2, .long a2), (4, .long a4)] [] := by
  intro n
  induction n with
  | zero => intro a2 a4 μ h; rw [p_X12_putNumber_b21_z] at h; cases h
  | succ n ih =>
    intro a2 a4 μ h p e s m below meth c A ls H locs cx hr hlk hA hl hw
    have hx := cx.1
    have hb := cx.2.1
    rw [p_X12_putNumber_b21_s] at h
    refine lv_lload_n hx hb dX12_putNumber_21 rfl (lv_at hl 1 rfl) ?_
    refine lv_lload hx hb dX12_putNumber_22 (lv_at hl 2 rfl) ?_
    obtain ⟨c3, h⟩ := gd_some h
    refine lv_ldiv hx hb dX12_putNumber_24 (nz_of c3) ?_
    refine lv_ldc2 hx hb cx.2.2.2.1 (cx.2.2.2.2.1 _ cs_X12_865) dX12_putNumber_25 ?_
    refine W.lcmp hx hb dX12_putNumber_28 ?_
    refine lv_if_le (tgt := 43) hx hb dX12_putNumber_29 (by decide) (fun c4 => ?_) (fun c4 => ?_)
    · rw [if_pos c4] at h
      refine lv_lload hx hb dX12_putNumber_43 (lv_at hl 2 rfl) ?_
      refine lv_lstore (lv' := [(6, .long a4), (0, .ref (ad 0)), (2, .long a2), (4, .long a4)]) hx hb dX12_putNumber_45 hl (by decide) rfl (fun ls hl => ?_)
      exact t_X12_putNumber_b47 l G ad av  FUEL a2 a4 μ h p e s m below meth c A ls H locs cx hr hlk hA (lv_sub hl [1, 2, 0] rfl) hw
    · rw [if_neg c4] at h
      refine lv_lload hx hb dX12_putNumber_32 (lv_at hl 2 rfl) ?_
      refine lv_ldc2 hx hb cx.2.2.2.1 (cx.2.2.2.2.1 _ cs_X12_867) dX12_putNumber_34 ?_
      refine lv_lmul hx hb dX12_putNumber_37 ?_
      obtain ⟨v10, ev10, h⟩ := bv_ex h
      refine lv_topl (fun y9 z9 => ?_)
      obtain rfl : v10 = y9 := ev10.trans z9.symm
      refine lv_lstore (lv' := [(4, .long v10), (0, .ref (ad 0)), (2, .long a2)]) hx hb dX12_putNumber_38 hl (by decide) rfl (fun ls hl => ?_)
      refine lv_goto (tgt := 21) hx hb dX12_putNumber_40 (by decide) ?_
      exact ih a2 v10 μ h p e s m below meth c A ls H locs cx hr hlk hA (lv_sub hl [1, 2, 0] rfl) hw
theorem p_X12_putNumber_b18_ex : ∃ f : Int64 → Mem → Option Mem, ∀ (a2 : Int64) (μ : Mem), f a2 μ = p_X12_putNumber_b21  FUEL a2 (1 : Int64) μ := ⟨fun (a2 : Int64) (μ : Mem) => p_X12_putNumber_b21  FUEL a2 (1 : Int64) μ, fun _ _ => rfl⟩
noncomputable def p_X12_putNumber_b18 : Int64 → Mem → Option Mem := Classical.choose p_X12_putNumber_b18_ex
theorem p_X12_putNumber_b18_eq (a2 : Int64) (μ : Mem) : p_X12_putNumber_b18 a2 μ = p_X12_putNumber_b21  FUEL a2 (1 : Int64) μ := Classical.choose_spec p_X12_putNumber_b18_ex a2 μ
set_option maxHeartbeats 4000000 in
set_option maxRecDepth 100000 in
theorem t_X12_putNumber_b18 (l : Launch) (G : Gt) (ad : Nat → Nat) (av : List Value) {μz : Mem} (a2 : Int64) (μ : Mem) (h : p_X12_putNumber_b18  a2 μ = some μz) : Bk l cX12_putNumber 8 RX12 none ({ frames := 1, cells := 0, slots := 0, locals := 21 } : Room) G av (eV 1 G ad μz) (wd 1 G ad μ) 18 [(0, .ref (ad 0)), (2, .long a2)] [] := by
  intro p e s m below meth c A ls H locs cx hr hlk hA hl hw
  have hx := cx.1
  have hb := cx.2.1
  rw [p_X12_putNumber_b18_eq] at h
  refine lv_lconst (v := 1) hx hb dX12_putNumber_18 (by decide) ?_
  refine lv_lstore (lv' := [(4, .long 1), (0, .ref (ad 0)), (2, .long a2)]) hx hb dX12_putNumber_19 hl (by decide) rfl (fun ls hl => ?_)
  exact t_X12_putNumber_b21 l G ad av  FUEL a2 (1 : Int64) μ h p e s m below meth c A ls H locs cx hr hlk hA (lv_sub hl [1, 2, 0] rfl) hw
theorem p_X12_putNumber_ex : ∃ f : Int32 → Mem → Option Mem, ∀ (a1 : Int32) (μ : Mem), f a1 μ = bv (a1.toInt64) (fun v1 => (if (0 : Int32) ≤ (lg_cmp v1 (0 : Int64)) then p_X12_putNumber_b18  v1 μ else bw (p_X12_put (45 : Int32) μ) (fun μ11 => bv (-v1) (fun v13 => p_X12_putNumber_b18  v13 μ11)))) := ⟨fun (a1 : Int32) (μ : Mem) => bv (a1.toInt64) (fun v1 => (if (0 : Int32) ≤ (lg_cmp v1 (0 : Int64)) then p_X12_putNumber_b18  v1 μ else bw (p_X12_put (45 : Int32) μ) (fun μ11 => bv (-v1) (fun v13 => p_X12_putNumber_b18  v13 μ11)))), fun _ _ => rfl⟩
noncomputable def p_X12_putNumber : Int32 → Mem → Option Mem := Classical.choose p_X12_putNumber_ex
theorem p_X12_putNumber_eq (a1 : Int32) (μ : Mem) : p_X12_putNumber a1 μ = bv (a1.toInt64) (fun v1 => (if (0 : Int32) ≤ (lg_cmp v1 (0 : Int64)) then p_X12_putNumber_b18  v1 μ else bw (p_X12_put (45 : Int32) μ) (fun μ11 => bv (-v1) (fun v13 => p_X12_putNumber_b18  v13 μ11)))) := Classical.choose_spec p_X12_putNumber_ex a1 μ
set_option maxHeartbeats 4000000 in
set_option maxRecDepth 100000 in
theorem t_X12_putNumber (l : Launch) (G : Gt) (ad : Nat → Nat) (a1 : Int32) (μ : Mem) {μz : Mem} (h : p_X12_putNumber a1 μ = some μz) : Mt l yX12_putNumber cX12_putNumber 8 none ({ frames := 1, cells := 0, slots := 0, locals := 21 } : Room) G [.ref (ad 0), .int a1] (wd 1 G ad μ) (eV 1 G ad μz) := by
  refine Bk.mt (by decide) rfl (Nat.le_of_ble_eq_true rfl) ?_
  intro p e s m below meth c A ls H locs cx hr hlk hA hl hw
  have hx := cx.1
  have hb := cx.2.1
  have hl : lv_has ls 8 [(0, .ref (ad 0)), (1, .int a1)] := hl
  rw [p_X12_putNumber_eq] at h
  refine lv_iload_n hx hb dX12_putNumber_0 rfl (lv_at hl 1 rfl) ?_
  refine lv_i2l hx hb dX12_putNumber_1 rfl ?_
  obtain ⟨v1, ev1, h⟩ := bv_ex h
  refine lv_topl (fun y9 z9 => ?_)
  obtain rfl : v1 = y9 := ev1.trans z9.symm
  refine lv_lstore_n (lv' := [(2, .long v1), (0, .ref (ad 0)), (1, .int a1)]) hx hb dX12_putNumber_2 rfl hl (by decide) rfl (fun ls hl => ?_)
  refine lv_lload_n hx hb dX12_putNumber_3 rfl (lv_at hl 0 rfl) ?_
  refine lv_lconst (v := 0) hx hb dX12_putNumber_4 (by decide) ?_
  refine W.lcmp hx hb dX12_putNumber_5 ?_
  refine lv_if_ge (tgt := 18) hx hb dX12_putNumber_6 (by decide) (fun c2 => ?_) (fun c2 => ?_)
  · rw [if_pos c2] at h
    exact t_X12_putNumber_b18 l G ad _  v1 μ h p e s m below meth c A ls H locs cx hr hlk hA (lv_sub hl [1, 0] rfl) hw
  · rw [if_neg c2] at h
    refine lv_aload_n hx hb dX12_putNumber_9 rfl (lv_at hl 1 rfl) ?_
    refine lv_bipush (v := 45) hx hb dX12_putNumber_10 (by decide) ?_
    obtain ⟨μ11, gμ11, h⟩ := bw_some h
    refine g_callVV (As := [.int 45]) (rest := []) cx hw hA (t_X12_put l G ad (45 : Int32) μ gμ11) shm_0 rfl ml_X12_862 im_X12_put se_X12_put in_X12 co_X12_put rfl hd_X12_put rfl ⟨(Nat.le_of_ble_eq_true rfl), (Nat.le_of_ble_eq_true rfl)⟩ hl.1 rfl (Nat.le_of_ble_eq_true rfl) dX12_putNumber_12 ⟨rfl, rfl⟩ (fun H locs hw => ?_)
    refine lv_lload_n hx hb dX12_putNumber_15 rfl (lv_at hl 0 rfl) ?_
    refine lv_lneg hx hb dX12_putNumber_16 ?_
    obtain ⟨v13, ev13, h⟩ := bv_ex h
    refine lv_topl (fun y9 z9 => ?_)
    obtain rfl : v13 = y9 := ev13.trans z9.symm
    refine lv_lstore_n (lv' := [(2, .long v13), (0, .ref (ad 0)), (1, .int a1)]) hx hb dX12_putNumber_17 rfl hl (by decide) rfl (fun ls hl => ?_)
    exact t_X12_putNumber_b18 l G ad _  v13 μ11 h p e s m below meth c A ls H locs cx hr hlk hA (lv_sub hl [1, 0] rfl) hw

theorem p_X12_putOne_ex : ∃ f : Int32 → Int32 → Mem → Option Mem, ∀ (a1 : Int32) (a2 : Int32) (μ : Mem), f a1 a2 μ = (if a1 = (0 : Int32) then bw (p_X12_putNumber a2 μ) (fun μ2 => some μ2) else (if a1 = (1 : Int32) then bw (p_X12_put (102 : Int32) μ) (fun μ9 => bw (p_X12_putNumber a2 μ9) (fun μ11 => some μ11)) else bw (p_X12_put (114 : Int32) μ) (fun μ5 => bw (p_X12_putNumber a2 μ5) (fun μ7 => some μ7)))) := ⟨fun (a1 : Int32) (a2 : Int32) (μ : Mem) => (if a1 = (0 : Int32) then bw (p_X12_putNumber a2 μ) (fun μ2 => some μ2) else (if a1 = (1 : Int32) then bw (p_X12_put (102 : Int32) μ) (fun μ9 => bw (p_X12_putNumber a2 μ9) (fun μ11 => some μ11)) else bw (p_X12_put (114 : Int32) μ) (fun μ5 => bw (p_X12_putNumber a2 μ5) (fun μ7 => some μ7)))), fun _ _ _ => rfl⟩
noncomputable def p_X12_putOne : Int32 → Int32 → Mem → Option Mem := Classical.choose p_X12_putOne_ex
theorem p_X12_putOne_eq (a1 : Int32) (a2 : Int32) (μ : Mem) : p_X12_putOne a1 a2 μ = (if a1 = (0 : Int32) then bw (p_X12_putNumber a2 μ) (fun μ2 => some μ2) else (if a1 = (1 : Int32) then bw (p_X12_put (102 : Int32) μ) (fun μ9 => bw (p_X12_putNumber a2 μ9) (fun μ11 => some μ11)) else bw (p_X12_put (114 : Int32) μ) (fun μ5 => bw (p_X12_putNumber a2 μ5) (fun μ7 => some μ7)))) := Classical.choose_spec p_X12_putOne_ex a1 a2 μ
set_option maxHeartbeats 4000000 in
set_option maxRecDepth 100000 in
theorem t_X12_putOne (l : Launch) (G : Gt) (ad : Nat → Nat) (a1 : Int32) (a2 : Int32) (μ : Mem) {μz : Mem} (h : p_X12_putOne a1 a2 μ = some μz) : Mt l yX12_putOne cX12_putOne 3 none ({ frames := 2, cells := 0, slots := 0, locals := 48 } : Room) G [.ref (ad 0), .int a1, .int a2] (wd 1 G ad μ) (eV 1 G ad μz) := by
  refine Bk.mt (by decide) rfl (Nat.le_of_ble_eq_true rfl) ?_
  intro p e s m below meth c A ls H locs cx hr hlk hA hl hw
  have hx := cx.1
  have hb := cx.2.1
  have hl : lv_has ls 3 [(0, .ref (ad 0)), (1, .int a1), (2, .int a2)] := hl
  rw [p_X12_putOne_eq] at h
  refine lv_iload_n hx hb dX12_putOne_0 rfl (lv_at hl 1 rfl) ?_
  refine lv_if_eq (tgt := 20) hx hb dX12_putOne_1 (by decide) (fun c1 => ?_) (fun c1 => ?_)
  · rw [if_pos c1] at h
    refine lv_aload_n hx hb dX12_putOne_20 rfl (lv_at hl 0 rfl) ?_
    refine lv_iload_n hx hb dX12_putOne_21 rfl (lv_at hl 2 rfl) ?_
    obtain ⟨μ2, gμ2, h⟩ := bw_some h
    refine g_callVV (As := [.int a2]) (rest := []) cx hw hA (t_X12_putNumber l G ad a2 μ gμ2) shm_0 rfl ml_X12_871 im_X12_putNumber se_X12_putNumber in_X12 co_X12_putNumber rfl hd_X12_putNumber rfl ⟨(Nat.le_of_ble_eq_true rfl), (Nat.le_of_ble_eq_true rfl)⟩ hl.1 rfl (Nat.le_of_ble_eq_true rfl) dX12_putOne_22 ⟨rfl, rfl⟩ (fun H locs hw => ?_)
    exact g_vret cx hr hlk hw h dX12_putOne_25
  · rw [if_neg c1] at h
    refine lv_aload_n hx hb dX12_putOne_4 rfl (lv_at hl 0 rfl) ?_
    refine lv_iload_n hx hb dX12_putOne_5 rfl (lv_at hl 1 rfl) ?_
    refine lv_iconst (v := 1) hx hb dX12_putOne_6 (by decide) ?_
    refine lv_icmp_ne (tgt := 15) hx hb dX12_putOne_7 (by decide) (fun c4 => ?_) (fun c4 => ?_)
    · rw [if_neg c4] at h
      refine lv_bipush (v := 114) hx hb dX12_putOne_15 (by decide) ?_
      obtain ⟨μ5, gμ5, h⟩ := bw_some h
      refine g_callVV (As := [.int 114]) (rest := []) cx hw hA (t_X12_put l G ad (114 : Int32) μ gμ5) shm_0 rfl ml_X12_862 im_X12_put se_X12_put in_X12 co_X12_put rfl hd_X12_put rfl ⟨(Nat.le_of_ble_eq_true rfl), (Nat.le_of_ble_eq_true rfl)⟩ hl.1 rfl (Nat.le_of_ble_eq_true rfl) dX12_putOne_17 ⟨rfl, rfl⟩ (fun H locs hw => ?_)
      refine lv_aload_n hx hb dX12_putOne_20 rfl (lv_at hl 0 rfl) ?_
      refine lv_iload_n hx hb dX12_putOne_21 rfl (lv_at hl 2 rfl) ?_
      obtain ⟨μ7, gμ7, h⟩ := bw_some h
      refine g_callVV (As := [.int a2]) (rest := []) cx hw hA (t_X12_putNumber l G ad a2 μ5 gμ7) shm_0 rfl ml_X12_871 im_X12_putNumber se_X12_putNumber in_X12 co_X12_putNumber rfl hd_X12_putNumber rfl ⟨(Nat.le_of_ble_eq_true rfl), (Nat.le_of_ble_eq_true rfl)⟩ hl.1 rfl (Nat.le_of_ble_eq_true rfl) dX12_putOne_22 ⟨rfl, rfl⟩ (fun H locs hw => ?_)
      exact g_vret cx hr hlk hw h dX12_putOne_25
    · rw [if_pos c4] at h
      refine lv_bipush (v := 102) hx hb dX12_putOne_10 (by decide) ?_
      refine lv_goto (tgt := 17) hx hb dX12_putOne_12 (by decide) ?_
      obtain ⟨μ9, gμ9, h⟩ := bw_some h
      refine g_callVV (As := [.int 102]) (rest := []) cx hw hA (t_X12_put l G ad (102 : Int32) μ gμ9) shm_0 rfl ml_X12_862 im_X12_put se_X12_put in_X12 co_X12_put rfl hd_X12_put rfl ⟨(Nat.le_of_ble_eq_true rfl), (Nat.le_of_ble_eq_true rfl)⟩ hl.1 rfl (Nat.le_of_ble_eq_true rfl) dX12_putOne_17 ⟨rfl, rfl⟩ (fun H locs hw => ?_)
      refine lv_aload_n hx hb dX12_putOne_20 rfl (lv_at hl 0 rfl) ?_
      refine lv_iload_n hx hb dX12_putOne_21 rfl (lv_at hl 2 rfl) ?_
      obtain ⟨μ11, gμ11, h⟩ := bw_some h
      refine g_callVV (As := [.int a2]) (rest := []) cx hw hA (t_X12_putNumber l G ad a2 μ9 gμ11) shm_0 rfl ml_X12_871 im_X12_putNumber se_X12_putNumber in_X12 co_X12_putNumber rfl hd_X12_putNumber rfl ⟨(Nat.le_of_ble_eq_true rfl), (Nat.le_of_ble_eq_true rfl)⟩ hl.1 rfl (Nat.le_of_ble_eq_true rfl) dX12_putOne_22 ⟨rfl, rfl⟩ (fun H locs hw => ?_)
      exact g_vret cx hr hlk hw h dX12_putOne_25

theorem p_X12_putParts_b149_ex : ∃ f : (Nat → Nat → Int32 → Int32 → Int32 → Int32 → Mem → Option Mem) → Nat → Nat → Int32 → Int32 → Int32 → Int32 → Mem → Option Mem, ∀ (K6 : Nat → Nat → Int32 → Int32 → Int32 → Int32 → Mem → Option Mem) (a1 : Nat) (a2 : Nat) (a3 : Int32) (a4 : Int32) (a5 : Int32) (a6 : Int32) (μ : Mem), f K6 a1 a2 a3 a4 a5 a6 μ = bv (a6 + 1) (fun v10 => K6 a1 a2 a3 a4 a5 v10 μ) := ⟨fun (K6 : Nat → Nat → Int32 → Int32 → Int32 → Int32 → Mem → Option Mem) (a1 : Nat) (a2 : Nat) (a3 : Int32) (a4 : Int32) (a5 : Int32) (a6 : Int32) (μ : Mem) => bv (a6 + 1) (fun v10 => K6 a1 a2 a3 a4 a5 v10 μ), fun _ _ _ _ _ _ _ _ => rfl⟩
noncomputable def p_X12_putParts_b149 : (Nat → Nat → Int32 → Int32 → Int32 → Int32 → Mem → Option Mem) → Nat → Nat → Int32 → Int32 → Int32 → Int32 → Mem → Option Mem := Classical.choose p_X12_putParts_b149_ex
theorem p_X12_putParts_b149_eq (K6 : Nat → Nat → Int32 → Int32 → Int32 → Int32 → Mem → Option Mem) (a1 : Nat) (a2 : Nat) (a3 : Int32) (a4 : Int32) (a5 : Int32) (a6 : Int32) (μ : Mem) : p_X12_putParts_b149 K6 a1 a2 a3 a4 a5 a6 μ = bv (a6 + 1) (fun v10 => K6 a1 a2 a3 a4 a5 v10 μ) := Classical.choose_spec p_X12_putParts_b149_ex K6 a1 a2 a3 a4 a5 a6 μ
set_option maxHeartbeats 4000000 in
set_option maxRecDepth 100000 in
theorem t_X12_putParts_b149 (l : Launch) (G : Gt) (ad : Nat → Nat) (av : List Value) {μz : Mem} (K6 : Nat → Nat → Int32 → Int32 → Int32 → Int32 → Mem → Option Mem) (hK6 : ∀ (z1 : Nat) (w1 : (sh 1 z1).1 = 1) (z2 : Nat) (w2 : (sh 1 z2).1 = 1) (z3 : Int32) (z4 : Int32) (z5 : Int32) (z6 : Int32) (μ1 : Mem), K6 z1 z2 z3 z4 z5 z6 μ1 = some μz → Bk l cX12_putParts 8 RX12 none ({ frames := 3, cells := 0, slots := 0, locals := 70 } : Room) G av (eV 1 G ad μz) (wd 1 G ad μ1) 6 [(0, .ref (ad 0)), (1, .ref (ad z1)), (2, .ref (ad z2)), (3, .int z3), (4, .int z4), (5, .int z5), (6, .int z6)] []) (a1 : Nat) (q1 : (sh 1 a1).1 = 1) (a2 : Nat) (q2 : (sh 1 a2).1 = 1) (a3 : Int32) (a4 : Int32) (a5 : Int32) (a6 : Int32) (μ : Mem) (h : p_X12_putParts_b149 K6 a1 a2 a3 a4 a5 a6 μ = some μz) : Bk l cX12_putParts 8 RX12 none ({ frames := 3, cells := 0, slots := 0, locals := 70 } : Room) G av (eV 1 G ad μz) (wd 1 G ad μ) 149 [(0, .ref (ad 0)), (1, .ref (ad a1)), (2, .ref (ad a2)), (3, .int a3), (4, .int a4), (5, .int a5), (6, .int a6)] [] := by
  intro p e s m below meth c A ls H locs cx hr hlk hA hl hw
  have hx := cx.1
  have hb := cx.2.1
  rw [p_X12_putParts_b149_eq] at h
  obtain ⟨v10, ev10, h⟩ := bv_ex h
  refine lv_iinc (v := v10) (lv' := [(6, .int v10), (0, .ref (ad 0)), (1, .ref (ad a1)), (2, .ref (ad a2)), (3, .int a3), (4, .int a4), (5, .int a5)]) hx hb dX12_putParts_149 hl (k := 6) rfl (by rw [ev10]; rfl) (by decide) rfl (fun ls hl => ?_)
  refine lv_goto (tgt := 6) hx hb dX12_putParts_152 (by decide) ?_
  exact hK6 a1 (sh_f (sh_k q1)) a2 (sh_f (sh_k q2)) a3 a4 a5 v10 μ h p e s m below meth c A ls H locs cx hr hlk hA (lv_sub hl [1, 2, 3, 4, 5, 6, 0] rfl) hw
theorem p_X12_putParts_b138_ex : ∃ f : (Nat → Nat → Int32 → Int32 → Int32 → Int32 → Mem → Option Mem) → Nat → Nat → Int32 → Int32 → Int32 → Int32 → Int32 → Mem → Option Mem, ∀ (K6 : Nat → Nat → Int32 → Int32 → Int32 → Int32 → Mem → Option Mem) (a1 : Nat) (a2 : Nat) (a3 : Int32) (a4 : Int32) (a5 : Int32) (a6 : Int32) (a7 : Int32) (μ : Mem), f K6 a1 a2 a3 a4 a5 a6 a7 μ = (if a7 = (0 : Int32) then p_X12_putParts_b149 K6 a1 a2 a3 a4 a5 a6 μ else bw (p_X12_put (44 : Int32) μ) (fun μ11 => p_X12_putParts_b149 K6 a1 a2 a3 a4 a5 a6 μ11)) := ⟨fun (K6 : Nat → Nat → Int32 → Int32 → Int32 → Int32 → Mem → Option Mem) (a1 : Nat) (a2 : Nat) (a3 : Int32) (a4 : Int32) (a5 : Int32) (a6 : Int32) (a7 : Int32) (μ : Mem) => (if a7 = (0 : Int32) then p_X12_putParts_b149 K6 a1 a2 a3 a4 a5 a6 μ else bw (p_X12_put (44 : Int32) μ) (fun μ11 => p_X12_putParts_b149 K6 a1 a2 a3 a4 a5 a6 μ11)), fun _ _ _ _ _ _ _ _ _ => rfl⟩
noncomputable def p_X12_putParts_b138 : (Nat → Nat → Int32 → Int32 → Int32 → Int32 → Mem → Option Mem) → Nat → Nat → Int32 → Int32 → Int32 → Int32 → Int32 → Mem → Option Mem := Classical.choose p_X12_putParts_b138_ex
theorem p_X12_putParts_b138_eq (K6 : Nat → Nat → Int32 → Int32 → Int32 → Int32 → Mem → Option Mem) (a1 : Nat) (a2 : Nat) (a3 : Int32) (a4 : Int32) (a5 : Int32) (a6 : Int32) (a7 : Int32) (μ : Mem) : p_X12_putParts_b138 K6 a1 a2 a3 a4 a5 a6 a7 μ = (if a7 = (0 : Int32) then p_X12_putParts_b149 K6 a1 a2 a3 a4 a5 a6 μ else bw (p_X12_put (44 : Int32) μ) (fun μ11 => p_X12_putParts_b149 K6 a1 a2 a3 a4 a5 a6 μ11)) := Classical.choose_spec p_X12_putParts_b138_ex K6 a1 a2 a3 a4 a5 a6 a7 μ
set_option maxHeartbeats 4000000 in
set_option maxRecDepth 100000 in
theorem t_X12_putParts_b138 (l : Launch) (G : Gt) (ad : Nat → Nat) (av : List Value) {μz : Mem} (K6 : Nat → Nat → Int32 → Int32 → Int32 → Int32 → Mem → Option Mem) (hK6 : ∀ (z1 : Nat) (w1 : (sh 1 z1).1 = 1) (z2 : Nat) (w2 : (sh 1 z2).1 = 1) (z3 : Int32) (z4 : Int32) (z5 : Int32) (z6 : Int32) (μ1 : Mem), K6 z1 z2 z3 z4 z5 z6 μ1 = some μz → Bk l cX12_putParts 8 RX12 none ({ frames := 3, cells := 0, slots := 0, locals := 70 } : Room) G av (eV 1 G ad μz) (wd 1 G ad μ1) 6 [(0, .ref (ad 0)), (1, .ref (ad z1)), (2, .ref (ad z2)), (3, .int z3), (4, .int z4), (5, .int z5), (6, .int z6)] []) (a1 : Nat) (q1 : (sh 1 a1).1 = 1) (a2 : Nat) (q2 : (sh 1 a2).1 = 1) (a3 : Int32) (a4 : Int32) (a5 : Int32) (a6 : Int32) (a7 : Int32) (μ : Mem) (h : p_X12_putParts_b138 K6 a1 a2 a3 a4 a5 a6 a7 μ = some μz) : Bk l cX12_putParts 8 RX12 none ({ frames := 3, cells := 0, slots := 0, locals := 70 } : Room) G av (eV 1 G ad μz) (wd 1 G ad μ) 138 [(0, .ref (ad 0)), (1, .ref (ad a1)), (2, .ref (ad a2)), (3, .int a3), (4, .int a4), (5, .int a5), (6, .int a6), (7, .int a7)] [] := by
  intro p e s m below meth c A ls H locs cx hr hlk hA hl hw
  have hx := cx.1
  have hb := cx.2.1
  rw [p_X12_putParts_b138_eq] at h
  refine lv_iload hx hb dX12_putParts_138 (lv_at hl 7 rfl) ?_
  refine lv_if_eq (tgt := 149) hx hb dX12_putParts_140 (by decide) (fun c9 => ?_) (fun c9 => ?_)
  · rw [if_pos c9] at h
    exact t_X12_putParts_b149 l G ad av K6 hK6 a1 (sh_f (sh_k q1)) a2 (sh_f (sh_k q2)) a3 a4 a5 a6 μ h p e s m below meth c A ls H locs cx hr hlk hA (lv_sub hl [0, 1, 2, 3, 4, 5, 6] rfl) hw
  · rw [if_neg c9] at h
    refine lv_aload_n hx hb dX12_putParts_143 rfl (lv_at hl 0 rfl) ?_
    refine lv_bipush (v := 44) hx hb dX12_putParts_144 (by decide) ?_
    obtain ⟨μ11, gμ11, h⟩ := bw_some h
    refine g_callVV (As := [.int 44]) (rest := []) cx hw hA (t_X12_put l G ad (44 : Int32) μ gμ11) shm_0 rfl ml_X12_862 im_X12_put se_X12_put in_X12 co_X12_put rfl hd_X12_put rfl ⟨(Nat.le_of_ble_eq_true rfl), (Nat.le_of_ble_eq_true rfl)⟩ hl.1 rfl (Nat.le_of_ble_eq_true rfl) dX12_putParts_146 ⟨rfl, rfl⟩ (fun H locs hw => ?_)
    exact t_X12_putParts_b149 l G ad av K6 hK6 a1 (sh_f (sh_k q1)) a2 (sh_f (sh_k q2)) a3 a4 a5 a6 μ11 h p e s m below meth c A ls H locs cx hr hlk hA (lv_sub hl [0, 1, 2, 3, 4, 5, 6] rfl) hw
theorem p_X12_putParts_b120_ex : ∃ f : (Nat → Nat → Int32 → Int32 → Int32 → Int32 → Mem → Option Mem) → Nat → Nat → Int32 → Int32 → Int32 → Int32 → Int32 → Mem → Option Mem, ∀ (K6 : Nat → Nat → Int32 → Int32 → Int32 → Int32 → Mem → Option Mem) (a1 : Nat) (a2 : Nat) (a3 : Int32) (a4 : Int32) (a5 : Int32) (a6 : Int32) (a7 : Int32) (μ : Mem), f K6 a1 a2 a3 a4 a5 a6 a7 μ = (if a5 ≤ (0 : Int32) then p_X12_putParts_b138 K6 a1 a2 a3 a4 a5 a6 a7 μ else bv (a5 - (1 : Int32)) (fun v13 => gd (inb v13 210) (gd (inb v13 210) (bv (sF μ 89 v13.toNatClampNeg ((μ.1 89 v13.toNatClampNeg) - (1 : Int32))) (fun μ14 => p_X12_putParts_b138 K6 a1 a2 a3 a4 a5 a6 a7 μ14))))) := ⟨fun (K6 : Nat → Nat → Int32 → Int32 → Int32 → Int32 → Mem → Option Mem) (a1 : Nat) (a2 : Nat) (a3 : Int32) (a4 : Int32) (a5 : Int32) (a6 : Int32) (a7 : Int32) (μ : Mem) => (if a5 ≤ (0 : Int32) then p_X12_putParts_b138 K6 a1 a2 a3 a4 a5 a6 a7 μ else bv (a5 - (1 : Int32)) (fun v13 => gd (inb v13 210) (gd (inb v13 210) (bv (sF μ 89 v13.toNatClampNeg ((μ.1 89 v13.toNatClampNeg) - (1 : Int32))) (fun μ14 => p_X12_putParts_b138 K6 a1 a2 a3 a4 a5 a6 a7 μ14))))), fun _ _ _ _ _ _ _ _ _ => rfl⟩
noncomputable def p_X12_putParts_b120 : (Nat → Nat → Int32 → Int32 → Int32 → Int32 → Mem → Option Mem) → Nat → Nat → Int32 → Int32 → Int32 → Int32 → Int32 → Mem → Option Mem := Classical.choose p_X12_putParts_b120_ex
theorem p_X12_putParts_b120_eq (K6 : Nat → Nat → Int32 → Int32 → Int32 → Int32 → Mem → Option Mem) (a1 : Nat) (a2 : Nat) (a3 : Int32) (a4 : Int32) (a5 : Int32) (a6 : Int32) (a7 : Int32) (μ : Mem) : p_X12_putParts_b120 K6 a1 a2 a3 a4 a5 a6 a7 μ = (if a5 ≤ (0 : Int32) then p_X12_putParts_b138 K6 a1 a2 a3 a4 a5 a6 a7 μ else bv (a5 - (1 : Int32)) (fun v13 => gd (inb v13 210) (gd (inb v13 210) (bv (sF μ 89 v13.toNatClampNeg ((μ.1 89 v13.toNatClampNeg) - (1 : Int32))) (fun μ14 => p_X12_putParts_b138 K6 a1 a2 a3 a4 a5 a6 a7 μ14))))) := Classical.choose_spec p_X12_putParts_b120_ex K6 a1 a2 a3 a4 a5 a6 a7 μ
set_option maxHeartbeats 4000000 in
set_option maxRecDepth 100000 in
theorem t_X12_putParts_b120 (l : Launch) (G : Gt) (ad : Nat → Nat) (av : List Value) {μz : Mem} (K6 : Nat → Nat → Int32 → Int32 → Int32 → Int32 → Mem → Option Mem) (hK6 : ∀ (z1 : Nat) (w1 : (sh 1 z1).1 = 1) (z2 : Nat) (w2 : (sh 1 z2).1 = 1) (z3 : Int32) (z4 : Int32) (z5 : Int32) (z6 : Int32) (μ1 : Mem), K6 z1 z2 z3 z4 z5 z6 μ1 = some μz → Bk l cX12_putParts 8 RX12 none ({ frames := 3, cells := 0, slots := 0, locals := 70 } : Room) G av (eV 1 G ad μz) (wd 1 G ad μ1) 6 [(0, .ref (ad 0)), (1, .ref (ad z1)), (2, .ref (ad z2)), (3, .int z3), (4, .int z4), (5, .int z5), (6, .int z6)] []) (a1 : Nat) (q1 : (sh 1 a1).1 = 1) (a2 : Nat) (q2 : (sh 1 a2).1 = 1) (a3 : Int32) (a4 : Int32) (a5 : Int32) (a6 : Int32) (a7 : Int32) (μ : Mem) (h : p_X12_putParts_b120 K6 a1 a2 a3 a4 a5 a6 a7 μ = some μz) : Bk l cX12_putParts 8 RX12 none ({ frames := 3, cells := 0, slots := 0, locals := 70 } : Room) G av (eV 1 G ad μz) (wd 1 G ad μ) 120 [(0, .ref (ad 0)), (1, .ref (ad a1)), (2, .ref (ad a2)), (3, .int a3), (4, .int a4), (5, .int a5), (6, .int a6), (7, .int a7)] [] := by
  intro p e s m below meth c A ls H locs cx hr hlk hA hl hw
  have hx := cx.1
  have hb := cx.2.1
  rw [p_X12_putParts_b120_eq] at h
  refine lv_iload hx hb dX12_putParts_120 (lv_at hl 5 rfl) ?_
  refine lv_if_le (tgt := 138) hx hb dX12_putParts_122 (by decide) (fun c8 => ?_) (fun c8 => ?_)
  · rw [if_pos c8] at h
    exact t_X12_putParts_b138 l G ad av K6 hK6 a1 (sh_f (sh_k q1)) a2 (sh_f (sh_k q2)) a3 a4 a5 a6 a7 μ h p e s m below meth c A ls H locs cx hr hlk hA (lv_sub hl [0, 1, 2, 3, 4, 5, 6, 7] rfl) hw
  · rw [if_neg c8] at h
    refine lv_aload_n hx hb dX12_putParts_125 rfl (lv_at hl 0 rfl) ?_
    refine g_get cx hw inX12 (ci := 11) rfl 140 (by decide) rfl (v := .ref (ad 89)) shm_0 rfl fl_X12_284 dX12_putParts_126 ?_
    refine lv_iload hx hb dX12_putParts_129 (lv_at hl 5 rfl) ?_
    refine lv_iconst (v := 1) hx hb dX12_putParts_131 (by decide) ?_
    refine lv_isub hx hb dX12_putParts_132 ?_
    obtain ⟨v13, ev13, h⟩ := bv_ex h
    refine lv_topi (fun y9 z9 => ?_)
    obtain rfl : v13 = y9 := ev13.trans z9.symm
    refine lv_dup2_11 hx hb dX12_putParts_133 rfl rfl ?_
    refine g_iald cx hw shm_89 h dX12_putParts_134 (fun h => ?_)
    refine lv_iconst (v := 1) hx hb dX12_putParts_135 (by decide) ?_
    refine lv_isub hx hb dX12_putParts_136 ?_
    refine g_iast cx hw shm_89 h dX12_putParts_137 (fun μ14 H locs h hw => ?_)
    exact t_X12_putParts_b138 l G ad av K6 hK6 a1 (sh_f (sh_k q1)) a2 (sh_f (sh_k q2)) a3 a4 a5 a6 a7 μ14 h p e s m below meth c A ls H locs cx hr hlk hA (lv_sub hl [0, 1, 2, 3, 4, 5, 6, 7] rfl) hw
theorem p_X12_putParts_b90_ex : ∃ f : (Nat → Nat → Int32 → Int32 → Int32 → Int32 → Mem → Option Mem) → Nat → Nat → Nat → Int32 → Int32 → Int32 → Int32 → Int32 → Mem → Option Mem, (∀ (K6 : Nat → Nat → Int32 → Int32 → Int32 → Int32 → Mem → Option Mem) (a1 : Nat) (a2 : Nat) (a3 : Int32) (a4 : Int32) (a5 : Int32) (a6 : Int32) (a7 : Int32) (μ : Mem), f K6 0 a1 a2 a3 a4 a5 a6 a7 μ = none) ∧ (∀ (K6 : Nat → Nat → Int32 → Int32 → Int32 → Int32 → Mem → Option Mem) (n : Nat) (a1 : Nat) (a2 : Nat) (a3 : Int32) (a4 : Int32) (a5 : Int32) (a6 : Int32) (a7 : Int32) (μ : Mem), f K6 (n + 1) a1 a2 a3 a4 a5 a6 a7 μ = (if a5 ≤ (0 : Int32) then p_X12_putParts_b120 K6 a1 a2 a3 a4 a5 a6 a7 μ else gd (inb (a5 - (1 : Int32)) 210) ((if (μ.1 89 (a5 - (1 : Int32)).toNatClampNeg) = (1 : Int32) then bw (p_X12_put (93 : Int32) μ) (fun μ16 => bv (a5 + (-1)) (fun v18 => f K6 n a1 a2 a3 a4 v18 a6 a7 μ16)) else p_X12_putParts_b120 K6 a1 a2 a3 a4 a5 a6 a7 μ)))) := ⟨fun (K6 : Nat → Nat → Int32 → Int32 → Int32 → Int32 → Mem → Option Mem) n => Nat.rec (fun (a1 : Nat) (a2 : Nat) (a3 : Int32) (a4 : Int32) (a5 : Int32) (a6 : Int32) (a7 : Int32) (μ : Mem) => none) (fun _ ih => fun (a1 : Nat) (a2 : Nat) (a3 : Int32) (a4 : Int32) (a5 : Int32) (a6 : Int32) (a7 : Int32) (μ : Mem) => (if a5 ≤ (0 : Int32) then p_X12_putParts_b120 K6 a1 a2 a3 a4 a5 a6 a7 μ else gd (inb (a5 - (1 : Int32)) 210) ((if (μ.1 89 (a5 - (1 : Int32)).toNatClampNeg) = (1 : Int32) then bw (p_X12_put (93 : Int32) μ) (fun μ16 => bv (a5 + (-1)) (fun v18 => ih a1 a2 a3 a4 v18 a6 a7 μ16)) else p_X12_putParts_b120 K6 a1 a2 a3 a4 a5 a6 a7 μ)))) n, fun _ _ _ _ _ _ _ _ _ => rfl, fun _ _ _ _ _ _ _ _ _ _ => rfl⟩
noncomputable def p_X12_putParts_b90 : (Nat → Nat → Int32 → Int32 → Int32 → Int32 → Mem → Option Mem) → Nat → Nat → Nat → Int32 → Int32 → Int32 → Int32 → Int32 → Mem → Option Mem := Classical.choose p_X12_putParts_b90_ex
theorem p_X12_putParts_b90_z (K6 : Nat → Nat → Int32 → Int32 → Int32 → Int32 → Mem → Option Mem) (a1 : Nat) (a2 : Nat) (a3 : Int32) (a4 : Int32) (a5 : Int32) (a6 : Int32) (a7 : Int32) (μ : Mem) : p_X12_putParts_b90 K6 0 a1 a2 a3 a4 a5 a6 a7 μ = none := (Classical.choose_spec p_X12_putParts_b90_ex).1 K6 a1 a2 a3 a4 a5 a6 a7 μ
theorem p_X12_putParts_b90_s (K6 : Nat → Nat → Int32 → Int32 → Int32 → Int32 → Mem → Option Mem) (n : Nat) (a1 : Nat) (a2 : Nat) (a3 : Int32) (a4 : Int32) (a5 : Int32) (a6 : Int32) (a7 : Int32) (μ : Mem) : p_X12_putParts_b90 K6 (n + 1) a1 a2 a3 a4 a5 a6 a7 μ = (if a5 ≤ (0 : Int32) then p_X12_putParts_b120 K6 a1 a2 a3 a4 a5 a6 a7 μ else gd (inb (a5 - (1 : Int32)) 210) ((if (μ.1 89 (a5 - (1 : Int32)).toNatClampNeg) = (1 : Int32) then bw (p_X12_put (93 : Int32) μ) (fun μ16 => bv (a5 + (-1)) (fun v18 => p_X12_putParts_b90 K6 n a1 a2 a3 a4 v18 a6 a7 μ16)) else p_X12_putParts_b120 K6 a1 a2 a3 a4 a5 a6 a7 μ))) := (Classical.choose_spec p_X12_putParts_b90_ex).2 K6 n a1 a2 a3 a4 a5 a6 a7 μ
set_option maxHeartbeats 4000000 in
set_option maxRecDepth 100000 in
theorem t_X12_putParts_b90 (l : Launch) (G : Gt) (ad : Nat → Nat) (av : List Value) {μz : Mem} (K6 : Nat → Nat → Int32 → Int32 → Int32 → Int32 → Mem → Option Mem) (hK6 : ∀ (z1 : Nat) (w1 : (sh 1 z1).1 = 1) (z2 : Nat) (w2 : (sh 1 z2).1 = 1) (z3 : Int32) (z4 : Int32) (z5 : Int32) (z6 : Int32) (μ1 : Mem), K6 z1 z2 z3 z4 z5 z6 μ1 = some μz → Bk l cX12_putParts 8 RX12 none ({ frames := 3, cells := 0, slots := 0, locals := 70 } : Room) G av (eV 1 G ad μz) (wd 1 G ad μ1) 6 [(0, .ref (ad 0)), (1, .ref (ad z1)), (2, .ref (ad z2)), (3, .int z3), (4, .int z4), (5, .int z5), (6, .int z6)] []) : ∀ (n : Nat) (a1 : Nat) (q1 : (sh 1 a1).1 = 1) (a2 : Nat) (q2 : (sh 1 a2).1 = 1) (a3 : Int32) (a4 : Int32) (a5 : Int32) (a6 : Int32) (a7 : Int32) (μ : Mem), p_X12_putParts_b90 K6 n a1 a2 a3 a4 a5 a6 a7 μ = some μz → Bk l cX12_putParts 8 RX12 none ({ frames := 3, cells := 0, slots := 0, locals := 70 } : Room) G av (eV 1 G ad μz) (wd 1 G ad μ) 90 [(0, .ref (ad 0)), (1, .ref (ad a1)), (2, .ref (ad a2)), (3, .int a3), (4, .int a4), (5, .int a5), (6, .int a6), (7, .int a7)] [] := by
  intro n
  induction n with
  | zero => intro a1 q1 a2 q2 a3 a4 a5 a6 a7 μ h; rw [p_X12_putParts_b90_z] at h; cases h
  | succ n ih =>
    intro a1 q1 a2 q2 a3 a4 a5 a6 a7 μ h p e s m below meth c A ls H locs cx hr hlk hA hl hw
    have hx := cx.1
    have hb := cx.2.1
    rw [p_X12_putParts_b90_s] at h
    refine lv_iload hx hb dX12_putParts_90 (lv_at hl 5 rfl) ?_
    refine lv_if_le (tgt := 120) hx hb dX12_putParts_92 (by decide) (fun c7 => ?_) (fun c7 => ?_)
    · rw [if_pos c7] at h
      exact t_X12_putParts_b120 l G ad av K6 hK6 a1 (sh_f (sh_k q1)) a2 (sh_f (sh_k q2)) a3 a4 a5 a6 a7 μ h p e s m below meth c A ls H locs cx hr hlk hA (lv_sub hl [0, 1, 2, 3, 4, 5, 6, 7] rfl) hw
    · rw [if_neg c7] at h
      refine lv_aload_n hx hb dX12_putParts_95 rfl (lv_at hl 0 rfl) ?_
      refine g_get cx hw inX12 (ci := 11) rfl 140 (by decide) rfl (v := .ref (ad 89)) shm_0 rfl fl_X12_284 dX12_putParts_96 ?_
      refine lv_iload hx hb dX12_putParts_99 (lv_at hl 5 rfl) ?_
      refine lv_iconst (v := 1) hx hb dX12_putParts_101 (by decide) ?_
      refine lv_isub hx hb dX12_putParts_102 ?_
      refine g_iald cx hw shm_89 h dX12_putParts_103 (fun h => ?_)
      refine lv_iconst (v := 1) hx hb dX12_putParts_104 (by decide) ?_
      refine lv_icmp_ne (tgt := 120) hx hb dX12_putParts_105 (by decide) (fun c15 => ?_) (fun c15 => ?_)
      · rw [if_neg c15] at h
        exact t_X12_putParts_b120 l G ad av K6 hK6 a1 (sh_f (sh_k q1)) a2 (sh_f (sh_k q2)) a3 a4 a5 a6 a7 μ h p e s m below meth c A ls H locs cx hr hlk hA (lv_sub hl [0, 1, 2, 3, 4, 5, 6, 7] rfl) hw
      · rw [if_pos c15] at h
        refine lv_aload_n hx hb dX12_putParts_108 rfl (lv_at hl 0 rfl) ?_
        refine lv_bipush (v := 93) hx hb dX12_putParts_109 (by decide) ?_
        obtain ⟨μ16, gμ16, h⟩ := bw_some h
        refine g_callVV (As := [.int 93]) (rest := []) cx hw hA (t_X12_put l G ad (93 : Int32) μ gμ16) shm_0 rfl ml_X12_862 im_X12_put se_X12_put in_X12 co_X12_put rfl hd_X12_put rfl ⟨(Nat.le_of_ble_eq_true rfl), (Nat.le_of_ble_eq_true rfl)⟩ hl.1 rfl (Nat.le_of_ble_eq_true rfl) dX12_putParts_111 ⟨rfl, rfl⟩ (fun H locs hw => ?_)
        obtain ⟨v18, ev18, h⟩ := bv_ex h
        refine lv_iinc (v := v18) (lv' := [(5, .int v18), (0, .ref (ad 0)), (1, .ref (ad a1)), (2, .ref (ad a2)), (3, .int a3), (4, .int a4), (6, .int a6), (7, .int a7)]) hx hb dX12_putParts_114 hl (k := 5) rfl (by rw [ev18]; rfl) (by decide) rfl (fun ls hl => ?_)
        refine lv_goto (tgt := 90) hx hb dX12_putParts_117 (by decide) ?_
        exact ih a1 (sh_f (sh_k q1)) a2 (sh_f (sh_k q2)) a3 a4 v18 a6 a7 μ16 h p e s m below meth c A ls H locs cx hr hlk hA (lv_sub hl [1, 2, 3, 4, 5, 0, 6, 7] rfl) hw
theorem p_X12_putParts_b88_ex : ∃ f : (Nat → Nat → Int32 → Int32 → Int32 → Int32 → Mem → Option Mem) → Nat → Nat → Int32 → Int32 → Int32 → Int32 → Int32 → Mem → Option Mem, ∀ (K6 : Nat → Nat → Int32 → Int32 → Int32 → Int32 → Mem → Option Mem) (a1 : Nat) (a2 : Nat) (a3 : Int32) (a4 : Int32) (a5 : Int32) (a6 : Int32) (k0 : Int32) (μ : Mem), f K6 a1 a2 a3 a4 a5 a6 k0 μ = p_X12_putParts_b90 K6 FUEL a1 a2 a3 a4 a5 a6 k0 μ := ⟨fun (K6 : Nat → Nat → Int32 → Int32 → Int32 → Int32 → Mem → Option Mem) (a1 : Nat) (a2 : Nat) (a3 : Int32) (a4 : Int32) (a5 : Int32) (a6 : Int32) (k0 : Int32) (μ : Mem) => p_X12_putParts_b90 K6 FUEL a1 a2 a3 a4 a5 a6 k0 μ, fun _ _ _ _ _ _ _ _ _ => rfl⟩
noncomputable def p_X12_putParts_b88 : (Nat → Nat → Int32 → Int32 → Int32 → Int32 → Mem → Option Mem) → Nat → Nat → Int32 → Int32 → Int32 → Int32 → Int32 → Mem → Option Mem := Classical.choose p_X12_putParts_b88_ex
theorem p_X12_putParts_b88_eq (K6 : Nat → Nat → Int32 → Int32 → Int32 → Int32 → Mem → Option Mem) (a1 : Nat) (a2 : Nat) (a3 : Int32) (a4 : Int32) (a5 : Int32) (a6 : Int32) (k0 : Int32) (μ : Mem) : p_X12_putParts_b88 K6 a1 a2 a3 a4 a5 a6 k0 μ = p_X12_putParts_b90 K6 FUEL a1 a2 a3 a4 a5 a6 k0 μ := Classical.choose_spec p_X12_putParts_b88_ex K6 a1 a2 a3 a4 a5 a6 k0 μ
set_option maxHeartbeats 4000000 in
set_option maxRecDepth 100000 in
theorem t_X12_putParts_b88 (l : Launch) (G : Gt) (ad : Nat → Nat) (av : List Value) {μz : Mem} (K6 : Nat → Nat → Int32 → Int32 → Int32 → Int32 → Mem → Option Mem) (hK6 : ∀ (z1 : Nat) (w1 : (sh 1 z1).1 = 1) (z2 : Nat) (w2 : (sh 1 z2).1 = 1) (z3 : Int32) (z4 : Int32) (z5 : Int32) (z6 : Int32) (μ1 : Mem), K6 z1 z2 z3 z4 z5 z6 μ1 = some μz → Bk l cX12_putParts 8 RX12 none ({ frames := 3, cells := 0, slots := 0, locals := 70 } : Room) G av (eV 1 G ad μz) (wd 1 G ad μ1) 6 [(0, .ref (ad 0)), (1, .ref (ad z1)), (2, .ref (ad z2)), (3, .int z3), (4, .int z4), (5, .int z5), (6, .int z6)] []) (a1 : Nat) (q1 : (sh 1 a1).1 = 1) (a2 : Nat) (q2 : (sh 1 a2).1 = 1) (a3 : Int32) (a4 : Int32) (a5 : Int32) (a6 : Int32) (k0 : Int32) (μ : Mem) (h : p_X12_putParts_b88 K6 a1 a2 a3 a4 a5 a6 k0 μ = some μz) : Bk l cX12_putParts 8 RX12 none ({ frames := 3, cells := 0, slots := 0, locals := 70 } : Room) G av (eV 1 G ad μz) (wd 1 G ad μ) 88 [(0, .ref (ad 0)), (1, .ref (ad a1)), (2, .ref (ad a2)), (3, .int a3), (4, .int a4), (5, .int a5), (6, .int a6)] [.int k0] := by
  intro p e s m below meth c A ls H locs cx hr hlk hA hl hw
  have hx := cx.1
  have hb := cx.2.1
  rw [p_X12_putParts_b88_eq] at h
  refine lv_istore (lv' := [(7, .int k0), (0, .ref (ad 0)), (1, .ref (ad a1)), (2, .ref (ad a2)), (3, .int a3), (4, .int a4), (5, .int a5), (6, .int a6)]) hx hb dX12_putParts_88 hl (by decide) rfl (fun ls hl => ?_)
  exact t_X12_putParts_b90 l G ad av K6 hK6 FUEL a1 (sh_f (sh_k q1)) a2 (sh_f (sh_k q2)) a3 a4 a5 a6 k0 μ h p e s m below meth c A ls H locs cx hr hlk hA (lv_sub hl [1, 2, 3, 4, 5, 6, 7, 0] rfl) hw
theorem p_X12_putParts_b72_ex : ∃ f : (Nat → Nat → Int32 → Int32 → Int32 → Int32 → Mem → Option Mem) → Nat → Nat → Int32 → Int32 → Int32 → Int32 → Mem → Option Mem, ∀ (K6 : Nat → Nat → Int32 → Int32 → Int32 → Int32 → Mem → Option Mem) (a1 : Nat) (a2 : Nat) (a3 : Int32) (a4 : Int32) (a5 : Int32) (a6 : Int32) (μ : Mem), f K6 a1 a2 a3 a4 a5 a6 μ = (if (a3 + a4) ≤ (a6 + (1 : Int32)) then p_X12_putParts_b88 K6 a1 a2 a3 a4 a5 a6 (0 : Int32) μ else p_X12_putParts_b88 K6 a1 a2 a3 a4 a5 a6 (1 : Int32) μ) := ⟨fun (K6 : Nat → Nat → Int32 → Int32 → Int32 → Int32 → Mem → Option Mem) (a1 : Nat) (a2 : Nat) (a3 : Int32) (a4 : Int32) (a5 : Int32) (a6 : Int32) (μ : Mem) => (if (a3 + a4) ≤ (a6 + (1 : Int32)) then p_X12_putParts_b88 K6 a1 a2 a3 a4 a5 a6 (0 : Int32) μ else p_X12_putParts_b88 K6 a1 a2 a3 a4 a5 a6 (1 : Int32) μ), fun _ _ _ _ _ _ _ _ => rfl⟩
noncomputable def p_X12_putParts_b72 : (Nat → Nat → Int32 → Int32 → Int32 → Int32 → Mem → Option Mem) → Nat → Nat → Int32 → Int32 → Int32 → Int32 → Mem → Option Mem := Classical.choose p_X12_putParts_b72_ex
theorem p_X12_putParts_b72_eq (K6 : Nat → Nat → Int32 → Int32 → Int32 → Int32 → Mem → Option Mem) (a1 : Nat) (a2 : Nat) (a3 : Int32) (a4 : Int32) (a5 : Int32) (a6 : Int32) (μ : Mem) : p_X12_putParts_b72 K6 a1 a2 a3 a4 a5 a6 μ = (if (a3 + a4) ≤ (a6 + (1 : Int32)) then p_X12_putParts_b88 K6 a1 a2 a3 a4 a5 a6 (0 : Int32) μ else p_X12_putParts_b88 K6 a1 a2 a3 a4 a5 a6 (1 : Int32) μ) := Classical.choose_spec p_X12_putParts_b72_ex K6 a1 a2 a3 a4 a5 a6 μ
set_option maxHeartbeats 4000000 in
set_option maxRecDepth 100000 in
theorem t_X12_putParts_b72 (l : Launch) (G : Gt) (ad : Nat → Nat) (av : List Value) {μz : Mem} (K6 : Nat → Nat → Int32 → Int32 → Int32 → Int32 → Mem → Option Mem) (hK6 : ∀ (z1 : Nat) (w1 : (sh 1 z1).1 = 1) (z2 : Nat) (w2 : (sh 1 z2).1 = 1) (z3 : Int32) (z4 : Int32) (z5 : Int32) (z6 : Int32) (μ1 : Mem), K6 z1 z2 z3 z4 z5 z6 μ1 = some μz → Bk l cX12_putParts 8 RX12 none ({ frames := 3, cells := 0, slots := 0, locals := 70 } : Room) G av (eV 1 G ad μz) (wd 1 G ad μ1) 6 [(0, .ref (ad 0)), (1, .ref (ad z1)), (2, .ref (ad z2)), (3, .int z3), (4, .int z4), (5, .int z5), (6, .int z6)] []) (a1 : Nat) (q1 : (sh 1 a1).1 = 1) (a2 : Nat) (q2 : (sh 1 a2).1 = 1) (a3 : Int32) (a4 : Int32) (a5 : Int32) (a6 : Int32) (μ : Mem) (h : p_X12_putParts_b72 K6 a1 a2 a3 a4 a5 a6 μ = some μz) : Bk l cX12_putParts 8 RX12 none ({ frames := 3, cells := 0, slots := 0, locals := 70 } : Room) G av (eV 1 G ad μz) (wd 1 G ad μ) 72 [(0, .ref (ad 0)), (1, .ref (ad a1)), (2, .ref (ad a2)), (3, .int a3), (4, .int a4), (5, .int a5), (6, .int a6)] [] := by
  intro p e s m below meth c A ls H locs cx hr hlk hA hl hw
  have hx := cx.1
  have hb := cx.2.1
  rw [p_X12_putParts_b72_eq] at h
  refine lv_iload hx hb dX12_putParts_72 (lv_at hl 6 rfl) ?_
  refine lv_iconst (v := 1) hx hb dX12_putParts_74 (by decide) ?_
  refine lv_iadd hx hb dX12_putParts_75 ?_
  refine lv_iload_n hx hb dX12_putParts_76 rfl (lv_at hl 3 rfl) ?_
  refine lv_iload hx hb dX12_putParts_77 (lv_at hl 4 rfl) ?_
  refine lv_iadd hx hb dX12_putParts_79 ?_
  refine lv_icmp_ge (tgt := 87) hx hb dX12_putParts_80 (by decide) (fun c6 => ?_) (fun c6 => ?_)
  · rw [if_pos c6] at h
    refine lv_iconst (v := 0) hx hb dX12_putParts_87 (by decide) ?_
    exact t_X12_putParts_b88 l G ad av K6 hK6 a1 (sh_f (sh_k q1)) a2 (sh_f (sh_k q2)) a3 a4 a5 a6 (0 : Int32) μ h p e s m below meth c A ls H locs cx hr hlk hA (lv_sub hl [0, 1, 2, 3, 4, 5, 6] rfl) hw
  · rw [if_neg c6] at h
    refine lv_iconst (v := 1) hx hb dX12_putParts_83 (by decide) ?_
    refine lv_goto (tgt := 88) hx hb dX12_putParts_84 (by decide) ?_
    exact t_X12_putParts_b88 l G ad av K6 hK6 a1 (sh_f (sh_k q1)) a2 (sh_f (sh_k q2)) a3 a4 a5 a6 (1 : Int32) μ h p e s m below meth c A ls H locs cx hr hlk hA (lv_sub hl [0, 1, 2, 3, 4, 5, 6] rfl) hw
theorem p_X12_putParts_b6_ex : ∃ f : Nat → Nat → Nat → Int32 → Int32 → Int32 → Int32 → Mem → Option Mem, (∀ (a1 : Nat) (a2 : Nat) (a3 : Int32) (a4 : Int32) (a5 : Int32) (a6 : Int32) (μ : Mem), f  0 a1 a2 a3 a4 a5 a6 μ = none) ∧ (∀ (n : Nat) (a1 : Nat) (a2 : Nat) (a3 : Int32) (a4 : Int32) (a5 : Int32) (a6 : Int32) (μ : Mem), f  (n + 1) a1 a2 a3 a4 a5 a6 μ = (if (a3 + a4) ≤ a6 then some μ else gd (inb a6 ((sh 1 a1).2)) ((if (μ.1 a1 a6.toNatClampNeg) = (2 : Int32) then bw (p_X12_put (91 : Int32) μ) (fun μ21 => gd (inb a5 210) (bv (sF μ21 89 a5.toNatClampNeg (2 : Int32)) (fun μ23 => bv (a5 + 1) (fun v24 => p_X12_putParts_b149 (f n) a1 a2 a3 a4 v24 a6 μ23)))) else gd (inb a6 ((sh 1 a1).2)) ((if (μ.1 a1 a6.toNatClampNeg) = (3 : Int32) then bw (p_X12_put (42 : Int32) μ) (fun μ19 => p_X12_putParts_b72 (f n) a1 a2 a3 a4 a5 a6 μ19) else gd (inb a6 ((sh 1 a1).2)) (gd (inb a6 ((sh 1 a2).2)) (bw (p_X12_putOne (μ.1 a1 a6.toNatClampNeg) (μ.1 a2 a6.toNatClampNeg) μ) (fun μ4 => p_X12_putParts_b72 (f n) a1 a2 a3 a4 a5 a6 μ4))))))))) := ⟨fun n => Nat.rec (fun (a1 : Nat) (a2 : Nat) (a3 : Int32) (a4 : Int32) (a5 : Int32) (a6 : Int32) (μ : Mem) => none) (fun _ ih => fun (a1 : Nat) (a2 : Nat) (a3 : Int32) (a4 : Int32) (a5 : Int32) (a6 : Int32) (μ : Mem) => (if (a3 + a4) ≤ a6 then some μ else gd (inb a6 ((sh 1 a1).2)) ((if (μ.1 a1 a6.toNatClampNeg) = (2 : Int32) then bw (p_X12_put (91 : Int32) μ) (fun μ21 => gd (inb a5 210) (bv (sF μ21 89 a5.toNatClampNeg (2 : Int32)) (fun μ23 => bv (a5 + 1) (fun v24 => p_X12_putParts_b149 (ih) a1 a2 a3 a4 v24 a6 μ23)))) else gd (inb a6 ((sh 1 a1).2)) ((if (μ.1 a1 a6.toNatClampNeg) = (3 : Int32) then bw (p_X12_put (42 : Int32) μ) (fun μ19 => p_X12_putParts_b72 (ih) a1 a2 a3 a4 a5 a6 μ19) else gd (inb a6 ((sh 1 a1).2)) (gd (inb a6 ((sh 1 a2).2)) (bw (p_X12_putOne (μ.1 a1 a6.toNatClampNeg) (μ.1 a2 a6.toNatClampNeg) μ) (fun μ4 => p_X12_putParts_b72 (ih) a1 a2 a3 a4 a5 a6 μ4))))))))) n, fun  _ _ _ _ _ _ _ => rfl, fun  _ _ _ _ _ _ _ _ => rfl⟩
noncomputable def p_X12_putParts_b6 : Nat → Nat → Nat → Int32 → Int32 → Int32 → Int32 → Mem → Option Mem := Classical.choose p_X12_putParts_b6_ex
theorem p_X12_putParts_b6_z (a1 : Nat) (a2 : Nat) (a3 : Int32) (a4 : Int32) (a5 : Int32) (a6 : Int32) (μ : Mem) : p_X12_putParts_b6  0 a1 a2 a3 a4 a5 a6 μ = none := (Classical.choose_spec p_X12_putParts_b6_ex).1  a1 a2 a3 a4 a5 a6 μ
theorem p_X12_putParts_b6_s (n : Nat) (a1 : Nat) (a2 : Nat) (a3 : Int32) (a4 : Int32) (a5 : Int32) (a6 : Int32) (μ : Mem) : p_X12_putParts_b6  (n + 1) a1 a2 a3 a4 a5 a6 μ = (if (a3 + a4) ≤ a6 then some μ else gd (inb a6 ((sh 1 a1).2)) ((if (μ.1 a1 a6.toNatClampNeg) = (2 : Int32) then bw (p_X12_put (91 : Int32) μ) (fun μ21 => gd (inb a5 210) (bv (sF μ21 89 a5.toNatClampNeg (2 : Int32)) (fun μ23 => bv (a5 + 1) (fun v24 => p_X12_putParts_b149 (p_X12_putParts_b6  n) a1 a2 a3 a4 v24 a6 μ23)))) else gd (inb a6 ((sh 1 a1).2)) ((if (μ.1 a1 a6.toNatClampNeg) = (3 : Int32) then bw (p_X12_put (42 : Int32) μ) (fun μ19 => p_X12_putParts_b72 (p_X12_putParts_b6  n) a1 a2 a3 a4 a5 a6 μ19) else gd (inb a6 ((sh 1 a1).2)) (gd (inb a6 ((sh 1 a2).2)) (bw (p_X12_putOne (μ.1 a1 a6.toNatClampNeg) (μ.1 a2 a6.toNatClampNeg) μ) (fun μ4 => p_X12_putParts_b72 (p_X12_putParts_b6  n) a1 a2 a3 a4 a5 a6 μ4)))))))) := (Classical.choose_spec p_X12_putParts_b6_ex).2  n a1 a2 a3 a4 a5 a6 μ
set_option maxHeartbeats 4000000 in
set_option maxRecDepth 100000 in
theorem t_X12_putParts_b6 (l : Launch) (G : Gt) (ad : Nat → Nat) (av : List Value) {μz : Mem} : ∀ (n : Nat) (a1 : Nat) (q1 : (sh 1 a1).1 = 1) (a2 : Nat) (q2 : (sh 1 a2).1 = 1) (a3 : Int32) (a4 : Int32) (a5 : Int32) (a6 : Int32) (μ : Mem), p_X12_putParts_b6  n a1 a2 a3 a4 a5 a6 μ = some μz → Bk l cX12_putParts 8 RX12 none ({ frames := 3, cells := 0, slots := 0, locals := 70 } : Room) G av (eV 1 G ad μz) (wd 1 G ad μ) 6 [(0, .ref (ad 0)), (1, .ref (ad a1)), (2, .ref (ad a2)), (3, .int a3), (4, .int a4), (5, .int a5), (6, .int a6)] [] := by
  intro n
  induction n with
  | zero => intro a1 q1 a2 q2 a3 a4 a5 a6 μ h; rw [p_X12_putParts_b6_z] at h; cases h
  | succ n ih =>
    intro a1 q1 a2 q2 a3 a4 a5 a6 μ h p e s m below meth c A ls H locs cx hr hlk hA hl hw
    have hx := cx.1
    have hb := cx.2.1
    rw [p_X12_putParts_b6_s] at h
    refine lv_iload hx hb dX12_putParts_6 (lv_at hl 6 rfl) ?_
    refine lv_iload_n hx hb dX12_putParts_8 rfl (lv_at hl 3 rfl) ?_
    refine lv_iload hx hb dX12_putParts_9 (lv_at hl 4 rfl) ?_
    refine lv_iadd hx hb dX12_putParts_11 ?_
    refine lv_icmp_ge (tgt := 155) hx hb dX12_putParts_12 (by decide) (fun c1 => ?_) (fun c1 => ?_)
    · rw [if_pos c1] at h
      exact g_vret cx hr hlk hw h dX12_putParts_155
    · rw [if_neg c1] at h
      refine lv_aload_n hx hb dX12_putParts_15 rfl (lv_at hl 1 rfl) ?_
      refine lv_iload hx hb dX12_putParts_16 (lv_at hl 6 rfl) ?_
      refine g_iald cx hw (sh_k q1) h dX12_putParts_18 (fun h => ?_)
      refine lv_iconst (v := 2) hx hb dX12_putParts_19 (by decide) ?_
      refine lv_icmp_ne (tgt := 43) hx hb dX12_putParts_20 (by decide) (fun c2 => ?_) (fun c2 => ?_)
      · rw [if_neg c2] at h
        refine lv_aload_n hx hb dX12_putParts_43 rfl (lv_at hl 1 rfl) ?_
        refine lv_iload hx hb dX12_putParts_44 (lv_at hl 6 rfl) ?_
        refine g_iald cx hw (sh_k q1) h dX12_putParts_46 (fun h => ?_)
        refine lv_iconst (v := 3) hx hb dX12_putParts_47 (by decide) ?_
        refine lv_icmp_ne (tgt := 60) hx hb dX12_putParts_48 (by decide) (fun c3 => ?_) (fun c3 => ?_)
        · rw [if_neg c3] at h
          refine lv_aload_n hx hb dX12_putParts_60 rfl (lv_at hl 0 rfl) ?_
          refine lv_aload_n hx hb dX12_putParts_61 rfl (lv_at hl 1 rfl) ?_
          refine lv_iload hx hb dX12_putParts_62 (lv_at hl 6 rfl) ?_
          refine g_iald cx hw (sh_k q1) h dX12_putParts_64 (fun h => ?_)
          refine lv_aload_n hx hb dX12_putParts_65 rfl (lv_at hl 2 rfl) ?_
          refine lv_iload hx hb dX12_putParts_66 (lv_at hl 6 rfl) ?_
          refine g_iald cx hw (sh_k q2) h dX12_putParts_68 (fun h => ?_)
          obtain ⟨μ4, gμ4, h⟩ := bw_some h
          refine g_callVV (As := [.int (μ.1 a1 a6.toNatClampNeg), .int (μ.1 a2 a6.toNatClampNeg)]) (rest := []) cx hw hA (t_X12_putOne l G ad (μ.1 a1 a6.toNatClampNeg) (μ.1 a2 a6.toNatClampNeg) μ gμ4) shm_0 rfl ml_X12_874 im_X12_putOne se_X12_putOne in_X12 co_X12_putOne rfl hd_X12_putOne rfl ⟨(Nat.le_of_ble_eq_true rfl), (Nat.le_of_ble_eq_true rfl)⟩ hl.1 rfl (Nat.le_of_ble_eq_true rfl) dX12_putParts_69 ⟨rfl, rfl⟩ (fun H locs hw => ?_)
          exact t_X12_putParts_b72 l G ad av _ ih a1 (sh_f (sh_k q1)) a2 (sh_f (sh_k q2)) a3 a4 a5 a6 μ4 h p e s m below meth c A ls H locs cx hr hlk hA (lv_sub hl [0, 1, 2, 3, 4, 5, 6] rfl) hw
        · rw [if_pos c3] at h
          refine lv_aload_n hx hb dX12_putParts_51 rfl (lv_at hl 0 rfl) ?_
          refine lv_bipush (v := 42) hx hb dX12_putParts_52 (by decide) ?_
          obtain ⟨μ19, gμ19, h⟩ := bw_some h
          refine g_callVV (As := [.int 42]) (rest := []) cx hw hA (t_X12_put l G ad (42 : Int32) μ gμ19) shm_0 rfl ml_X12_862 im_X12_put se_X12_put in_X12 co_X12_put rfl hd_X12_put rfl ⟨(Nat.le_of_ble_eq_true rfl), (Nat.le_of_ble_eq_true rfl)⟩ hl.1 rfl (Nat.le_of_ble_eq_true rfl) dX12_putParts_54 ⟨rfl, rfl⟩ (fun H locs hw => ?_)
          refine lv_goto (tgt := 72) hx hb dX12_putParts_57 (by decide) ?_
          exact t_X12_putParts_b72 l G ad av _ ih a1 (sh_f (sh_k q1)) a2 (sh_f (sh_k q2)) a3 a4 a5 a6 μ19 h p e s m below meth c A ls H locs cx hr hlk hA (lv_sub hl [0, 1, 2, 3, 4, 5, 6] rfl) hw
      · rw [if_pos c2] at h
        refine lv_aload_n hx hb dX12_putParts_23 rfl (lv_at hl 0 rfl) ?_
        refine lv_bipush (v := 91) hx hb dX12_putParts_24 (by decide) ?_
        obtain ⟨μ21, gμ21, h⟩ := bw_some h
        refine g_callVV (As := [.int 91]) (rest := []) cx hw hA (t_X12_put l G ad (91 : Int32) μ gμ21) shm_0 rfl ml_X12_862 im_X12_put se_X12_put in_X12 co_X12_put rfl hd_X12_put rfl ⟨(Nat.le_of_ble_eq_true rfl), (Nat.le_of_ble_eq_true rfl)⟩ hl.1 rfl (Nat.le_of_ble_eq_true rfl) dX12_putParts_26 ⟨rfl, rfl⟩ (fun H locs hw => ?_)
        refine lv_aload_n hx hb dX12_putParts_29 rfl (lv_at hl 0 rfl) ?_
        refine g_get cx hw inX12 (ci := 11) rfl 140 (by decide) rfl (v := .ref (ad 89)) shm_0 rfl fl_X12_284 dX12_putParts_30 ?_
        refine lv_iload hx hb dX12_putParts_33 (lv_at hl 5 rfl) ?_
        refine lv_iconst (v := 2) hx hb dX12_putParts_35 (by decide) ?_
        refine g_iast cx hw shm_89 h dX12_putParts_36 (fun μ23 H locs h hw => ?_)
        obtain ⟨v24, ev24, h⟩ := bv_ex h
        refine lv_iinc (v := v24) (lv' := [(5, .int v24), (0, .ref (ad 0)), (1, .ref (ad a1)), (2, .ref (ad a2)), (3, .int a3), (4, .int a4), (6, .int a6)]) hx hb dX12_putParts_37 hl (k := 5) rfl (by rw [ev24]; rfl) (by decide) rfl (fun ls hl => ?_)
        refine lv_goto (tgt := 149) hx hb dX12_putParts_40 (by decide) ?_
        exact t_X12_putParts_b149 l G ad av _ ih a1 (sh_f (sh_k q1)) a2 (sh_f (sh_k q2)) a3 a4 v24 a6 μ23 h p e s m below meth c A ls H locs cx hr hlk hA (lv_sub hl [1, 2, 3, 4, 5, 0, 6] rfl) hw
theorem p_X12_putParts_ex : ∃ f : Nat → Nat → Int32 → Int32 → Mem → Option Mem, ∀ (a1 : Nat) (a2 : Nat) (a3 : Int32) (a4 : Int32) (μ : Mem), f a1 a2 a3 a4 μ = p_X12_putParts_b6  FUEL a1 a2 a3 a4 (0 : Int32) a3 μ := ⟨fun (a1 : Nat) (a2 : Nat) (a3 : Int32) (a4 : Int32) (μ : Mem) => p_X12_putParts_b6  FUEL a1 a2 a3 a4 (0 : Int32) a3 μ, fun _ _ _ _ _ => rfl⟩
noncomputable def p_X12_putParts : Nat → Nat → Int32 → Int32 → Mem → Option Mem := Classical.choose p_X12_putParts_ex
theorem p_X12_putParts_eq (a1 : Nat) (a2 : Nat) (a3 : Int32) (a4 : Int32) (μ : Mem) : p_X12_putParts a1 a2 a3 a4 μ = p_X12_putParts_b6  FUEL a1 a2 a3 a4 (0 : Int32) a3 μ := Classical.choose_spec p_X12_putParts_ex a1 a2 a3 a4 μ
set_option maxHeartbeats 4000000 in
set_option maxRecDepth 100000 in
theorem t_X12_putParts (l : Launch) (G : Gt) (ad : Nat → Nat) (a1 : Nat) (q1 : (sh 1 a1).1 = 1) (a2 : Nat) (q2 : (sh 1 a2).1 = 1) (a3 : Int32) (a4 : Int32) (μ : Mem) {μz : Mem} (h : p_X12_putParts a1 a2 a3 a4 μ = some μz) : Mt l yX12_putParts cX12_putParts 8 none ({ frames := 3, cells := 0, slots := 0, locals := 70 } : Room) G [.ref (ad 0), .ref (ad a1), .ref (ad a2), .int a3, .int a4] (wd 1 G ad μ) (eV 1 G ad μz) := by
  refine Bk.mt (by decide) rfl (Nat.le_of_ble_eq_true rfl) ?_
  intro p e s m below meth c A ls H locs cx hr hlk hA hl hw
  have hx := cx.1
  have hb := cx.2.1
  have hl : lv_has ls 8 [(0, .ref (ad 0)), (1, .ref (ad a1)), (2, .ref (ad a2)), (3, .int a3), (4, .int a4)] := hl
  rw [p_X12_putParts_eq] at h
  refine lv_iconst (v := 0) hx hb dX12_putParts_0 (by decide) ?_
  refine lv_istore (lv' := [(5, .int 0), (0, .ref (ad 0)), (1, .ref (ad a1)), (2, .ref (ad a2)), (3, .int a3), (4, .int a4)]) hx hb dX12_putParts_1 hl (by decide) rfl (fun ls hl => ?_)
  refine lv_iload_n hx hb dX12_putParts_3 rfl (lv_at hl 4 rfl) ?_
  refine lv_istore (lv' := [(6, .int a3), (5, .int 0), (0, .ref (ad 0)), (1, .ref (ad a1)), (2, .ref (ad a2)), (3, .int a3), (4, .int a4)]) hx hb dX12_putParts_4 hl (by decide) rfl (fun ls hl => ?_)
  exact t_X12_putParts_b6 l G ad _  FUEL a1 (sh_f (sh_k q1)) a2 (sh_f (sh_k q2)) a3 a4 (0 : Int32) a3 μ h p e s m below meth c A ls H locs cx hr hlk hA (lv_sub hl [2, 3, 4, 5, 6, 1, 0] rfl) hw

theorem p_X12_value_ex : ∃ f : Mem → Option (Int32 × Mem), ∀  (μ : Mem), f  μ = (if (μ.1 0 133) = (0 : Int32) then some ((-1 : Int32), μ) else bv (sF μ 0 139 (0 : Int32)) (fun μ2 => bw (p_X12_putParts 82 83 (0 : Int32) (μ2.1 0 133) μ2) (fun μ3 => some ((μ3.1 0 139), μ3)))) := ⟨fun  (μ : Mem) => (if (μ.1 0 133) = (0 : Int32) then some ((-1 : Int32), μ) else bv (sF μ 0 139 (0 : Int32)) (fun μ2 => bw (p_X12_putParts 82 83 (0 : Int32) (μ2.1 0 133) μ2) (fun μ3 => some ((μ3.1 0 139), μ3)))), fun _ => rfl⟩
noncomputable def p_X12_value : Mem → Option (Int32 × Mem) := Classical.choose p_X12_value_ex
theorem p_X12_value_eq  (μ : Mem) : p_X12_value  μ = (if (μ.1 0 133) = (0 : Int32) then some ((-1 : Int32), μ) else bv (sF μ 0 139 (0 : Int32)) (fun μ2 => bw (p_X12_putParts 82 83 (0 : Int32) (μ2.1 0 133) μ2) (fun μ3 => some ((μ3.1 0 139), μ3)))) := Classical.choose_spec p_X12_value_ex  μ
set_option maxHeartbeats 4000000 in
set_option maxRecDepth 100000 in
theorem t_X12_value (l : Launch) (G : Gt) (ad : Nat → Nat)  (μ : Mem) {r : Int32} {μz : Mem} (h : p_X12_value  μ = some (r, μz)) : Mt l yX12_value cX12_value 1 (some .int) ({ frames := 4, cells := 0, slots := 0, locals := 97 } : Room) G [.ref (ad 0)] (wd 1 G ad μ) (eI 1 G ad r μz) := by
  refine Bk.mt (by decide) rfl (Nat.le_of_ble_eq_true rfl) ?_
  intro p e s m below meth c A ls H locs cx hr hlk hA hl hw
  have hx := cx.1
  have hb := cx.2.1
  have hl : lv_has ls 1 [(0, .ref (ad 0))] := hl
  rw [p_X12_value_eq] at h
  refine lv_aload_n hx hb dX12_value_0 rfl (lv_at hl 0 rfl) ?_
  refine g_get cx hw inX12 (ci := 11) rfl 133 (by decide) rfl (v := .int (μ.1 0 133)) shm_0 rfl fl_X12_848 dX12_value_1 ?_
  refine lv_if_ne (tgt := 9) hx hb dX12_value_4 (by decide) (fun c1 => ?_) (fun c1 => ?_)
  · rw [if_neg c1] at h
    refine lv_aload_n hx hb dX12_value_9 rfl (lv_at hl 0 rfl) ?_
    refine lv_iconst (v := 0) hx hb dX12_value_10 (by decide) ?_
    refine g_put cx hw inX12 (ci := 11) rfl tyX12_ok nmX12 139 (by decide) rfl rfl rfl rfl shm_0 h fl_X12_859 dX12_value_11 (fun μ2 H locs h hw => ?_)
    refine lv_aload_n hx hb dX12_value_14 rfl (lv_at hl 0 rfl) ?_
    refine lv_aload_n hx hb dX12_value_15 rfl (lv_at hl 0 rfl) ?_
    refine g_get cx hw inX12 (ci := 11) rfl 130 (by decide) rfl (v := .ref (ad 82)) shm_0 rfl fl_X12_262 dX12_value_16 ?_
    refine lv_aload_n hx hb dX12_value_19 rfl (lv_at hl 0 rfl) ?_
    refine g_get cx hw inX12 (ci := 11) rfl 131 (by decide) rfl (v := .ref (ad 83)) shm_0 rfl fl_X12_265 dX12_value_20 ?_
    refine lv_iconst (v := 0) hx hb dX12_value_23 (by decide) ?_
    refine lv_aload_n hx hb dX12_value_24 rfl (lv_at hl 0 rfl) ?_
    refine g_get cx hw inX12 (ci := 11) rfl 133 (by decide) rfl (v := .int (μ2.1 0 133)) shm_0 rfl fl_X12_848 dX12_value_25 ?_
    obtain ⟨μ3, gμ3, h⟩ := bw_some h
    refine g_callVV (As := [.ref (ad 82), .ref (ad 83), .int 0, .int (μ2.1 0 133)]) (rest := []) cx hw hA (t_X12_putParts l G ad 82 (sh_f shm_82) 83 (sh_f shm_83) (0 : Int32) (μ2.1 0 133) μ2 gμ3) shm_0 rfl ml_X12_877 im_X12_putParts se_X12_putParts in_X12 co_X12_putParts rfl hd_X12_putParts rfl ⟨(Nat.le_of_ble_eq_true rfl), (Nat.le_of_ble_eq_true rfl)⟩ hl.1 rfl (Nat.le_of_ble_eq_true rfl) dX12_value_28 ⟨rfl, rfl⟩ (fun H locs hw => ?_)
    refine lv_aload_n hx hb dX12_value_31 rfl (lv_at hl 0 rfl) ?_
    refine g_get cx hw inX12 (ci := 11) rfl 139 (by decide) rfl (v := .int (μ3.1 0 139)) shm_0 rfl fl_X12_859 dX12_value_32 ?_
    exact g_iret cx hr hlk hw h dX12_value_35
  · rw [if_pos c1] at h
    refine lv_iconst (v := (-1)) hx hb dX12_value_7 (by decide) ?_
    exact g_iret cx hr hlk hw h dX12_value_8

theorem p_X12_putOperand_ex : ∃ f : Int32 → Mem → Option Mem, ∀ (a1 : Int32) (μ : Mem), f a1 μ = gd (inb a1 4200) (gd (inb a1 4200) (bw (p_X12_putOne (μ.1 53 a1.toNatClampNeg) (μ.1 54 a1.toNatClampNeg) μ) (fun μ1 => some μ1))) := ⟨fun (a1 : Int32) (μ : Mem) => gd (inb a1 4200) (gd (inb a1 4200) (bw (p_X12_putOne (μ.1 53 a1.toNatClampNeg) (μ.1 54 a1.toNatClampNeg) μ) (fun μ1 => some μ1))), fun _ _ => rfl⟩
noncomputable def p_X12_putOperand : Int32 → Mem → Option Mem := Classical.choose p_X12_putOperand_ex
theorem p_X12_putOperand_eq (a1 : Int32) (μ : Mem) : p_X12_putOperand a1 μ = gd (inb a1 4200) (gd (inb a1 4200) (bw (p_X12_putOne (μ.1 53 a1.toNatClampNeg) (μ.1 54 a1.toNatClampNeg) μ) (fun μ1 => some μ1))) := Classical.choose_spec p_X12_putOperand_ex a1 μ
set_option maxHeartbeats 4000000 in
set_option maxRecDepth 100000 in
theorem t_X12_putOperand (l : Launch) (G : Gt) (ad : Nat → Nat) (a1 : Int32) (μ : Mem) {μz : Mem} (h : p_X12_putOperand a1 μ = some μz) : Mt l yX12_putOperand cX12_putOperand 2 none ({ frames := 3, cells := 0, slots := 0, locals := 70 } : Room) G [.ref (ad 0), .int a1] (wd 1 G ad μ) (eV 1 G ad μz) := by
  refine Bk.mt (by decide) rfl (Nat.le_of_ble_eq_true rfl) ?_
  intro p e s m below meth c A ls H locs cx hr hlk hA hl hw
  have hx := cx.1
  have hb := cx.2.1
  have hl : lv_has ls 2 [(0, .ref (ad 0)), (1, .int a1)] := hl
  rw [p_X12_putOperand_eq] at h
  refine lv_aload_n hx hb dX12_putOperand_0 rfl (lv_at hl 0 rfl) ?_
  refine lv_aload_n hx hb dX12_putOperand_1 rfl (lv_at hl 0 rfl) ?_
  refine g_get cx hw inX12 (ci := 11) rfl 85 (by decide) rfl (v := .ref (ad 53)) shm_0 rfl fl_X12_175 dX12_putOperand_2 ?_
  refine lv_iload_n hx hb dX12_putOperand_5 rfl (lv_at hl 1 rfl) ?_
  refine g_iald cx hw shm_53 h dX12_putOperand_6 (fun h => ?_)
  refine lv_aload_n hx hb dX12_putOperand_7 rfl (lv_at hl 0 rfl) ?_
  refine g_get cx hw inX12 (ci := 11) rfl 86 (by decide) rfl (v := .ref (ad 54)) shm_0 rfl fl_X12_178 dX12_putOperand_8 ?_
  refine lv_iload_n hx hb dX12_putOperand_11 rfl (lv_at hl 1 rfl) ?_
  refine g_iald cx hw shm_54 h dX12_putOperand_12 (fun h => ?_)
  obtain ⟨μ1, gμ1, h⟩ := bw_some h
  refine g_callVV (As := [.int (μ.1 53 a1.toNatClampNeg), .int (μ.1 54 a1.toNatClampNeg)]) (rest := []) cx hw hA (t_X12_putOne l G ad (μ.1 53 a1.toNatClampNeg) (μ.1 54 a1.toNatClampNeg) μ gμ1) shm_0 rfl ml_X12_874 im_X12_putOne se_X12_putOne in_X12 co_X12_putOne rfl hd_X12_putOne rfl ⟨(Nat.le_of_ble_eq_true rfl), (Nat.le_of_ble_eq_true rfl)⟩ hl.1 rfl (Nat.le_of_ble_eq_true rfl) dX12_putOperand_13 ⟨rfl, rfl⟩ (fun H locs hw => ?_)
  exact g_vret cx hr hlk hw h dX12_putOperand_16

theorem s_X12_signOfOne_ex : ∃ f : Int32 → Int32, ∀ (a0 : Int32), f a0 = (if a0 = (0 : Int32) then (36 : Int32) else (if a0 = (1 : Int32) then (94 : Int32) else (if a0 = (2 : Int32) then (35 : Int32) else (if a0 = (3 : Int32) then (64 : Int32) else (126 : Int32))))) := ⟨fun (a0 : Int32) => (if a0 = (0 : Int32) then (36 : Int32) else (if a0 = (1 : Int32) then (94 : Int32) else (if a0 = (2 : Int32) then (35 : Int32) else (if a0 = (3 : Int32) then (64 : Int32) else (126 : Int32))))), fun _ => rfl⟩
noncomputable def s_X12_signOfOne : Int32 → Int32 := Classical.choose s_X12_signOfOne_ex
theorem s_X12_signOfOne_eq (a0 : Int32) : s_X12_signOfOne a0 = (if a0 = (0 : Int32) then (36 : Int32) else (if a0 = (1 : Int32) then (94 : Int32) else (if a0 = (2 : Int32) then (35 : Int32) else (if a0 = (3 : Int32) then (64 : Int32) else (126 : Int32))))) := Classical.choose_spec s_X12_signOfOne_ex a0
set_option maxHeartbeats 4000000 in
set_option maxRecDepth 100000 in
theorem t_X12_signOfOne (l : Launch) (G : Gt) (a0 : Int32) : Mt l yX12_signOfOne cX12_signOfOne 1 (some .int) ({ frames := 0, cells := 0, slots := 0, locals := 0 } : Room) G [.int a0] [] (sI G (s_X12_signOfOne a0)) := by
  obtain ⟨r, h⟩ : ∃ r, s_X12_signOfOne a0 = r := ⟨_, rfl⟩
  rw [h]
  refine Bk.mt (by decide) rfl (Nat.le_of_ble_eq_true rfl) ?_
  intro p e s m below meth c A ls H locs cx hr hlk hA hl hw
  have hx := cx.1
  have hb := cx.2.1
  have hl : lv_has ls 1 [(0, .int a0)] := hl
  rw [s_X12_signOfOne_eq] at h
  refine lv_iload_n hx hb dX12_signOfOne_0 rfl (lv_at hl 0 rfl) ?_
  refine lv_if_ne (tgt := 9) hx hb dX12_signOfOne_1 (by decide) (fun c1 => ?_) (fun c1 => ?_)
  · rw [if_neg c1] at h
    refine lv_iload_n hx hb dX12_signOfOne_9 rfl (lv_at hl 0 rfl) ?_
    refine lv_iconst (v := 1) hx hb dX12_signOfOne_10 (by decide) ?_
    refine lv_icmp_ne (tgt := 19) hx hb dX12_signOfOne_11 (by decide) (fun c2 => ?_) (fun c2 => ?_)
    · rw [if_neg c2] at h
      refine lv_iload_n hx hb dX12_signOfOne_19 rfl (lv_at hl 0 rfl) ?_
      refine lv_iconst (v := 2) hx hb dX12_signOfOne_20 (by decide) ?_
      refine lv_icmp_ne (tgt := 29) hx hb dX12_signOfOne_21 (by decide) (fun c3 => ?_) (fun c3 => ?_)
      · rw [if_neg c3] at h
        refine lv_iload_n hx hb dX12_signOfOne_29 rfl (lv_at hl 0 rfl) ?_
        refine lv_iconst (v := 3) hx hb dX12_signOfOne_30 (by decide) ?_
        refine lv_icmp_ne (tgt := 39) hx hb dX12_signOfOne_31 (by decide) (fun c4 => ?_) (fun c4 => ?_)
        · rw [if_neg c4] at h
          refine lv_bipush (v := 126) hx hb dX12_signOfOne_39 (by decide) ?_
          exact s_iret cx hr hlk hw h dX12_signOfOne_41
        · rw [if_pos c4] at h
          refine lv_bipush (v := 64) hx hb dX12_signOfOne_34 (by decide) ?_
          refine lv_goto (tgt := 41) hx hb dX12_signOfOne_36 (by decide) ?_
          exact s_iret cx hr hlk hw h dX12_signOfOne_41
      · rw [if_pos c3] at h
        refine lv_bipush (v := 35) hx hb dX12_signOfOne_24 (by decide) ?_
        refine lv_goto (tgt := 41) hx hb dX12_signOfOne_26 (by decide) ?_
        exact s_iret cx hr hlk hw h dX12_signOfOne_41
    · rw [if_pos c2] at h
      refine lv_bipush (v := 94) hx hb dX12_signOfOne_14 (by decide) ?_
      refine lv_goto (tgt := 41) hx hb dX12_signOfOne_16 (by decide) ?_
      exact s_iret cx hr hlk hw h dX12_signOfOne_41
  · rw [if_pos c1] at h
    refine lv_bipush (v := 36) hx hb dX12_signOfOne_4 (by decide) ?_
    refine lv_goto (tgt := 41) hx hb dX12_signOfOne_6 (by decide) ?_
    exact s_iret cx hr hlk hw h dX12_signOfOne_41

theorem p_X12_putList_b64_ex : ∃ f : (Int32 → Int32 → Int32 → Int32 → Mem → Option Mem) → Int32 → Int32 → Int32 → Int32 → Mem → Option Mem, ∀ (K42 : Int32 → Int32 → Int32 → Int32 → Mem → Option Mem) (a1 : Int32) (a2 : Int32) (a3 : Int32) (a4 : Int32) (μ : Mem), f K42 a1 a2 a3 a4 μ = bw (p_X12_putOperand (a3 + a4) μ) (fun μ12 => bv (a4 + 1) (fun v14 => K42 a1 a2 a3 v14 μ12)) := ⟨fun (K42 : Int32 → Int32 → Int32 → Int32 → Mem → Option Mem) (a1 : Int32) (a2 : Int32) (a3 : Int32) (a4 : Int32) (μ : Mem) => bw (p_X12_putOperand (a3 + a4) μ) (fun μ12 => bv (a4 + 1) (fun v14 => K42 a1 a2 a3 v14 μ12)), fun _ _ _ _ _ _ => rfl⟩
noncomputable def p_X12_putList_b64 : (Int32 → Int32 → Int32 → Int32 → Mem → Option Mem) → Int32 → Int32 → Int32 → Int32 → Mem → Option Mem := Classical.choose p_X12_putList_b64_ex
theorem p_X12_putList_b64_eq (K42 : Int32 → Int32 → Int32 → Int32 → Mem → Option Mem) (a1 : Int32) (a2 : Int32) (a3 : Int32) (a4 : Int32) (μ : Mem) : p_X12_putList_b64 K42 a1 a2 a3 a4 μ = bw (p_X12_putOperand (a3 + a4) μ) (fun μ12 => bv (a4 + 1) (fun v14 => K42 a1 a2 a3 v14 μ12)) := Classical.choose_spec p_X12_putList_b64_ex K42 a1 a2 a3 a4 μ
set_option maxHeartbeats 4000000 in
set_option maxRecDepth 100000 in
theorem t_X12_putList_b64 (l : Launch) (G : Gt) (ad : Nat → Nat) (av : List Value) {μz : Mem} (K42 : Int32 → Int32 → Int32 → Int32 → Mem → Option Mem) (hK42 : ∀ (z1 : Int32) (z2 : Int32) (z3 : Int32) (z4 : Int32) (μ1 : Mem), K42 z1 z2 z3 z4 μ1 = some μz → Bk l cX12_putList 5 RX12 none ({ frames := 4, cells := 0, slots := 0, locals := 91 } : Room) G av (eV 1 G ad μz) (wd 1 G ad μ1) 42 [(0, .ref (ad 0)), (1, .int z1), (2, .int z2), (3, .int z3), (4, .int z4)] []) (a1 : Int32) (a2 : Int32) (a3 : Int32) (a4 : Int32) (μ : Mem) (h : p_X12_putList_b64 K42 a1 a2 a3 a4 μ = some μz) : Bk l cX12_putList 5 RX12 none ({ frames := 4, cells := 0, slots := 0, locals := 91 } : Room) G av (eV 1 G ad μz) (wd 1 G ad μ) 64 [(0, .ref (ad 0)), (1, .int a1), (2, .int a2), (3, .int a3), (4, .int a4)] [] := by
  intro p e s m below meth c A ls H locs cx hr hlk hA hl hw
  have hx := cx.1
  have hb := cx.2.1
  rw [p_X12_putList_b64_eq] at h
  refine lv_aload_n hx hb dX12_putList_64 rfl (lv_at hl 0 rfl) ?_
  refine lv_iload_n hx hb dX12_putList_65 rfl (lv_at hl 3 rfl) ?_
  refine lv_iload hx hb dX12_putList_66 (lv_at hl 4 rfl) ?_
  refine lv_iadd hx hb dX12_putList_68 ?_
  obtain ⟨μ12, gμ12, h⟩ := bw_some h
  refine g_callVV (As := [.int (a3 + a4)]) (rest := []) cx hw hA (t_X12_putOperand l G ad (a3 + a4) μ gμ12) shm_0 rfl ml_X12_881 im_X12_putOperand se_X12_putOperand in_X12 co_X12_putOperand rfl hd_X12_putOperand rfl ⟨(Nat.le_of_ble_eq_true rfl), (Nat.le_of_ble_eq_true rfl)⟩ hl.1 rfl (Nat.le_of_ble_eq_true rfl) dX12_putList_69 ⟨rfl, rfl⟩ (fun H locs hw => ?_)
  obtain ⟨v14, ev14, h⟩ := bv_ex h
  refine lv_iinc (v := v14) (lv' := [(4, .int v14), (0, .ref (ad 0)), (1, .int a1), (2, .int a2), (3, .int a3)]) hx hb dX12_putList_72 hl (k := 4) rfl (by rw [ev14]; rfl) (by decide) rfl (fun ls hl => ?_)
  refine lv_goto (tgt := 42) hx hb dX12_putList_75 (by decide) ?_
  exact hK42 a1 a2 a3 v14 μ12 h p e s m below meth c A ls H locs cx hr hlk hA (lv_sub hl [1, 2, 3, 4, 0] rfl) hw
theorem p_X12_putList_b42_ex : ∃ f : Nat → Int32 → Int32 → Int32 → Int32 → Mem → Option Mem, (∀ (a1 : Int32) (a2 : Int32) (a3 : Int32) (a4 : Int32) (μ : Mem), f  0 a1 a2 a3 a4 μ = none) ∧ (∀ (n : Nat) (a1 : Int32) (a2 : Int32) (a3 : Int32) (a4 : Int32) (μ : Mem), f  (n + 1) a1 a2 a3 a4 μ = gd (inb a1 960) ((if (μ.1 52 a1.toNatClampNeg) ≤ a4 then (if a2 = (10 : Int32) then bw (p_X12_put (93 : Int32) μ) (fun μ9 => some μ9) else bw (p_X12_put (41 : Int32) μ) (fun μ7 => some μ7)) else (if a4 ≤ (0 : Int32) then p_X12_putList_b64 (f n) a1 a2 a3 a4 μ else bw (p_X12_put (44 : Int32) μ) (fun μ15 => p_X12_putList_b64 (f n) a1 a2 a3 a4 μ15))))) := ⟨fun n => Nat.rec (fun (a1 : Int32) (a2 : Int32) (a3 : Int32) (a4 : Int32) (μ : Mem) => none) (fun _ ih => fun (a1 : Int32) (a2 : Int32) (a3 : Int32) (a4 : Int32) (μ : Mem) => gd (inb a1 960) ((if (μ.1 52 a1.toNatClampNeg) ≤ a4 then (if a2 = (10 : Int32) then bw (p_X12_put (93 : Int32) μ) (fun μ9 => some μ9) else bw (p_X12_put (41 : Int32) μ) (fun μ7 => some μ7)) else (if a4 ≤ (0 : Int32) then p_X12_putList_b64 (ih) a1 a2 a3 a4 μ else bw (p_X12_put (44 : Int32) μ) (fun μ15 => p_X12_putList_b64 (ih) a1 a2 a3 a4 μ15))))) n, fun  _ _ _ _ _ => rfl, fun  _ _ _ _ _ _ => rfl⟩
noncomputable def p_X12_putList_b42 : Nat → Int32 → Int32 → Int32 → Int32 → Mem → Option Mem := Classical.choose p_X12_putList_b42_ex
theorem p_X12_putList_b42_z (a1 : Int32) (a2 : Int32) (a3 : Int32) (a4 : Int32) (μ : Mem) : p_X12_putList_b42  0 a1 a2 a3 a4 μ = none := (Classical.choose_spec p_X12_putList_b42_ex).1  a1 a2 a3 a4 μ
theorem p_X12_putList_b42_s (n : Nat) (a1 : Int32) (a2 : Int32) (a3 : Int32) (a4 : Int32) (μ : Mem) : p_X12_putList_b42  (n + 1) a1 a2 a3 a4 μ = gd (inb a1 960) ((if (μ.1 52 a1.toNatClampNeg) ≤ a4 then (if a2 = (10 : Int32) then bw (p_X12_put (93 : Int32) μ) (fun μ9 => some μ9) else bw (p_X12_put (41 : Int32) μ) (fun μ7 => some μ7)) else (if a4 ≤ (0 : Int32) then p_X12_putList_b64 (p_X12_putList_b42  n) a1 a2 a3 a4 μ else bw (p_X12_put (44 : Int32) μ) (fun μ15 => p_X12_putList_b64 (p_X12_putList_b42  n) a1 a2 a3 a4 μ15)))) := (Classical.choose_spec p_X12_putList_b42_ex).2  n a1 a2 a3 a4 μ
set_option maxHeartbeats 4000000 in
set_option maxRecDepth 100000 in
theorem t_X12_putList_b42 (l : Launch) (G : Gt) (ad : Nat → Nat) (av : List Value) {μz : Mem} : ∀ (n : Nat) (a1 : Int32) (a2 : Int32) (a3 : Int32) (a4 : Int32) (μ : Mem), p_X12_putList_b42  n a1 a2 a3 a4 μ = some μz → Bk l cX12_putList 5 RX12 none ({ frames := 4, cells := 0, slots := 0, locals := 91 } : Room) G av (eV 1 G ad μz) (wd 1 G ad μ) 42 [(0, .ref (ad 0)), (1, .int a1), (2, .int a2), (3, .int a3), (4, .int a4)] [] := by
  intro n
  induction n with
  | zero => intro a1 a2 a3 a4 μ h; rw [p_X12_putList_b42_z] at h; cases h
  | succ n ih =>
    intro a1 a2 a3 a4 μ h p e s m below meth c A ls H locs cx hr hlk hA hl hw
    have hx := cx.1
    have hb := cx.2.1
    rw [p_X12_putList_b42_s] at h
    refine lv_iload hx hb dX12_putList_42 (lv_at hl 4 rfl) ?_
    refine lv_aload_n hx hb dX12_putList_44 rfl (lv_at hl 0 rfl) ?_
    refine g_get cx hw inX12 (ci := 11) rfl 84 (by decide) rfl (v := .ref (ad 52)) shm_0 rfl fl_X12_172 dX12_putList_45 ?_
    refine lv_iload_n hx hb dX12_putList_48 rfl (lv_at hl 1 rfl) ?_
    refine g_iald cx hw shm_52 h dX12_putList_49 (fun h => ?_)
    refine lv_icmp_ge (tgt := 78) hx hb dX12_putList_50 (by decide) (fun c5 => ?_) (fun c5 => ?_)
    · rw [if_pos c5] at h
      refine lv_aload_n hx hb dX12_putList_78 rfl (lv_at hl 0 rfl) ?_
      refine lv_iload_n hx hb dX12_putList_79 rfl (lv_at hl 2 rfl) ?_
      refine lv_bipush (v := 10) hx hb dX12_putList_80 (by decide) ?_
      refine lv_icmp_ne (tgt := 90) hx hb dX12_putList_82 (by decide) (fun c6 => ?_) (fun c6 => ?_)
      · rw [if_neg c6] at h
        refine lv_bipush (v := 41) hx hb dX12_putList_90 (by decide) ?_
        obtain ⟨μ7, gμ7, h⟩ := bw_some h
        refine g_callVV (As := [.int 41]) (rest := []) cx hw hA (t_X12_put l G ad (41 : Int32) μ gμ7) shm_0 rfl ml_X12_862 im_X12_put se_X12_put in_X12 co_X12_put rfl hd_X12_put rfl ⟨(Nat.le_of_ble_eq_true rfl), (Nat.le_of_ble_eq_true rfl)⟩ hl.1 rfl (Nat.le_of_ble_eq_true rfl) dX12_putList_92 ⟨rfl, rfl⟩ (fun H locs hw => ?_)
        exact g_vret cx hr hlk hw h dX12_putList_95
      · rw [if_pos c6] at h
        refine lv_bipush (v := 93) hx hb dX12_putList_85 (by decide) ?_
        refine lv_goto (tgt := 92) hx hb dX12_putList_87 (by decide) ?_
        obtain ⟨μ9, gμ9, h⟩ := bw_some h
        refine g_callVV (As := [.int 93]) (rest := []) cx hw hA (t_X12_put l G ad (93 : Int32) μ gμ9) shm_0 rfl ml_X12_862 im_X12_put se_X12_put in_X12 co_X12_put rfl hd_X12_put rfl ⟨(Nat.le_of_ble_eq_true rfl), (Nat.le_of_ble_eq_true rfl)⟩ hl.1 rfl (Nat.le_of_ble_eq_true rfl) dX12_putList_92 ⟨rfl, rfl⟩ (fun H locs hw => ?_)
        exact g_vret cx hr hlk hw h dX12_putList_95
    · rw [if_neg c5] at h
      refine lv_iload hx hb dX12_putList_53 (lv_at hl 4 rfl) ?_
      refine lv_if_le (tgt := 64) hx hb dX12_putList_55 (by decide) (fun c11 => ?_) (fun c11 => ?_)
      · rw [if_pos c11] at h
        exact t_X12_putList_b64 l G ad av _ ih a1 a2 a3 a4 μ h p e s m below meth c A ls H locs cx hr hlk hA (lv_sub hl [0, 1, 2, 3, 4] rfl) hw
      · rw [if_neg c11] at h
        refine lv_aload_n hx hb dX12_putList_58 rfl (lv_at hl 0 rfl) ?_
        refine lv_bipush (v := 44) hx hb dX12_putList_59 (by decide) ?_
        obtain ⟨μ15, gμ15, h⟩ := bw_some h
        refine g_callVV (As := [.int 44]) (rest := []) cx hw hA (t_X12_put l G ad (44 : Int32) μ gμ15) shm_0 rfl ml_X12_862 im_X12_put se_X12_put in_X12 co_X12_put rfl hd_X12_put rfl ⟨(Nat.le_of_ble_eq_true rfl), (Nat.le_of_ble_eq_true rfl)⟩ hl.1 rfl (Nat.le_of_ble_eq_true rfl) dX12_putList_61 ⟨rfl, rfl⟩ (fun H locs hw => ?_)
        exact t_X12_putList_b64 l G ad av _ ih a1 a2 a3 a4 μ15 h p e s m below meth c A ls H locs cx hr hlk hA (lv_sub hl [0, 1, 2, 3, 4] rfl) hw
theorem p_X12_putList_b36_ex : ∃ f : Int32 → Int32 → Int32 → Int32 → Mem → Option Mem, ∀ (a1 : Int32) (a2 : Int32) (a3 : Int32) (k0 : Int32) (μ : Mem), f a1 a2 a3 k0 μ = bw (p_X12_put k0 μ) (fun μ3 => p_X12_putList_b42  FUEL a1 a2 a3 (0 : Int32) μ3) := ⟨fun (a1 : Int32) (a2 : Int32) (a3 : Int32) (k0 : Int32) (μ : Mem) => bw (p_X12_put k0 μ) (fun μ3 => p_X12_putList_b42  FUEL a1 a2 a3 (0 : Int32) μ3), fun _ _ _ _ _ => rfl⟩
noncomputable def p_X12_putList_b36 : Int32 → Int32 → Int32 → Int32 → Mem → Option Mem := Classical.choose p_X12_putList_b36_ex
theorem p_X12_putList_b36_eq (a1 : Int32) (a2 : Int32) (a3 : Int32) (k0 : Int32) (μ : Mem) : p_X12_putList_b36 a1 a2 a3 k0 μ = bw (p_X12_put k0 μ) (fun μ3 => p_X12_putList_b42  FUEL a1 a2 a3 (0 : Int32) μ3) := Classical.choose_spec p_X12_putList_b36_ex a1 a2 a3 k0 μ
set_option maxHeartbeats 4000000 in
set_option maxRecDepth 100000 in
theorem t_X12_putList_b36 (l : Launch) (G : Gt) (ad : Nat → Nat) (av : List Value) {μz : Mem} (a1 : Int32) (a2 : Int32) (a3 : Int32) (k0 : Int32) (μ : Mem) (h : p_X12_putList_b36  a1 a2 a3 k0 μ = some μz) : Bk l cX12_putList 5 RX12 none ({ frames := 4, cells := 0, slots := 0, locals := 91 } : Room) G av (eV 1 G ad μz) (wd 1 G ad μ) 36 [(0, .ref (ad 0)), (1, .int a1), (2, .int a2), (3, .int a3)] [.int k0, .ref (ad 0)] := by
  intro p e s m below meth c A ls H locs cx hr hlk hA hl hw
  have hx := cx.1
  have hb := cx.2.1
  rw [p_X12_putList_b36_eq] at h
  obtain ⟨μ3, gμ3, h⟩ := bw_some h
  refine g_callVV (As := [.int k0]) (rest := []) cx hw hA (t_X12_put l G ad k0 μ gμ3) shm_0 rfl ml_X12_862 im_X12_put se_X12_put in_X12 co_X12_put rfl hd_X12_put rfl ⟨(Nat.le_of_ble_eq_true rfl), (Nat.le_of_ble_eq_true rfl)⟩ hl.1 rfl (Nat.le_of_ble_eq_true rfl) dX12_putList_36 ⟨rfl, rfl⟩ (fun H locs hw => ?_)
  refine lv_iconst (v := 0) hx hb dX12_putList_39 (by decide) ?_
  refine lv_istore (lv' := [(4, .int 0), (0, .ref (ad 0)), (1, .int a1), (2, .int a2), (3, .int a3)]) hx hb dX12_putList_40 hl (by decide) rfl (fun ls hl => ?_)
  exact t_X12_putList_b42 l G ad av  FUEL a1 a2 a3 (0 : Int32) μ3 h p e s m below meth c A ls H locs cx hr hlk hA (lv_sub hl [1, 2, 3, 4, 0] rfl) hw
theorem p_X12_putList_b22_ex : ∃ f : Int32 → Int32 → Int32 → Mem → Option Mem, ∀ (a1 : Int32) (a2 : Int32) (a3 : Int32) (μ : Mem), f a1 a2 a3 μ = (if a2 = (10 : Int32) then p_X12_putList_b36  a1 a2 a3 (91 : Int32) μ else p_X12_putList_b36  a1 a2 a3 (40 : Int32) μ) := ⟨fun (a1 : Int32) (a2 : Int32) (a3 : Int32) (μ : Mem) => (if a2 = (10 : Int32) then p_X12_putList_b36  a1 a2 a3 (91 : Int32) μ else p_X12_putList_b36  a1 a2 a3 (40 : Int32) μ), fun _ _ _ _ => rfl⟩
noncomputable def p_X12_putList_b22 : Int32 → Int32 → Int32 → Mem → Option Mem := Classical.choose p_X12_putList_b22_ex
theorem p_X12_putList_b22_eq (a1 : Int32) (a2 : Int32) (a3 : Int32) (μ : Mem) : p_X12_putList_b22 a1 a2 a3 μ = (if a2 = (10 : Int32) then p_X12_putList_b36  a1 a2 a3 (91 : Int32) μ else p_X12_putList_b36  a1 a2 a3 (40 : Int32) μ) := Classical.choose_spec p_X12_putList_b22_ex a1 a2 a3 μ
set_option maxHeartbeats 4000000 in
set_option maxRecDepth 100000 in
theorem t_X12_putList_b22 (l : Launch) (G : Gt) (ad : Nat → Nat) (av : List Value) {μz : Mem} (a1 : Int32) (a2 : Int32) (a3 : Int32) (μ : Mem) (h : p_X12_putList_b22  a1 a2 a3 μ = some μz) : Bk l cX12_putList 5 RX12 none ({ frames := 4, cells := 0, slots := 0, locals := 91 } : Room) G av (eV 1 G ad μz) (wd 1 G ad μ) 22 [(0, .ref (ad 0)), (1, .int a1), (2, .int a2), (3, .int a3)] [] := by
  intro p e s m below meth c A ls H locs cx hr hlk hA hl hw
  have hx := cx.1
  have hb := cx.2.1
  rw [p_X12_putList_b22_eq] at h
  refine lv_aload_n hx hb dX12_putList_22 rfl (lv_at hl 0 rfl) ?_
  refine lv_iload_n hx hb dX12_putList_23 rfl (lv_at hl 2 rfl) ?_
  refine lv_bipush (v := 10) hx hb dX12_putList_24 (by decide) ?_
  refine lv_icmp_ne (tgt := 34) hx hb dX12_putList_26 (by decide) (fun c2 => ?_) (fun c2 => ?_)
  · rw [if_neg c2] at h
    refine lv_bipush (v := 40) hx hb dX12_putList_34 (by decide) ?_
    exact t_X12_putList_b36 l G ad av  a1 a2 a3 (40 : Int32) μ h p e s m below meth c A ls H locs cx hr hlk hA (lv_sub hl [0, 1, 2, 3] rfl) hw
  · rw [if_pos c2] at h
    refine lv_bipush (v := 91) hx hb dX12_putList_29 (by decide) ?_
    refine lv_goto (tgt := 36) hx hb dX12_putList_31 (by decide) ?_
    exact t_X12_putList_b36 l G ad av  a1 a2 a3 (91 : Int32) μ h p e s m below meth c A ls H locs cx hr hlk hA (lv_sub hl [0, 1, 2, 3] rfl) hw
theorem p_X12_putList_ex : ∃ f : Int32 → Int32 → Int32 → Mem → Option Mem, ∀ (a1 : Int32) (a2 : Int32) (a3 : Int32) (μ : Mem), f a1 a2 a3 μ = (if a2 = (11 : Int32) then bw (p_X12_put (99 : Int32) μ) (fun μ17 => gd (inb a1 960) (bw (p_X12_putNumber (μ17.1 48 a1.toNatClampNeg) μ17) (fun μ19 => p_X12_putList_b22  a1 a2 a3 μ19))) else p_X12_putList_b22  a1 a2 a3 μ) := ⟨fun (a1 : Int32) (a2 : Int32) (a3 : Int32) (μ : Mem) => (if a2 = (11 : Int32) then bw (p_X12_put (99 : Int32) μ) (fun μ17 => gd (inb a1 960) (bw (p_X12_putNumber (μ17.1 48 a1.toNatClampNeg) μ17) (fun μ19 => p_X12_putList_b22  a1 a2 a3 μ19))) else p_X12_putList_b22  a1 a2 a3 μ), fun _ _ _ _ => rfl⟩
noncomputable def p_X12_putList : Int32 → Int32 → Int32 → Mem → Option Mem := Classical.choose p_X12_putList_ex
theorem p_X12_putList_eq (a1 : Int32) (a2 : Int32) (a3 : Int32) (μ : Mem) : p_X12_putList a1 a2 a3 μ = (if a2 = (11 : Int32) then bw (p_X12_put (99 : Int32) μ) (fun μ17 => gd (inb a1 960) (bw (p_X12_putNumber (μ17.1 48 a1.toNatClampNeg) μ17) (fun μ19 => p_X12_putList_b22  a1 a2 a3 μ19))) else p_X12_putList_b22  a1 a2 a3 μ) := Classical.choose_spec p_X12_putList_ex a1 a2 a3 μ
set_option maxHeartbeats 4000000 in
set_option maxRecDepth 100000 in
theorem t_X12_putList (l : Launch) (G : Gt) (ad : Nat → Nat) (a1 : Int32) (a2 : Int32) (a3 : Int32) (μ : Mem) {μz : Mem} (h : p_X12_putList a1 a2 a3 μ = some μz) : Mt l yX12_putList cX12_putList 5 none ({ frames := 4, cells := 0, slots := 0, locals := 91 } : Room) G [.ref (ad 0), .int a1, .int a2, .int a3] (wd 1 G ad μ) (eV 1 G ad μz) := by
  refine Bk.mt (by decide) rfl (Nat.le_of_ble_eq_true rfl) ?_
  intro p e s m below meth c A ls H locs cx hr hlk hA hl hw
  have hx := cx.1
  have hb := cx.2.1
  have hl : lv_has ls 5 [(0, .ref (ad 0)), (1, .int a1), (2, .int a2), (3, .int a3)] := hl
  rw [p_X12_putList_eq] at h
  refine lv_iload_n hx hb dX12_putList_0 rfl (lv_at hl 2 rfl) ?_
  refine lv_bipush (v := 11) hx hb dX12_putList_1 (by decide) ?_
  refine lv_icmp_ne (tgt := 22) hx hb dX12_putList_3 (by decide) (fun c1 => ?_) (fun c1 => ?_)
  · rw [if_neg c1] at h
    exact t_X12_putList_b22 l G ad _  a1 a2 a3 μ h p e s m below meth c A ls H locs cx hr hlk hA (lv_sub hl [0, 1, 2, 3] rfl) hw
  · rw [if_pos c1] at h
    refine lv_aload_n hx hb dX12_putList_6 rfl (lv_at hl 0 rfl) ?_
    refine lv_bipush (v := 99) hx hb dX12_putList_7 (by decide) ?_
    obtain ⟨μ17, gμ17, h⟩ := bw_some h
    refine g_callVV (As := [.int 99]) (rest := []) cx hw hA (t_X12_put l G ad (99 : Int32) μ gμ17) shm_0 rfl ml_X12_862 im_X12_put se_X12_put in_X12 co_X12_put rfl hd_X12_put rfl ⟨(Nat.le_of_ble_eq_true rfl), (Nat.le_of_ble_eq_true rfl)⟩ hl.1 rfl (Nat.le_of_ble_eq_true rfl) dX12_putList_9 ⟨rfl, rfl⟩ (fun H locs hw => ?_)
    refine lv_aload_n hx hb dX12_putList_12 rfl (lv_at hl 0 rfl) ?_
    refine lv_aload_n hx hb dX12_putList_13 rfl (lv_at hl 0 rfl) ?_
    refine g_get cx hw inX12 (ci := 11) rfl 80 (by decide) rfl (v := .ref (ad 48)) shm_0 rfl fl_X12_160 dX12_putList_14 ?_
    refine lv_iload_n hx hb dX12_putList_17 rfl (lv_at hl 1 rfl) ?_
    refine g_iald cx hw shm_48 h dX12_putList_18 (fun h => ?_)
    obtain ⟨μ19, gμ19, h⟩ := bw_some h
    refine g_callVV (As := [.int (μ17.1 48 a1.toNatClampNeg)]) (rest := []) cx hw hA (t_X12_putNumber l G ad (μ17.1 48 a1.toNatClampNeg) μ17 gμ19) shm_0 rfl ml_X12_871 im_X12_putNumber se_X12_putNumber in_X12 co_X12_putNumber rfl hd_X12_putNumber rfl ⟨(Nat.le_of_ble_eq_true rfl), (Nat.le_of_ble_eq_true rfl)⟩ hl.1 rfl (Nat.le_of_ble_eq_true rfl) dX12_putList_19 ⟨rfl, rfl⟩ (fun H locs hw => ?_)
    exact t_X12_putList_b22 l G ad _  a1 a2 a3 μ19 h p e s m below meth c A ls H locs cx hr hlk hA (lv_sub hl [0, 1, 2, 3] rfl) hw

theorem p_X12_putRest_b105_ex : ∃ f : Int32 → Int32 → Int32 → Int32 → Mem → Option Mem, ∀ (a1 : Int32) (a2 : Int32) (a3 : Int32) (k0 : Int32) (μ : Mem), f a1 a2 a3 k0 μ = bw (p_X12_put k0 μ) (fun μ11 => gd (inb a1 960) (bw (p_X12_put ((48 : Int32) + (μ11.1 48 a1.toNatClampNeg)) μ11) (fun μ13 => (if a2 = (8 : Int32) then bw (p_X12_putOperand a3 μ13) (fun μ16 => some μ16) else some μ13)))) := ⟨fun (a1 : Int32) (a2 : Int32) (a3 : Int32) (k0 : Int32) (μ : Mem) => bw (p_X12_put k0 μ) (fun μ11 => gd (inb a1 960) (bw (p_X12_put ((48 : Int32) + (μ11.1 48 a1.toNatClampNeg)) μ11) (fun μ13 => (if a2 = (8 : Int32) then bw (p_X12_putOperand a3 μ13) (fun μ16 => some μ16) else some μ13)))), fun _ _ _ _ _ => rfl⟩
noncomputable def p_X12_putRest_b105 : Int32 → Int32 → Int32 → Int32 → Mem → Option Mem := Classical.choose p_X12_putRest_b105_ex
theorem p_X12_putRest_b105_eq (a1 : Int32) (a2 : Int32) (a3 : Int32) (k0 : Int32) (μ : Mem) : p_X12_putRest_b105 a1 a2 a3 k0 μ = bw (p_X12_put k0 μ) (fun μ11 => gd (inb a1 960) (bw (p_X12_put ((48 : Int32) + (μ11.1 48 a1.toNatClampNeg)) μ11) (fun μ13 => (if a2 = (8 : Int32) then bw (p_X12_putOperand a3 μ13) (fun μ16 => some μ16) else some μ13)))) := Classical.choose_spec p_X12_putRest_b105_ex a1 a2 a3 k0 μ
set_option maxHeartbeats 4000000 in
set_option maxRecDepth 100000 in
theorem t_X12_putRest_b105 (l : Launch) (G : Gt) (ad : Nat → Nat) (av : List Value) {μz : Mem} (a1 : Int32) (a2 : Int32) (a3 : Int32) (k0 : Int32) (μ : Mem) (h : p_X12_putRest_b105  a1 a2 a3 k0 μ = some μz) : Bk l cX12_putRest 4 RX12 none ({ frames := 5, cells := 0, slots := 0, locals := 115 } : Room) G av (eV 1 G ad μz) (wd 1 G ad μ) 105 [(0, .ref (ad 0)), (1, .int a1), (2, .int a2), (3, .int a3)] [.int k0, .ref (ad 0)] := by
  intro p e s m below meth c A ls H locs cx hr hlk hA hl hw
  have hx := cx.1
  have hb := cx.2.1
  rw [p_X12_putRest_b105_eq] at h
  obtain ⟨μ11, gμ11, h⟩ := bw_some h
  refine g_callVV (As := [.int k0]) (rest := []) cx hw hA (t_X12_put l G ad k0 μ gμ11) shm_0 rfl ml_X12_862 im_X12_put se_X12_put in_X12 co_X12_put rfl hd_X12_put rfl ⟨(Nat.le_of_ble_eq_true rfl), (Nat.le_of_ble_eq_true rfl)⟩ hl.1 rfl (Nat.le_of_ble_eq_true rfl) dX12_putRest_105 ⟨rfl, rfl⟩ (fun H locs hw => ?_)
  refine lv_aload_n hx hb dX12_putRest_108 rfl (lv_at hl 0 rfl) ?_
  refine lv_bipush (v := 48) hx hb dX12_putRest_109 (by decide) ?_
  refine lv_aload_n hx hb dX12_putRest_111 rfl (lv_at hl 0 rfl) ?_
  refine g_get cx hw inX12 (ci := 11) rfl 80 (by decide) rfl (v := .ref (ad 48)) shm_0 rfl fl_X12_160 dX12_putRest_112 ?_
  refine lv_iload_n hx hb dX12_putRest_115 rfl (lv_at hl 1 rfl) ?_
  refine g_iald cx hw shm_48 h dX12_putRest_116 (fun h => ?_)
  refine lv_iadd hx hb dX12_putRest_117 ?_
  obtain ⟨μ13, gμ13, h⟩ := bw_some h
  refine g_callVV (As := [.int ((48 : Int32) + (μ11.1 48 a1.toNatClampNeg))]) (rest := []) cx hw hA (t_X12_put l G ad ((48 : Int32) + (μ11.1 48 a1.toNatClampNeg)) μ11 gμ13) shm_0 rfl ml_X12_862 im_X12_put se_X12_put in_X12 co_X12_put rfl hd_X12_put rfl ⟨(Nat.le_of_ble_eq_true rfl), (Nat.le_of_ble_eq_true rfl)⟩ hl.1 rfl (Nat.le_of_ble_eq_true rfl) dX12_putRest_118 ⟨rfl, rfl⟩ (fun H locs hw => ?_)
  refine lv_iload_n hx hb dX12_putRest_121 rfl (lv_at hl 2 rfl) ?_
  refine lv_bipush (v := 8) hx hb dX12_putRest_122 (by decide) ?_
  refine lv_icmp_ne (tgt := 157) hx hb dX12_putRest_124 (by decide) (fun c15 => ?_) (fun c15 => ?_)
  · rw [if_neg c15] at h
    exact g_vret cx hr hlk hw h dX12_putRest_157
  · rw [if_pos c15] at h
    refine lv_aload_n hx hb dX12_putRest_127 rfl (lv_at hl 0 rfl) ?_
    refine lv_iload_n hx hb dX12_putRest_128 rfl (lv_at hl 3 rfl) ?_
    obtain ⟨μ16, gμ16, h⟩ := bw_some h
    refine g_callVV (As := [.int a3]) (rest := []) cx hw hA (t_X12_putOperand l G ad a3 μ13 gμ16) shm_0 rfl ml_X12_881 im_X12_putOperand se_X12_putOperand in_X12 co_X12_putOperand rfl hd_X12_putOperand rfl ⟨(Nat.le_of_ble_eq_true rfl), (Nat.le_of_ble_eq_true rfl)⟩ hl.1 rfl (Nat.le_of_ble_eq_true rfl) dX12_putRest_129 ⟨rfl, rfl⟩ (fun H locs hw => ?_)
    refine lv_goto (tgt := 157) hx hb dX12_putRest_132 (by decide) ?_
    exact g_vret cx hr hlk hw h dX12_putRest_157
theorem p_X12_putRest_ex : ∃ f : Int32 → Int32 → Int32 → Mem → Option Mem, ∀ (a1 : Int32) (a2 : Int32) (a3 : Int32) (μ : Mem), f a1 a2 a3 μ = (if a2 = (0 : Int32) then bw (p_X12_put (40 : Int32) μ) (fun μ26 => bw (p_X12_putOperand a3 μ26) (fun μ28 => gd (inb a1 960) (bw (p_X12_put (μ28.1 48 a1.toNatClampNeg) μ28) (fun μ30 => bw (p_X12_putOperand (a3 + (1 : Int32)) μ30) (fun μ32 => bw (p_X12_put (41 : Int32) μ32) (fun μ34 => some μ34)))))) else (if (6 : Int32) ≤ a2 then (if a2 = (7 : Int32) then bw (p_X12_put (33 : Int32) μ) (fun μ18 => bw (p_X12_putOperand a3 μ18) (fun μ20 => some μ20)) else (if (10 : Int32) ≤ a2 then (if a2 = (12 : Int32) then bw (p_X12_put (45 : Int32) μ) (fun μ8 => some μ8) else bw (p_X12_putList a1 a2 a3 μ) (fun μ6 => some μ6)) else (if a2 = (8 : Int32) then p_X12_putRest_b105  a1 a2 a3 (38 : Int32) μ else p_X12_putRest_b105  a1 a2 a3 (95 : Int32) μ))) else bw (p_X12_put (s_X12_signOfOne (a2 - (1 : Int32))) μ) (fun μ22 => bw (p_X12_putOperand a3 μ22) (fun μ24 => some μ24)))) := ⟨fun (a1 : Int32) (a2 : Int32) (a3 : Int32) (μ : Mem) => (if a2 = (0 : Int32) then bw (p_X12_put (40 : Int32) μ) (fun μ26 => bw (p_X12_putOperand a3 μ26) (fun μ28 => gd (inb a1 960) (bw (p_X12_put (μ28.1 48 a1.toNatClampNeg) μ28) (fun μ30 => bw (p_X12_putOperand (a3 + (1 : Int32)) μ30) (fun μ32 => bw (p_X12_put (41 : Int32) μ32) (fun μ34 => some μ34)))))) else (if (6 : Int32) ≤ a2 then (if a2 = (7 : Int32) then bw (p_X12_put (33 : Int32) μ) (fun μ18 => bw (p_X12_putOperand a3 μ18) (fun μ20 => some μ20)) else (if (10 : Int32) ≤ a2 then (if a2 = (12 : Int32) then bw (p_X12_put (45 : Int32) μ) (fun μ8 => some μ8) else bw (p_X12_putList a1 a2 a3 μ) (fun μ6 => some μ6)) else (if a2 = (8 : Int32) then p_X12_putRest_b105  a1 a2 a3 (38 : Int32) μ else p_X12_putRest_b105  a1 a2 a3 (95 : Int32) μ))) else bw (p_X12_put (s_X12_signOfOne (a2 - (1 : Int32))) μ) (fun μ22 => bw (p_X12_putOperand a3 μ22) (fun μ24 => some μ24)))), fun _ _ _ _ => rfl⟩
noncomputable def p_X12_putRest : Int32 → Int32 → Int32 → Mem → Option Mem := Classical.choose p_X12_putRest_ex
theorem p_X12_putRest_eq (a1 : Int32) (a2 : Int32) (a3 : Int32) (μ : Mem) : p_X12_putRest a1 a2 a3 μ = (if a2 = (0 : Int32) then bw (p_X12_put (40 : Int32) μ) (fun μ26 => bw (p_X12_putOperand a3 μ26) (fun μ28 => gd (inb a1 960) (bw (p_X12_put (μ28.1 48 a1.toNatClampNeg) μ28) (fun μ30 => bw (p_X12_putOperand (a3 + (1 : Int32)) μ30) (fun μ32 => bw (p_X12_put (41 : Int32) μ32) (fun μ34 => some μ34)))))) else (if (6 : Int32) ≤ a2 then (if a2 = (7 : Int32) then bw (p_X12_put (33 : Int32) μ) (fun μ18 => bw (p_X12_putOperand a3 μ18) (fun μ20 => some μ20)) else (if (10 : Int32) ≤ a2 then (if a2 = (12 : Int32) then bw (p_X12_put (45 : Int32) μ) (fun μ8 => some μ8) else bw (p_X12_putList a1 a2 a3 μ) (fun μ6 => some μ6)) else (if a2 = (8 : Int32) then p_X12_putRest_b105  a1 a2 a3 (38 : Int32) μ else p_X12_putRest_b105  a1 a2 a3 (95 : Int32) μ))) else bw (p_X12_put (s_X12_signOfOne (a2 - (1 : Int32))) μ) (fun μ22 => bw (p_X12_putOperand a3 μ22) (fun μ24 => some μ24)))) := Classical.choose_spec p_X12_putRest_ex a1 a2 a3 μ
set_option maxHeartbeats 4000000 in
set_option maxRecDepth 100000 in
theorem t_X12_putRest (l : Launch) (G : Gt) (ad : Nat → Nat) (a1 : Int32) (a2 : Int32) (a3 : Int32) (μ : Mem) {μz : Mem} (h : p_X12_putRest a1 a2 a3 μ = some μz) : Mt l yX12_putRest cX12_putRest 4 none ({ frames := 5, cells := 0, slots := 0, locals := 115 } : Room) G [.ref (ad 0), .int a1, .int a2, .int a3] (wd 1 G ad μ) (eV 1 G ad μz) := by
  refine Bk.mt (by decide) rfl (Nat.le_of_ble_eq_true rfl) ?_
  intro p e s m below meth c A ls H locs cx hr hlk hA hl hw
  have hx := cx.1
  have hb := cx.2.1
  have hl : lv_has ls 4 [(0, .ref (ad 0)), (1, .int a1), (2, .int a2), (3, .int a3)] := hl
  rw [p_X12_putRest_eq] at h
  refine lv_iload_n hx hb dX12_putRest_0 rfl (lv_at hl 2 rfl) ?_
  refine lv_if_ne (tgt := 41) hx hb dX12_putRest_1 (by decide) (fun c1 => ?_) (fun c1 => ?_)
  · rw [if_neg c1] at h
    refine lv_iload_n hx hb dX12_putRest_41 rfl (lv_at hl 2 rfl) ?_
    refine lv_bipush (v := 6) hx hb dX12_putRest_42 (by decide) ?_
    refine lv_icmp_ge (tgt := 65) hx hb dX12_putRest_44 (by decide) (fun c2 => ?_) (fun c2 => ?_)
    · rw [if_pos c2] at h
      refine lv_iload_n hx hb dX12_putRest_65 rfl (lv_at hl 2 rfl) ?_
      refine lv_bipush (v := 7) hx hb dX12_putRest_66 (by decide) ?_
      refine lv_icmp_ne (tgt := 85) hx hb dX12_putRest_68 (by decide) (fun c3 => ?_) (fun c3 => ?_)
      · rw [if_neg c3] at h
        refine lv_iload_n hx hb dX12_putRest_85 rfl (lv_at hl 2 rfl) ?_
        refine lv_bipush (v := 10) hx hb dX12_putRest_86 (by decide) ?_
        refine lv_icmp_ge (tgt := 135) hx hb dX12_putRest_88 (by decide) (fun c4 => ?_) (fun c4 => ?_)
        · rw [if_pos c4] at h
          refine lv_iload_n hx hb dX12_putRest_135 rfl (lv_at hl 2 rfl) ?_
          refine lv_bipush (v := 12) hx hb dX12_putRest_136 (by decide) ?_
          refine lv_icmp_ne (tgt := 150) hx hb dX12_putRest_138 (by decide) (fun c5 => ?_) (fun c5 => ?_)
          · rw [if_neg c5] at h
            refine lv_aload_n hx hb dX12_putRest_150 rfl (lv_at hl 0 rfl) ?_
            refine lv_iload_n hx hb dX12_putRest_151 rfl (lv_at hl 1 rfl) ?_
            refine lv_iload_n hx hb dX12_putRest_152 rfl (lv_at hl 2 rfl) ?_
            refine lv_iload_n hx hb dX12_putRest_153 rfl (lv_at hl 3 rfl) ?_
            obtain ⟨μ6, gμ6, h⟩ := bw_some h
            refine g_callVV (As := [.int a1, .int a2, .int a3]) (rest := []) cx hw hA (t_X12_putList l G ad a1 a2 a3 μ gμ6) shm_0 rfl ml_X12_890 im_X12_putList se_X12_putList in_X12 co_X12_putList rfl hd_X12_putList rfl ⟨(Nat.le_of_ble_eq_true rfl), (Nat.le_of_ble_eq_true rfl)⟩ hl.1 rfl (Nat.le_of_ble_eq_true rfl) dX12_putRest_154 ⟨rfl, rfl⟩ (fun H locs hw => ?_)
            exact g_vret cx hr hlk hw h dX12_putRest_157
          · rw [if_pos c5] at h
            refine lv_aload_n hx hb dX12_putRest_141 rfl (lv_at hl 0 rfl) ?_
            refine lv_bipush (v := 45) hx hb dX12_putRest_142 (by decide) ?_
            obtain ⟨μ8, gμ8, h⟩ := bw_some h
            refine g_callVV (As := [.int 45]) (rest := []) cx hw hA (t_X12_put l G ad (45 : Int32) μ gμ8) shm_0 rfl ml_X12_862 im_X12_put se_X12_put in_X12 co_X12_put rfl hd_X12_put rfl ⟨(Nat.le_of_ble_eq_true rfl), (Nat.le_of_ble_eq_true rfl)⟩ hl.1 rfl (Nat.le_of_ble_eq_true rfl) dX12_putRest_144 ⟨rfl, rfl⟩ (fun H locs hw => ?_)
            refine lv_goto (tgt := 157) hx hb dX12_putRest_147 (by decide) ?_
            exact g_vret cx hr hlk hw h dX12_putRest_157
        · rw [if_neg c4] at h
          refine lv_aload_n hx hb dX12_putRest_91 rfl (lv_at hl 0 rfl) ?_
          refine lv_iload_n hx hb dX12_putRest_92 rfl (lv_at hl 2 rfl) ?_
          refine lv_bipush (v := 8) hx hb dX12_putRest_93 (by decide) ?_
          refine lv_icmp_ne (tgt := 103) hx hb dX12_putRest_95 (by decide) (fun c10 => ?_) (fun c10 => ?_)
          · rw [if_neg c10] at h
            refine lv_bipush (v := 95) hx hb dX12_putRest_103 (by decide) ?_
            exact t_X12_putRest_b105 l G ad _  a1 a2 a3 (95 : Int32) μ h p e s m below meth c A ls H locs cx hr hlk hA (lv_sub hl [0, 1, 2, 3] rfl) hw
          · rw [if_pos c10] at h
            refine lv_bipush (v := 38) hx hb dX12_putRest_98 (by decide) ?_
            refine lv_goto (tgt := 105) hx hb dX12_putRest_100 (by decide) ?_
            exact t_X12_putRest_b105 l G ad _  a1 a2 a3 (38 : Int32) μ h p e s m below meth c A ls H locs cx hr hlk hA (lv_sub hl [0, 1, 2, 3] rfl) hw
      · rw [if_pos c3] at h
        refine lv_aload_n hx hb dX12_putRest_71 rfl (lv_at hl 0 rfl) ?_
        refine lv_bipush (v := 33) hx hb dX12_putRest_72 (by decide) ?_
        obtain ⟨μ18, gμ18, h⟩ := bw_some h
        refine g_callVV (As := [.int 33]) (rest := []) cx hw hA (t_X12_put l G ad (33 : Int32) μ gμ18) shm_0 rfl ml_X12_862 im_X12_put se_X12_put in_X12 co_X12_put rfl hd_X12_put rfl ⟨(Nat.le_of_ble_eq_true rfl), (Nat.le_of_ble_eq_true rfl)⟩ hl.1 rfl (Nat.le_of_ble_eq_true rfl) dX12_putRest_74 ⟨rfl, rfl⟩ (fun H locs hw => ?_)
        refine lv_aload_n hx hb dX12_putRest_77 rfl (lv_at hl 0 rfl) ?_
        refine lv_iload_n hx hb dX12_putRest_78 rfl (lv_at hl 3 rfl) ?_
        obtain ⟨μ20, gμ20, h⟩ := bw_some h
        refine g_callVV (As := [.int a3]) (rest := []) cx hw hA (t_X12_putOperand l G ad a3 μ18 gμ20) shm_0 rfl ml_X12_881 im_X12_putOperand se_X12_putOperand in_X12 co_X12_putOperand rfl hd_X12_putOperand rfl ⟨(Nat.le_of_ble_eq_true rfl), (Nat.le_of_ble_eq_true rfl)⟩ hl.1 rfl (Nat.le_of_ble_eq_true rfl) dX12_putRest_79 ⟨rfl, rfl⟩ (fun H locs hw => ?_)
        refine lv_goto (tgt := 157) hx hb dX12_putRest_82 (by decide) ?_
        exact g_vret cx hr hlk hw h dX12_putRest_157
    · rw [if_neg c2] at h
      refine lv_aload_n hx hb dX12_putRest_47 rfl (lv_at hl 0 rfl) ?_
      refine lv_iload_n hx hb dX12_putRest_48 rfl (lv_at hl 2 rfl) ?_
      refine lv_iconst (v := 1) hx hb dX12_putRest_49 (by decide) ?_
      refine lv_isub hx hb dX12_putRest_50 ?_
      refine s_callI (As := [.int (a2 - (1 : Int32))]) (rest := [.ref (ad 0)]) cx hw hA (t_X12_signOfOne l G (a2 - (1 : Int32))) ml_X12_887 st_X12_signOfOne in_X12 co_X12_signOfOne hd_X12_signOfOne rfl ⟨(Nat.le_of_ble_eq_true rfl), (Nat.le_of_ble_eq_true rfl)⟩ hl.1 rfl (Nat.le_of_ble_eq_true rfl) dX12_putRest_51 rfl (fun H locs hw => ?_)
      obtain ⟨μ22, gμ22, h⟩ := bw_some h
      refine g_callVV (As := [.int (s_X12_signOfOne (a2 - (1 : Int32)))]) (rest := []) cx hw hA (t_X12_put l G ad (s_X12_signOfOne (a2 - (1 : Int32))) μ gμ22) shm_0 rfl ml_X12_862 im_X12_put se_X12_put in_X12 co_X12_put rfl hd_X12_put rfl ⟨(Nat.le_of_ble_eq_true rfl), (Nat.le_of_ble_eq_true rfl)⟩ hl.1 rfl (Nat.le_of_ble_eq_true rfl) dX12_putRest_54 ⟨rfl, rfl⟩ (fun H locs hw => ?_)
      refine lv_aload_n hx hb dX12_putRest_57 rfl (lv_at hl 0 rfl) ?_
      refine lv_iload_n hx hb dX12_putRest_58 rfl (lv_at hl 3 rfl) ?_
      obtain ⟨μ24, gμ24, h⟩ := bw_some h
      refine g_callVV (As := [.int a3]) (rest := []) cx hw hA (t_X12_putOperand l G ad a3 μ22 gμ24) shm_0 rfl ml_X12_881 im_X12_putOperand se_X12_putOperand in_X12 co_X12_putOperand rfl hd_X12_putOperand rfl ⟨(Nat.le_of_ble_eq_true rfl), (Nat.le_of_ble_eq_true rfl)⟩ hl.1 rfl (Nat.le_of_ble_eq_true rfl) dX12_putRest_59 ⟨rfl, rfl⟩ (fun H locs hw => ?_)
      refine lv_goto (tgt := 157) hx hb dX12_putRest_62 (by decide) ?_
      exact g_vret cx hr hlk hw h dX12_putRest_157
  · rw [if_pos c1] at h
    refine lv_aload_n hx hb dX12_putRest_4 rfl (lv_at hl 0 rfl) ?_
    refine lv_bipush (v := 40) hx hb dX12_putRest_5 (by decide) ?_
    obtain ⟨μ26, gμ26, h⟩ := bw_some h
    refine g_callVV (As := [.int 40]) (rest := []) cx hw hA (t_X12_put l G ad (40 : Int32) μ gμ26) shm_0 rfl ml_X12_862 im_X12_put se_X12_put in_X12 co_X12_put rfl hd_X12_put rfl ⟨(Nat.le_of_ble_eq_true rfl), (Nat.le_of_ble_eq_true rfl)⟩ hl.1 rfl (Nat.le_of_ble_eq_true rfl) dX12_putRest_7 ⟨rfl, rfl⟩ (fun H locs hw => ?_)
    refine lv_aload_n hx hb dX12_putRest_10 rfl (lv_at hl 0 rfl) ?_
    refine lv_iload_n hx hb dX12_putRest_11 rfl (lv_at hl 3 rfl) ?_
    obtain ⟨μ28, gμ28, h⟩ := bw_some h
    refine g_callVV (As := [.int a3]) (rest := []) cx hw hA (t_X12_putOperand l G ad a3 μ26 gμ28) shm_0 rfl ml_X12_881 im_X12_putOperand se_X12_putOperand in_X12 co_X12_putOperand rfl hd_X12_putOperand rfl ⟨(Nat.le_of_ble_eq_true rfl), (Nat.le_of_ble_eq_true rfl)⟩ hl.1 rfl (Nat.le_of_ble_eq_true rfl) dX12_putRest_12 ⟨rfl, rfl⟩ (fun H locs hw => ?_)
    refine lv_aload_n hx hb dX12_putRest_15 rfl (lv_at hl 0 rfl) ?_
    refine lv_aload_n hx hb dX12_putRest_16 rfl (lv_at hl 0 rfl) ?_
    refine g_get cx hw inX12 (ci := 11) rfl 80 (by decide) rfl (v := .ref (ad 48)) shm_0 rfl fl_X12_160 dX12_putRest_17 ?_
    refine lv_iload_n hx hb dX12_putRest_20 rfl (lv_at hl 1 rfl) ?_
    refine g_iald cx hw shm_48 h dX12_putRest_21 (fun h => ?_)
    obtain ⟨μ30, gμ30, h⟩ := bw_some h
    refine g_callVV (As := [.int (μ28.1 48 a1.toNatClampNeg)]) (rest := []) cx hw hA (t_X12_put l G ad (μ28.1 48 a1.toNatClampNeg) μ28 gμ30) shm_0 rfl ml_X12_862 im_X12_put se_X12_put in_X12 co_X12_put rfl hd_X12_put rfl ⟨(Nat.le_of_ble_eq_true rfl), (Nat.le_of_ble_eq_true rfl)⟩ hl.1 rfl (Nat.le_of_ble_eq_true rfl) dX12_putRest_22 ⟨rfl, rfl⟩ (fun H locs hw => ?_)
    refine lv_aload_n hx hb dX12_putRest_25 rfl (lv_at hl 0 rfl) ?_
    refine lv_iload_n hx hb dX12_putRest_26 rfl (lv_at hl 3 rfl) ?_
    refine lv_iconst (v := 1) hx hb dX12_putRest_27 (by decide) ?_
    refine lv_iadd hx hb dX12_putRest_28 ?_
    obtain ⟨μ32, gμ32, h⟩ := bw_some h
    refine g_callVV (As := [.int (a3 + (1 : Int32))]) (rest := []) cx hw hA (t_X12_putOperand l G ad (a3 + (1 : Int32)) μ30 gμ32) shm_0 rfl ml_X12_881 im_X12_putOperand se_X12_putOperand in_X12 co_X12_putOperand rfl hd_X12_putOperand rfl ⟨(Nat.le_of_ble_eq_true rfl), (Nat.le_of_ble_eq_true rfl)⟩ hl.1 rfl (Nat.le_of_ble_eq_true rfl) dX12_putRest_29 ⟨rfl, rfl⟩ (fun H locs hw => ?_)
    refine lv_aload_n hx hb dX12_putRest_32 rfl (lv_at hl 0 rfl) ?_
    refine lv_bipush (v := 41) hx hb dX12_putRest_33 (by decide) ?_
    obtain ⟨μ34, gμ34, h⟩ := bw_some h
    refine g_callVV (As := [.int 41]) (rest := []) cx hw hA (t_X12_put l G ad (41 : Int32) μ32 gμ34) shm_0 rfl ml_X12_862 im_X12_put se_X12_put in_X12 co_X12_put rfl hd_X12_put rfl ⟨(Nat.le_of_ble_eq_true rfl), (Nat.le_of_ble_eq_true rfl)⟩ hl.1 rfl (Nat.le_of_ble_eq_true rfl) dX12_putRest_35 ⟨rfl, rfl⟩ (fun H locs hw => ?_)
    refine lv_goto (tgt := 157) hx hb dX12_putRest_38 (by decide) ?_
    exact g_vret cx hr hlk hw h dX12_putRest_157

theorem p_X12_putItem_b26_ex : ∃ f : Int32 → Int32 → Mem → Option Mem, ∀ (a2 : Int32) (a3 : Int32) (μ : Mem), f a2 a3 μ = bw (p_X12_putOperand a3 μ) (fun μ4 => bw (p_X12_put (125 : Int32) μ4) (fun μ6 => (if a2 = (13 : Int32) then bw (p_X12_put (123 : Int32) μ6) (fun μ11 => some μ11) else bw (p_X12_put (59 : Int32) μ6) (fun μ9 => some μ9)))) := ⟨fun (a2 : Int32) (a3 : Int32) (μ : Mem) => bw (p_X12_putOperand a3 μ) (fun μ4 => bw (p_X12_put (125 : Int32) μ4) (fun μ6 => (if a2 = (13 : Int32) then bw (p_X12_put (123 : Int32) μ6) (fun μ11 => some μ11) else bw (p_X12_put (59 : Int32) μ6) (fun μ9 => some μ9)))), fun _ _ _ => rfl⟩
noncomputable def p_X12_putItem_b26 : Int32 → Int32 → Mem → Option Mem := Classical.choose p_X12_putItem_b26_ex
theorem p_X12_putItem_b26_eq (a2 : Int32) (a3 : Int32) (μ : Mem) : p_X12_putItem_b26 a2 a3 μ = bw (p_X12_putOperand a3 μ) (fun μ4 => bw (p_X12_put (125 : Int32) μ4) (fun μ6 => (if a2 = (13 : Int32) then bw (p_X12_put (123 : Int32) μ6) (fun μ11 => some μ11) else bw (p_X12_put (59 : Int32) μ6) (fun μ9 => some μ9)))) := Classical.choose_spec p_X12_putItem_b26_ex a2 a3 μ
set_option maxHeartbeats 4000000 in
set_option maxRecDepth 100000 in
theorem t_X12_putItem_b26 (l : Launch) (G : Gt) (ad : Nat → Nat) (av : List Value) {μz : Mem} (a2 : Int32) (a3 : Int32) (μ : Mem) (h : p_X12_putItem_b26  a2 a3 μ = some μz) : Bk l cX12_putItem 4 RX12 none ({ frames := 6, cells := 0, slots := 0, locals := 138 } : Room) G av (eV 1 G ad μz) (wd 1 G ad μ) 26 [(0, .ref (ad 0)), (2, .int a2), (3, .int a3)] [] := by
  intro p e s m below meth c A ls H locs cx hr hlk hA hl hw
  have hx := cx.1
  have hb := cx.2.1
  rw [p_X12_putItem_b26_eq] at h
  refine lv_aload_n hx hb dX12_putItem_26 rfl (lv_at hl 0 rfl) ?_
  refine lv_iload_n hx hb dX12_putItem_27 rfl (lv_at hl 2 rfl) ?_
  obtain ⟨μ4, gμ4, h⟩ := bw_some h
  refine g_callVV (As := [.int a3]) (rest := []) cx hw hA (t_X12_putOperand l G ad a3 μ gμ4) shm_0 rfl ml_X12_881 im_X12_putOperand se_X12_putOperand in_X12 co_X12_putOperand rfl hd_X12_putOperand rfl ⟨(Nat.le_of_ble_eq_true rfl), (Nat.le_of_ble_eq_true rfl)⟩ hl.1 rfl (Nat.le_of_ble_eq_true rfl) dX12_putItem_28 ⟨rfl, rfl⟩ (fun H locs hw => ?_)
  refine lv_aload_n hx hb dX12_putItem_31 rfl (lv_at hl 0 rfl) ?_
  refine lv_bipush (v := 125) hx hb dX12_putItem_32 (by decide) ?_
  obtain ⟨μ6, gμ6, h⟩ := bw_some h
  refine g_callVV (As := [.int 125]) (rest := []) cx hw hA (t_X12_put l G ad (125 : Int32) μ4 gμ6) shm_0 rfl ml_X12_862 im_X12_put se_X12_put in_X12 co_X12_put rfl hd_X12_put rfl ⟨(Nat.le_of_ble_eq_true rfl), (Nat.le_of_ble_eq_true rfl)⟩ hl.1 rfl (Nat.le_of_ble_eq_true rfl) dX12_putItem_34 ⟨rfl, rfl⟩ (fun H locs hw => ?_)
  refine lv_aload_n hx hb dX12_putItem_37 rfl (lv_at hl 0 rfl) ?_
  refine lv_iload_n hx hb dX12_putItem_38 rfl (lv_at hl 1 rfl) ?_
  refine lv_bipush (v := 13) hx hb dX12_putItem_39 (by decide) ?_
  refine lv_icmp_ne (tgt := 49) hx hb dX12_putItem_41 (by decide) (fun c8 => ?_) (fun c8 => ?_)
  · rw [if_neg c8] at h
    refine lv_bipush (v := 59) hx hb dX12_putItem_49 (by decide) ?_
    obtain ⟨μ9, gμ9, h⟩ := bw_some h
    refine g_callVV (As := [.int 59]) (rest := []) cx hw hA (t_X12_put l G ad (59 : Int32) μ6 gμ9) shm_0 rfl ml_X12_862 im_X12_put se_X12_put in_X12 co_X12_put rfl hd_X12_put rfl ⟨(Nat.le_of_ble_eq_true rfl), (Nat.le_of_ble_eq_true rfl)⟩ hl.1 rfl (Nat.le_of_ble_eq_true rfl) dX12_putItem_51 ⟨rfl, rfl⟩ (fun H locs hw => ?_)
    exact g_vret cx hr hlk hw h dX12_putItem_54
  · rw [if_pos c8] at h
    refine lv_bipush (v := 123) hx hb dX12_putItem_44 (by decide) ?_
    refine lv_goto (tgt := 51) hx hb dX12_putItem_46 (by decide) ?_
    obtain ⟨μ11, gμ11, h⟩ := bw_some h
    refine g_callVV (As := [.int 123]) (rest := []) cx hw hA (t_X12_put l G ad (123 : Int32) μ6 gμ11) shm_0 rfl ml_X12_862 im_X12_put se_X12_put in_X12 co_X12_put rfl hd_X12_put rfl ⟨(Nat.le_of_ble_eq_true rfl), (Nat.le_of_ble_eq_true rfl)⟩ hl.1 rfl (Nat.le_of_ble_eq_true rfl) dX12_putItem_51 ⟨rfl, rfl⟩ (fun H locs hw => ?_)
    exact g_vret cx hr hlk hw h dX12_putItem_54
theorem p_X12_putItem_b78_ex : ∃ f : Int32 → Int32 → Int32 → Mem → Option Mem, ∀ (a1 : Int32) (a2 : Int32) (a3 : Int32) (μ : Mem), f a1 a2 a3 μ = (if a2 = (6 : Int32) then bw (p_X12_put (63 : Int32) μ) (fun μ20 => bw (p_X12_putOperand a3 μ20) (fun μ22 => bw (p_X12_put (123 : Int32) μ22) (fun μ24 => some μ24))) else bw (p_X12_putRest a1 a2 a3 μ) (fun μ16 => bw (p_X12_put (59 : Int32) μ16) (fun μ18 => some μ18))) := ⟨fun (a1 : Int32) (a2 : Int32) (a3 : Int32) (μ : Mem) => (if a2 = (6 : Int32) then bw (p_X12_put (63 : Int32) μ) (fun μ20 => bw (p_X12_putOperand a3 μ20) (fun μ22 => bw (p_X12_put (123 : Int32) μ22) (fun μ24 => some μ24))) else bw (p_X12_putRest a1 a2 a3 μ) (fun μ16 => bw (p_X12_put (59 : Int32) μ16) (fun μ18 => some μ18))), fun _ _ _ _ => rfl⟩
noncomputable def p_X12_putItem_b78 : Int32 → Int32 → Int32 → Mem → Option Mem := Classical.choose p_X12_putItem_b78_ex
theorem p_X12_putItem_b78_eq (a1 : Int32) (a2 : Int32) (a3 : Int32) (μ : Mem) : p_X12_putItem_b78 a1 a2 a3 μ = (if a2 = (6 : Int32) then bw (p_X12_put (63 : Int32) μ) (fun μ20 => bw (p_X12_putOperand a3 μ20) (fun μ22 => bw (p_X12_put (123 : Int32) μ22) (fun μ24 => some μ24))) else bw (p_X12_putRest a1 a2 a3 μ) (fun μ16 => bw (p_X12_put (59 : Int32) μ16) (fun μ18 => some μ18))) := Classical.choose_spec p_X12_putItem_b78_ex a1 a2 a3 μ
set_option maxHeartbeats 4000000 in
set_option maxRecDepth 100000 in
theorem t_X12_putItem_b78 (l : Launch) (G : Gt) (ad : Nat → Nat) (av : List Value) {μz : Mem} (a1 : Int32) (a2 : Int32) (a3 : Int32) (μ : Mem) (h : p_X12_putItem_b78  a1 a2 a3 μ = some μz) : Bk l cX12_putItem 4 RX12 none ({ frames := 6, cells := 0, slots := 0, locals := 138 } : Room) G av (eV 1 G ad μz) (wd 1 G ad μ) 78 [(0, .ref (ad 0)), (1, .int a1), (2, .int a2), (3, .int a3)] [] := by
  intro p e s m below meth c A ls H locs cx hr hlk hA hl hw
  have hx := cx.1
  have hb := cx.2.1
  rw [p_X12_putItem_b78_eq] at h
  refine lv_iload_n hx hb dX12_putItem_78 rfl (lv_at hl 2 rfl) ?_
  refine lv_bipush (v := 6) hx hb dX12_putItem_79 (by decide) ?_
  refine lv_icmp_ne (tgt := 102) hx hb dX12_putItem_81 (by decide) (fun c15 => ?_) (fun c15 => ?_)
  · rw [if_neg c15] at h
    refine lv_aload_n hx hb dX12_putItem_102 rfl (lv_at hl 0 rfl) ?_
    refine lv_iload_n hx hb dX12_putItem_103 rfl (lv_at hl 1 rfl) ?_
    refine lv_iload_n hx hb dX12_putItem_104 rfl (lv_at hl 2 rfl) ?_
    refine lv_iload_n hx hb dX12_putItem_105 rfl (lv_at hl 3 rfl) ?_
    obtain ⟨μ16, gμ16, h⟩ := bw_some h
    refine g_callVV (As := [.int a1, .int a2, .int a3]) (rest := []) cx hw hA (t_X12_putRest l G ad a1 a2 a3 μ gμ16) shm_0 rfl ml_X12_884 im_X12_putRest se_X12_putRest in_X12 co_X12_putRest rfl hd_X12_putRest rfl ⟨(Nat.le_of_ble_eq_true rfl), (Nat.le_of_ble_eq_true rfl)⟩ hl.1 rfl (Nat.le_of_ble_eq_true rfl) dX12_putItem_106 ⟨rfl, rfl⟩ (fun H locs hw => ?_)
    refine lv_aload_n hx hb dX12_putItem_109 rfl (lv_at hl 0 rfl) ?_
    refine lv_bipush (v := 59) hx hb dX12_putItem_110 (by decide) ?_
    obtain ⟨μ18, gμ18, h⟩ := bw_some h
    refine g_callVV (As := [.int 59]) (rest := []) cx hw hA (t_X12_put l G ad (59 : Int32) μ16 gμ18) shm_0 rfl ml_X12_862 im_X12_put se_X12_put in_X12 co_X12_put rfl hd_X12_put rfl ⟨(Nat.le_of_ble_eq_true rfl), (Nat.le_of_ble_eq_true rfl)⟩ hl.1 rfl (Nat.le_of_ble_eq_true rfl) dX12_putItem_112 ⟨rfl, rfl⟩ (fun H locs hw => ?_)
    exact g_vret cx hr hlk hw h dX12_putItem_115
  · rw [if_pos c15] at h
    refine lv_aload_n hx hb dX12_putItem_84 rfl (lv_at hl 0 rfl) ?_
    refine lv_bipush (v := 63) hx hb dX12_putItem_85 (by decide) ?_
    obtain ⟨μ20, gμ20, h⟩ := bw_some h
    refine g_callVV (As := [.int 63]) (rest := []) cx hw hA (t_X12_put l G ad (63 : Int32) μ gμ20) shm_0 rfl ml_X12_862 im_X12_put se_X12_put in_X12 co_X12_put rfl hd_X12_put rfl ⟨(Nat.le_of_ble_eq_true rfl), (Nat.le_of_ble_eq_true rfl)⟩ hl.1 rfl (Nat.le_of_ble_eq_true rfl) dX12_putItem_87 ⟨rfl, rfl⟩ (fun H locs hw => ?_)
    refine lv_aload_n hx hb dX12_putItem_90 rfl (lv_at hl 0 rfl) ?_
    refine lv_iload_n hx hb dX12_putItem_91 rfl (lv_at hl 3 rfl) ?_
    obtain ⟨μ22, gμ22, h⟩ := bw_some h
    refine g_callVV (As := [.int a3]) (rest := []) cx hw hA (t_X12_putOperand l G ad a3 μ20 gμ22) shm_0 rfl ml_X12_881 im_X12_putOperand se_X12_putOperand in_X12 co_X12_putOperand rfl hd_X12_putOperand rfl ⟨(Nat.le_of_ble_eq_true rfl), (Nat.le_of_ble_eq_true rfl)⟩ hl.1 rfl (Nat.le_of_ble_eq_true rfl) dX12_putItem_92 ⟨rfl, rfl⟩ (fun H locs hw => ?_)
    refine lv_aload_n hx hb dX12_putItem_95 rfl (lv_at hl 0 rfl) ?_
    refine lv_bipush (v := 123) hx hb dX12_putItem_96 (by decide) ?_
    obtain ⟨μ24, gμ24, h⟩ := bw_some h
    refine g_callVV (As := [.int 123]) (rest := []) cx hw hA (t_X12_put l G ad (123 : Int32) μ22 gμ24) shm_0 rfl ml_X12_862 im_X12_put se_X12_put in_X12 co_X12_put rfl hd_X12_put rfl ⟨(Nat.le_of_ble_eq_true rfl), (Nat.le_of_ble_eq_true rfl)⟩ hl.1 rfl (Nat.le_of_ble_eq_true rfl) dX12_putItem_98 ⟨rfl, rfl⟩ (fun H locs hw => ?_)
    exact g_vret cx hr hlk hw h dX12_putItem_101
theorem p_X12_putItem_ex : ∃ f : Int32 → Mem → Option Mem, ∀ (a1 : Int32) (μ : Mem), f a1 μ = gd (inb a1 960) (bv (μ.1 46 a1.toNatClampNeg) (fun v1 => gd (inb a1 960) (bv (μ.1 51 a1.toNatClampNeg) (fun v2 => (if v1 = (13 : Int32) then p_X12_putItem_b26  v1 v2 μ else (if v1 = (14 : Int32) then p_X12_putItem_b26  v1 v2 μ else (if v1 = (7 : Int32) then p_X12_putItem_b78  a1 v1 v2 μ else gd (inb a1 960) (bw (p_X12_putOne (3 : Int32) (μ.1 47 a1.toNatClampNeg) μ) (fun μ26 => bw (p_X12_put (61 : Int32) μ26) (fun μ28 => p_X12_putItem_b78  a1 v1 v2 μ28)))))))))) := ⟨fun (a1 : Int32) (μ : Mem) => gd (inb a1 960) (bv (μ.1 46 a1.toNatClampNeg) (fun v1 => gd (inb a1 960) (bv (μ.1 51 a1.toNatClampNeg) (fun v2 => (if v1 = (13 : Int32) then p_X12_putItem_b26  v1 v2 μ else (if v1 = (14 : Int32) then p_X12_putItem_b26  v1 v2 μ else (if v1 = (7 : Int32) then p_X12_putItem_b78  a1 v1 v2 μ else gd (inb a1 960) (bw (p_X12_putOne (3 : Int32) (μ.1 47 a1.toNatClampNeg) μ) (fun μ26 => bw (p_X12_put (61 : Int32) μ26) (fun μ28 => p_X12_putItem_b78  a1 v1 v2 μ28)))))))))), fun _ _ => rfl⟩
noncomputable def p_X12_putItem : Int32 → Mem → Option Mem := Classical.choose p_X12_putItem_ex
theorem p_X12_putItem_eq (a1 : Int32) (μ : Mem) : p_X12_putItem a1 μ = gd (inb a1 960) (bv (μ.1 46 a1.toNatClampNeg) (fun v1 => gd (inb a1 960) (bv (μ.1 51 a1.toNatClampNeg) (fun v2 => (if v1 = (13 : Int32) then p_X12_putItem_b26  v1 v2 μ else (if v1 = (14 : Int32) then p_X12_putItem_b26  v1 v2 μ else (if v1 = (7 : Int32) then p_X12_putItem_b78  a1 v1 v2 μ else gd (inb a1 960) (bw (p_X12_putOne (3 : Int32) (μ.1 47 a1.toNatClampNeg) μ) (fun μ26 => bw (p_X12_put (61 : Int32) μ26) (fun μ28 => p_X12_putItem_b78  a1 v1 v2 μ28)))))))))) := Classical.choose_spec p_X12_putItem_ex a1 μ
set_option maxHeartbeats 4000000 in
set_option maxRecDepth 100000 in
theorem t_X12_putItem (l : Launch) (G : Gt) (ad : Nat → Nat) (a1 : Int32) (μ : Mem) {μz : Mem} (h : p_X12_putItem a1 μ = some μz) : Mt l yX12_putItem cX12_putItem 4 none ({ frames := 6, cells := 0, slots := 0, locals := 138 } : Room) G [.ref (ad 0), .int a1] (wd 1 G ad μ) (eV 1 G ad μz) := by
  refine Bk.mt (by decide) rfl (Nat.le_of_ble_eq_true rfl) ?_
  intro p e s m below meth c A ls H locs cx hr hlk hA hl hw
  have hx := cx.1
  have hb := cx.2.1
  have hl : lv_has ls 4 [(0, .ref (ad 0)), (1, .int a1)] := hl
  rw [p_X12_putItem_eq] at h
  refine lv_aload_n hx hb dX12_putItem_0 rfl (lv_at hl 0 rfl) ?_
  refine g_get cx hw inX12 (ci := 11) rfl 78 (by decide) rfl (v := .ref (ad 46)) shm_0 rfl fl_X12_154 dX12_putItem_1 ?_
  refine lv_iload_n hx hb dX12_putItem_4 rfl (lv_at hl 1 rfl) ?_
  refine g_iald cx hw shm_46 h dX12_putItem_5 (fun h => ?_)
  obtain ⟨v1, ev1, h⟩ := bv_ex h
  refine lv_topi (fun y9 z9 => ?_)
  obtain rfl : v1 = y9 := ev1.trans z9.symm
  refine lv_istore_n (lv' := [(2, .int v1), (0, .ref (ad 0)), (1, .int a1)]) hx hb dX12_putItem_6 rfl hl (by decide) rfl (fun ls hl => ?_)
  refine lv_aload_n hx hb dX12_putItem_7 rfl (lv_at hl 1 rfl) ?_
  refine g_get cx hw inX12 (ci := 11) rfl 83 (by decide) rfl (v := .ref (ad 51)) shm_0 rfl fl_X12_169 dX12_putItem_8 ?_
  refine lv_iload_n hx hb dX12_putItem_11 rfl (lv_at hl 2 rfl) ?_
  refine g_iald cx hw shm_51 h dX12_putItem_12 (fun h => ?_)
  obtain ⟨v2, ev2, h⟩ := bv_ex h
  refine lv_topi (fun y9 z9 => ?_)
  obtain rfl : v2 = y9 := ev2.trans z9.symm
  refine lv_istore_n (lv' := [(3, .int v2), (2, .int v1), (0, .ref (ad 0)), (1, .int a1)]) hx hb dX12_putItem_13 rfl hl (by decide) rfl (fun ls hl => ?_)
  refine lv_iload_n hx hb dX12_putItem_14 rfl (lv_at hl 1 rfl) ?_
  refine lv_bipush (v := 13) hx hb dX12_putItem_15 (by decide) ?_
  refine lv_icmp_eq (tgt := 26) hx hb dX12_putItem_17 (by decide) (fun c3 => ?_) (fun c3 => ?_)
  · rw [if_pos c3] at h
    exact t_X12_putItem_b26 l G ad _  v1 v2 μ h p e s m below meth c A ls H locs cx hr hlk hA (lv_sub hl [2, 1, 0] rfl) hw
  · rw [if_neg c3] at h
    refine lv_iload_n hx hb dX12_putItem_20 rfl (lv_at hl 1 rfl) ?_
    refine lv_bipush (v := 14) hx hb dX12_putItem_21 (by decide) ?_
    refine lv_icmp_ne (tgt := 55) hx hb dX12_putItem_23 (by decide) (fun c13 => ?_) (fun c13 => ?_)
    · rw [if_neg c13] at h
      refine lv_iload_n hx hb dX12_putItem_55 rfl (lv_at hl 1 rfl) ?_
      refine lv_bipush (v := 7) hx hb dX12_putItem_56 (by decide) ?_
      refine lv_icmp_eq (tgt := 78) hx hb dX12_putItem_58 (by decide) (fun c14 => ?_) (fun c14 => ?_)
      · rw [if_pos c14] at h
        exact t_X12_putItem_b78 l G ad _  a1 v1 v2 μ h p e s m below meth c A ls H locs cx hr hlk hA (lv_sub hl [2, 3, 1, 0] rfl) hw
      · rw [if_neg c14] at h
        refine lv_aload_n hx hb dX12_putItem_61 rfl (lv_at hl 2 rfl) ?_
        refine lv_iconst (v := 3) hx hb dX12_putItem_62 (by decide) ?_
        refine lv_aload_n hx hb dX12_putItem_63 rfl (lv_at hl 2 rfl) ?_
        refine g_get cx hw inX12 (ci := 11) rfl 79 (by decide) rfl (v := .ref (ad 47)) shm_0 rfl fl_X12_157 dX12_putItem_64 ?_
        refine lv_iload_n hx hb dX12_putItem_67 rfl (lv_at hl 3 rfl) ?_
        refine g_iald cx hw shm_47 h dX12_putItem_68 (fun h => ?_)
        obtain ⟨μ26, gμ26, h⟩ := bw_some h
        refine g_callVV (As := [.int 3, .int (μ.1 47 a1.toNatClampNeg)]) (rest := []) cx hw hA (t_X12_putOne l G ad (3 : Int32) (μ.1 47 a1.toNatClampNeg) μ gμ26) shm_0 rfl ml_X12_874 im_X12_putOne se_X12_putOne in_X12 co_X12_putOne rfl hd_X12_putOne rfl ⟨(Nat.le_of_ble_eq_true rfl), (Nat.le_of_ble_eq_true rfl)⟩ hl.1 rfl (Nat.le_of_ble_eq_true rfl) dX12_putItem_69 ⟨rfl, rfl⟩ (fun H locs hw => ?_)
        refine lv_aload_n hx hb dX12_putItem_72 rfl (lv_at hl 2 rfl) ?_
        refine lv_bipush (v := 61) hx hb dX12_putItem_73 (by decide) ?_
        obtain ⟨μ28, gμ28, h⟩ := bw_some h
        refine g_callVV (As := [.int 61]) (rest := []) cx hw hA (t_X12_put l G ad (61 : Int32) μ26 gμ28) shm_0 rfl ml_X12_862 im_X12_put se_X12_put in_X12 co_X12_put rfl hd_X12_put rfl ⟨(Nat.le_of_ble_eq_true rfl), (Nat.le_of_ble_eq_true rfl)⟩ hl.1 rfl (Nat.le_of_ble_eq_true rfl) dX12_putItem_75 ⟨rfl, rfl⟩ (fun H locs hw => ?_)
        exact t_X12_putItem_b78 l G ad _  a1 v1 v2 μ28 h p e s m below meth c A ls H locs cx hr hlk hA (lv_sub hl [2, 3, 1, 0] rfl) hw
    · rw [if_pos c13] at h
      exact t_X12_putItem_b26 l G ad _  v1 v2 μ h p e s m below meth c A ls H locs cx hr hlk hA (lv_sub hl [2, 1, 0] rfl) hw

theorem p_X12_write_b83_ex : ∃ f : Nat → Int32 → Int32 → Mem → Option (Int32 × Mem), (∀ (a1 : Int32) (a2 : Int32) (μ : Mem), f  0 a1 a2 μ = none) ∧ (∀ (n : Nat) (a1 : Int32) (a2 : Int32) (μ : Mem), f  (n + 1) a1 a2 μ = gd (inb a1 25) ((if (μ.1 63 a1.toNatClampNeg) ≤ a2 then gd (inb a1 25) (bw (p_X12_putOperand (μ.1 64 a1.toNatClampNeg) μ) (fun μ17 => bw (p_X12_put (59 : Int32) μ17) (fun μ19 => some ((μ19.1 0 139), μ19)))) else bw (p_X12_putItem a2 μ) (fun μ21 => bv (a2 + 1) (fun v23 => f n a1 v23 μ21))))) := ⟨fun n => Nat.rec (fun (a1 : Int32) (a2 : Int32) (μ : Mem) => none) (fun _ ih => fun (a1 : Int32) (a2 : Int32) (μ : Mem) => gd (inb a1 25) ((if (μ.1 63 a1.toNatClampNeg) ≤ a2 then gd (inb a1 25) (bw (p_X12_putOperand (μ.1 64 a1.toNatClampNeg) μ) (fun μ17 => bw (p_X12_put (59 : Int32) μ17) (fun μ19 => some ((μ19.1 0 139), μ19)))) else bw (p_X12_putItem a2 μ) (fun μ21 => bv (a2 + 1) (fun v23 => ih a1 v23 μ21))))) n, fun  _ _ _ => rfl, fun  _ _ _ _ => rfl⟩
noncomputable def p_X12_write_b83 : Nat → Int32 → Int32 → Mem → Option (Int32 × Mem) := Classical.choose p_X12_write_b83_ex
theorem p_X12_write_b83_z (a1 : Int32) (a2 : Int32) (μ : Mem) : p_X12_write_b83  0 a1 a2 μ = none := (Classical.choose_spec p_X12_write_b83_ex).1  a1 a2 μ
theorem p_X12_write_b83_s (n : Nat) (a1 : Int32) (a2 : Int32) (μ : Mem) : p_X12_write_b83  (n + 1) a1 a2 μ = gd (inb a1 25) ((if (μ.1 63 a1.toNatClampNeg) ≤ a2 then gd (inb a1 25) (bw (p_X12_putOperand (μ.1 64 a1.toNatClampNeg) μ) (fun μ17 => bw (p_X12_put (59 : Int32) μ17) (fun μ19 => some ((μ19.1 0 139), μ19)))) else bw (p_X12_putItem a2 μ) (fun μ21 => bv (a2 + 1) (fun v23 => p_X12_write_b83  n a1 v23 μ21)))) := (Classical.choose_spec p_X12_write_b83_ex).2  n a1 a2 μ
set_option maxHeartbeats 4000000 in
set_option maxRecDepth 100000 in
theorem t_X12_write_b83 (l : Launch) (G : Gt) (ad : Nat → Nat) (av : List Value) {r : Int32} {μz : Mem} : ∀ (n : Nat) (a1 : Int32) (a2 : Int32) (μ : Mem), p_X12_write_b83  n a1 a2 μ = some (r, μz) → Bk l cX12_write 3 RX12 (some .int) ({ frames := 7, cells := 0, slots := 0, locals := 161 } : Room) G av (eI 1 G ad r μz) (wd 1 G ad μ) 83 [(0, .ref (ad 0)), (1, .int a1), (2, .int a2)] [] := by
  intro n
  induction n with
  | zero => intro a1 a2 μ h; rw [p_X12_write_b83_z] at h; cases h
  | succ n ih =>
    intro a1 a2 μ h p e s m below meth c A ls H locs cx hr hlk hA hl hw
    have hx := cx.1
    have hb := cx.2.1
    rw [p_X12_write_b83_s] at h
    refine lv_iload_n hx hb dX12_write_83 rfl (lv_at hl 2 rfl) ?_
    refine lv_aload_n hx hb dX12_write_84 rfl (lv_at hl 0 rfl) ?_
    refine g_get cx hw inX12 (ci := 11) rfl 106 (by decide) rfl (v := .ref (ad 63)) shm_0 rfl fl_X12_205 dX12_write_85 ?_
    refine lv_iload_n hx hb dX12_write_88 rfl (lv_at hl 1 rfl) ?_
    refine g_iald cx hw shm_63 h dX12_write_89 (fun h => ?_)
    refine lv_icmp_ge (tgt := 104) hx hb dX12_write_90 (by decide) (fun c16 => ?_) (fun c16 => ?_)
    · rw [if_pos c16] at h
      refine lv_aload_n hx hb dX12_write_104 rfl (lv_at hl 0 rfl) ?_
      refine lv_aload_n hx hb dX12_write_105 rfl (lv_at hl 0 rfl) ?_
      refine g_get cx hw inX12 (ci := 11) rfl 107 (by decide) rfl (v := .ref (ad 64)) shm_0 rfl fl_X12_208 dX12_write_106 ?_
      refine lv_iload_n hx hb dX12_write_109 rfl (lv_at hl 1 rfl) ?_
      refine g_iald cx hw shm_64 h dX12_write_110 (fun h => ?_)
      obtain ⟨μ17, gμ17, h⟩ := bw_some h
      refine g_callVV (As := [.int (μ.1 64 a1.toNatClampNeg)]) (rest := []) cx hw hA (t_X12_putOperand l G ad (μ.1 64 a1.toNatClampNeg) μ gμ17) shm_0 rfl ml_X12_881 im_X12_putOperand se_X12_putOperand in_X12 co_X12_putOperand rfl hd_X12_putOperand rfl ⟨(Nat.le_of_ble_eq_true rfl), (Nat.le_of_ble_eq_true rfl)⟩ hl.1 rfl (Nat.le_of_ble_eq_true rfl) dX12_write_111 ⟨rfl, rfl⟩ (fun H locs hw => ?_)
      refine lv_aload_n hx hb dX12_write_114 rfl (lv_at hl 0 rfl) ?_
      refine lv_bipush (v := 59) hx hb dX12_write_115 (by decide) ?_
      obtain ⟨μ19, gμ19, h⟩ := bw_some h
      refine g_callVV (As := [.int 59]) (rest := []) cx hw hA (t_X12_put l G ad (59 : Int32) μ17 gμ19) shm_0 rfl ml_X12_862 im_X12_put se_X12_put in_X12 co_X12_put rfl hd_X12_put rfl ⟨(Nat.le_of_ble_eq_true rfl), (Nat.le_of_ble_eq_true rfl)⟩ hl.1 rfl (Nat.le_of_ble_eq_true rfl) dX12_write_117 ⟨rfl, rfl⟩ (fun H locs hw => ?_)
      refine lv_aload_n hx hb dX12_write_120 rfl (lv_at hl 0 rfl) ?_
      refine g_get cx hw inX12 (ci := 11) rfl 139 (by decide) rfl (v := .int (μ19.1 0 139)) shm_0 rfl fl_X12_859 dX12_write_121 ?_
      exact g_iret cx hr hlk hw h dX12_write_124
    · rw [if_neg c16] at h
      refine lv_aload_n hx hb dX12_write_93 rfl (lv_at hl 0 rfl) ?_
      refine lv_iload_n hx hb dX12_write_94 rfl (lv_at hl 2 rfl) ?_
      obtain ⟨μ21, gμ21, h⟩ := bw_some h
      refine g_callVV (As := [.int a2]) (rest := []) cx hw hA (t_X12_putItem l G ad a2 μ gμ21) shm_0 rfl ml_X12_893 im_X12_putItem se_X12_putItem in_X12 co_X12_putItem rfl hd_X12_putItem rfl ⟨(Nat.le_of_ble_eq_true rfl), (Nat.le_of_ble_eq_true rfl)⟩ hl.1 rfl (Nat.le_of_ble_eq_true rfl) dX12_write_95 ⟨rfl, rfl⟩ (fun H locs hw => ?_)
      obtain ⟨v23, ev23, h⟩ := bv_ex h
      refine lv_iinc (v := v23) (lv' := [(2, .int v23), (0, .ref (ad 0)), (1, .int a1)]) hx hb dX12_write_98 hl (k := 2) rfl (by rw [ev23]; rfl) (by decide) rfl (fun ls hl => ?_)
      refine lv_goto (tgt := 83) hx hb dX12_write_101 (by decide) ?_
      exact ih a1 v23 μ21 h p e s m below meth c A ls H locs cx hr hlk hA (lv_sub hl [1, 2, 0] rfl) hw
theorem p_X12_write_ex : ∃ f : Int32 → Mem → Option (Int32 × Mem), ∀ (a1 : Int32) (μ : Mem), f a1 μ = bd (p_X12_isVariant a1 μ) (fun r2 μ1 => (if r2 = (0 : Int32) then some ((-1 : Int32), μ1) else bv (sF μ1 0 139 (0 : Int32)) (fun μ4 => gd (inb a1 25) (gd (inb (μ4.1 57 a1.toNatClampNeg) 73) (bw (p_X12_put (((97 : Int32) + (μ4.1 2 (μ4.1 57 a1.toNatClampNeg).toNatClampNeg)) - (1 : Int32)) μ4) (fun μ5 => bw (p_X12_put (40 : Int32) μ5) (fun μ7 => gd (inb a1 25) (bw (p_X12_putParts 60 61 ((210 : Int32) * a1) (μ7.1 58 a1.toNatClampNeg) μ7) (fun μ9 => bw (p_X12_put (41 : Int32) μ9) (fun μ11 => bw (p_X12_put (61 : Int32) μ11) (fun μ13 => gd (inb a1 25) (bv (μ13.1 62 a1.toNatClampNeg) (fun v15 => p_X12_write_b83  FUEL a1 v15 μ13))))))))))))) := ⟨fun (a1 : Int32) (μ : Mem) => bd (p_X12_isVariant a1 μ) (fun r2 μ1 => (if r2 = (0 : Int32) then some ((-1 : Int32), μ1) else bv (sF μ1 0 139 (0 : Int32)) (fun μ4 => gd (inb a1 25) (gd (inb (μ4.1 57 a1.toNatClampNeg) 73) (bw (p_X12_put (((97 : Int32) + (μ4.1 2 (μ4.1 57 a1.toNatClampNeg).toNatClampNeg)) - (1 : Int32)) μ4) (fun μ5 => bw (p_X12_put (40 : Int32) μ5) (fun μ7 => gd (inb a1 25) (bw (p_X12_putParts 60 61 ((210 : Int32) * a1) (μ7.1 58 a1.toNatClampNeg) μ7) (fun μ9 => bw (p_X12_put (41 : Int32) μ9) (fun μ11 => bw (p_X12_put (61 : Int32) μ11) (fun μ13 => gd (inb a1 25) (bv (μ13.1 62 a1.toNatClampNeg) (fun v15 => p_X12_write_b83  FUEL a1 v15 μ13))))))))))))), fun _ _ => rfl⟩
noncomputable def p_X12_write : Int32 → Mem → Option (Int32 × Mem) := Classical.choose p_X12_write_ex
theorem p_X12_write_eq (a1 : Int32) (μ : Mem) : p_X12_write a1 μ = bd (p_X12_isVariant a1 μ) (fun r2 μ1 => (if r2 = (0 : Int32) then some ((-1 : Int32), μ1) else bv (sF μ1 0 139 (0 : Int32)) (fun μ4 => gd (inb a1 25) (gd (inb (μ4.1 57 a1.toNatClampNeg) 73) (bw (p_X12_put (((97 : Int32) + (μ4.1 2 (μ4.1 57 a1.toNatClampNeg).toNatClampNeg)) - (1 : Int32)) μ4) (fun μ5 => bw (p_X12_put (40 : Int32) μ5) (fun μ7 => gd (inb a1 25) (bw (p_X12_putParts 60 61 ((210 : Int32) * a1) (μ7.1 58 a1.toNatClampNeg) μ7) (fun μ9 => bw (p_X12_put (41 : Int32) μ9) (fun μ11 => bw (p_X12_put (61 : Int32) μ11) (fun μ13 => gd (inb a1 25) (bv (μ13.1 62 a1.toNatClampNeg) (fun v15 => p_X12_write_b83  FUEL a1 v15 μ13))))))))))))) := Classical.choose_spec p_X12_write_ex a1 μ
set_option maxHeartbeats 4000000 in
set_option maxRecDepth 100000 in
theorem t_X12_write (l : Launch) (G : Gt) (ad : Nat → Nat) (a1 : Int32) (μ : Mem) {r : Int32} {μz : Mem} (h : p_X12_write a1 μ = some (r, μz)) : Mt l yX12_write cX12_write 3 (some .int) ({ frames := 7, cells := 0, slots := 0, locals := 161 } : Room) G [.ref (ad 0), .int a1] (wd 1 G ad μ) (eI 1 G ad r μz) := by
  refine Bk.mt (by decide) rfl (Nat.le_of_ble_eq_true rfl) ?_
  intro p e s m below meth c A ls H locs cx hr hlk hA hl hw
  have hx := cx.1
  have hb := cx.2.1
  have hl : lv_has ls 3 [(0, .ref (ad 0)), (1, .int a1)] := hl
  rw [p_X12_write_eq] at h
  refine lv_aload_n hx hb dX12_write_0 rfl (lv_at hl 0 rfl) ?_
  refine lv_iload_n hx hb dX12_write_1 rfl (lv_at hl 1 rfl) ?_
  obtain ⟨r2, μ1, gr2, h⟩ := bd_some h
  refine g_callVI (As := [.int a1]) (rest := []) cx hw hA (t_X12_isVariant l G ad a1 μ gr2) shm_0 rfl ml_X12_785 im_X12_isVariant se_X12_isVariant in_X12 co_X12_isVariant rfl hd_X12_isVariant rfl ⟨(Nat.le_of_ble_eq_true rfl), (Nat.le_of_ble_eq_true rfl)⟩ hl.1 rfl (Nat.le_of_ble_eq_true rfl) dX12_write_2 ⟨rfl, rfl⟩ (fun H locs hw => ?_)
  refine lv_if_ne (tgt := 10) hx hb dX12_write_5 (by decide) (fun c3 => ?_) (fun c3 => ?_)
  · rw [if_neg c3] at h
    refine lv_aload_n hx hb dX12_write_10 rfl (lv_at hl 0 rfl) ?_
    refine lv_iconst (v := 0) hx hb dX12_write_11 (by decide) ?_
    refine g_put cx hw inX12 (ci := 11) rfl tyX12_ok nmX12 139 (by decide) rfl rfl rfl rfl shm_0 h fl_X12_859 dX12_write_12 (fun μ4 H locs h hw => ?_)
    refine lv_aload_n hx hb dX12_write_15 rfl (lv_at hl 0 rfl) ?_
    refine lv_bipush (v := 97) hx hb dX12_write_16 (by decide) ?_
    refine lv_aload_n hx hb dX12_write_18 rfl (lv_at hl 0 rfl) ?_
    refine g_get cx hw inX12 (ci := 11) rfl 8 (by decide) rfl (v := .ref (ad 2)) shm_0 rfl fl_X12_17 dX12_write_19 ?_
    refine lv_aload_n hx hb dX12_write_22 rfl (lv_at hl 0 rfl) ?_
    refine g_get cx hw inX12 (ci := 11) rfl 100 (by decide) rfl (v := .ref (ad 57)) shm_0 rfl fl_X12_187 dX12_write_23 ?_
    refine lv_iload_n hx hb dX12_write_26 rfl (lv_at hl 1 rfl) ?_
    refine g_iald cx hw shm_57 h dX12_write_27 (fun h => ?_)
    refine g_iald cx hw shm_2 h dX12_write_28 (fun h => ?_)
    refine lv_iadd hx hb dX12_write_29 ?_
    refine lv_iconst (v := 1) hx hb dX12_write_30 (by decide) ?_
    refine lv_isub hx hb dX12_write_31 ?_
    obtain ⟨μ5, gμ5, h⟩ := bw_some h
    refine g_callVV (As := [.int (((97 : Int32) + (μ4.1 2 (μ4.1 57 a1.toNatClampNeg).toNatClampNeg)) - (1 : Int32))]) (rest := []) cx hw hA (t_X12_put l G ad (((97 : Int32) + (μ4.1 2 (μ4.1 57 a1.toNatClampNeg).toNatClampNeg)) - (1 : Int32)) μ4 gμ5) shm_0 rfl ml_X12_862 im_X12_put se_X12_put in_X12 co_X12_put rfl hd_X12_put rfl ⟨(Nat.le_of_ble_eq_true rfl), (Nat.le_of_ble_eq_true rfl)⟩ hl.1 rfl (Nat.le_of_ble_eq_true rfl) dX12_write_32 ⟨rfl, rfl⟩ (fun H locs hw => ?_)
    refine lv_aload_n hx hb dX12_write_35 rfl (lv_at hl 0 rfl) ?_
    refine lv_bipush (v := 40) hx hb dX12_write_36 (by decide) ?_
    obtain ⟨μ7, gμ7, h⟩ := bw_some h
    refine g_callVV (As := [.int 40]) (rest := []) cx hw hA (t_X12_put l G ad (40 : Int32) μ5 gμ7) shm_0 rfl ml_X12_862 im_X12_put se_X12_put in_X12 co_X12_put rfl hd_X12_put rfl ⟨(Nat.le_of_ble_eq_true rfl), (Nat.le_of_ble_eq_true rfl)⟩ hl.1 rfl (Nat.le_of_ble_eq_true rfl) dX12_write_38 ⟨rfl, rfl⟩ (fun H locs hw => ?_)
    refine lv_aload_n hx hb dX12_write_41 rfl (lv_at hl 0 rfl) ?_
    refine lv_aload_n hx hb dX12_write_42 rfl (lv_at hl 0 rfl) ?_
    refine g_get cx hw inX12 (ci := 11) rfl 103 (by decide) rfl (v := .ref (ad 60)) shm_0 rfl fl_X12_196 dX12_write_43 ?_
    refine lv_aload_n hx hb dX12_write_46 rfl (lv_at hl 0 rfl) ?_
    refine g_get cx hw inX12 (ci := 11) rfl 104 (by decide) rfl (v := .ref (ad 61)) shm_0 rfl fl_X12_199 dX12_write_47 ?_
    refine lv_sipush (v := 210) hx hb dX12_write_50 (by decide) ?_
    refine lv_iload_n hx hb dX12_write_53 rfl (lv_at hl 1 rfl) ?_
    refine lv_imul hx hb dX12_write_54 ?_
    refine lv_aload_n hx hb dX12_write_55 rfl (lv_at hl 0 rfl) ?_
    refine g_get cx hw inX12 (ci := 11) rfl 101 (by decide) rfl (v := .ref (ad 58)) shm_0 rfl fl_X12_190 dX12_write_56 ?_
    refine lv_iload_n hx hb dX12_write_59 rfl (lv_at hl 1 rfl) ?_
    refine g_iald cx hw shm_58 h dX12_write_60 (fun h => ?_)
    obtain ⟨μ9, gμ9, h⟩ := bw_some h
    refine g_callVV (As := [.ref (ad 60), .ref (ad 61), .int ((210 : Int32) * a1), .int (μ7.1 58 a1.toNatClampNeg)]) (rest := []) cx hw hA (t_X12_putParts l G ad 60 (sh_f shm_60) 61 (sh_f shm_61) ((210 : Int32) * a1) (μ7.1 58 a1.toNatClampNeg) μ7 gμ9) shm_0 rfl ml_X12_877 im_X12_putParts se_X12_putParts in_X12 co_X12_putParts rfl hd_X12_putParts rfl ⟨(Nat.le_of_ble_eq_true rfl), (Nat.le_of_ble_eq_true rfl)⟩ hl.1 rfl (Nat.le_of_ble_eq_true rfl) dX12_write_61 ⟨rfl, rfl⟩ (fun H locs hw => ?_)
    refine lv_aload_n hx hb dX12_write_64 rfl (lv_at hl 0 rfl) ?_
    refine lv_bipush (v := 41) hx hb dX12_write_65 (by decide) ?_
    obtain ⟨μ11, gμ11, h⟩ := bw_some h
    refine g_callVV (As := [.int 41]) (rest := []) cx hw hA (t_X12_put l G ad (41 : Int32) μ9 gμ11) shm_0 rfl ml_X12_862 im_X12_put se_X12_put in_X12 co_X12_put rfl hd_X12_put rfl ⟨(Nat.le_of_ble_eq_true rfl), (Nat.le_of_ble_eq_true rfl)⟩ hl.1 rfl (Nat.le_of_ble_eq_true rfl) dX12_write_67 ⟨rfl, rfl⟩ (fun H locs hw => ?_)
    refine lv_aload_n hx hb dX12_write_70 rfl (lv_at hl 0 rfl) ?_
    refine lv_bipush (v := 61) hx hb dX12_write_71 (by decide) ?_
    obtain ⟨μ13, gμ13, h⟩ := bw_some h
    refine g_callVV (As := [.int 61]) (rest := []) cx hw hA (t_X12_put l G ad (61 : Int32) μ11 gμ13) shm_0 rfl ml_X12_862 im_X12_put se_X12_put in_X12 co_X12_put rfl hd_X12_put rfl ⟨(Nat.le_of_ble_eq_true rfl), (Nat.le_of_ble_eq_true rfl)⟩ hl.1 rfl (Nat.le_of_ble_eq_true rfl) dX12_write_73 ⟨rfl, rfl⟩ (fun H locs hw => ?_)
    refine lv_aload_n hx hb dX12_write_76 rfl (lv_at hl 0 rfl) ?_
    refine g_get cx hw inX12 (ci := 11) rfl 105 (by decide) rfl (v := .ref (ad 62)) shm_0 rfl fl_X12_202 dX12_write_77 ?_
    refine lv_iload_n hx hb dX12_write_80 rfl (lv_at hl 1 rfl) ?_
    refine g_iald cx hw shm_62 h dX12_write_81 (fun h => ?_)
    obtain ⟨v15, ev15, h⟩ := bv_ex h
    refine lv_topi (fun y9 z9 => ?_)
    obtain rfl : v15 = y9 := ev15.trans z9.symm
    refine lv_istore_n (lv' := [(2, .int v15), (0, .ref (ad 0)), (1, .int a1)]) hx hb dX12_write_82 rfl hl (by decide) rfl (fun ls hl => ?_)
    exact t_X12_write_b83 l G ad _  FUEL a1 v15 μ13 h p e s m below meth c A ls H locs cx hr hlk hA (lv_sub hl [1, 2, 0] rfl) hw
  · rw [if_pos c3] at h
    refine lv_iconst (v := (-1)) hx hb dX12_write_8 (by decide) ?_
    exact g_iret cx hr hlk hw h dX12_write_9

theorem p_X12_octet_ex : ∃ f : Int32 → Mem → Option (Int32 × Mem), ∀ (a1 : Int32) (μ : Mem), f a1 μ = (if (s_X12_isIn a1 (0 : Int32) ((μ.1 0 139) - (1 : Int32))) = (0 : Int32) then some ((-1 : Int32), μ) else gd (inb a1 50000) (some ((μ.1 88 a1.toNatClampNeg), μ))) := ⟨fun (a1 : Int32) (μ : Mem) => (if (s_X12_isIn a1 (0 : Int32) ((μ.1 0 139) - (1 : Int32))) = (0 : Int32) then some ((-1 : Int32), μ) else gd (inb a1 50000) (some ((μ.1 88 a1.toNatClampNeg), μ))), fun _ _ => rfl⟩
noncomputable def p_X12_octet : Int32 → Mem → Option (Int32 × Mem) := Classical.choose p_X12_octet_ex
theorem p_X12_octet_eq (a1 : Int32) (μ : Mem) : p_X12_octet a1 μ = (if (s_X12_isIn a1 (0 : Int32) ((μ.1 0 139) - (1 : Int32))) = (0 : Int32) then some ((-1 : Int32), μ) else gd (inb a1 50000) (some ((μ.1 88 a1.toNatClampNeg), μ))) := Classical.choose_spec p_X12_octet_ex a1 μ
set_option maxHeartbeats 4000000 in
set_option maxRecDepth 100000 in
theorem t_X12_octet (l : Launch) (G : Gt) (ad : Nat → Nat) (a1 : Int32) (μ : Mem) {r : Int32} {μz : Mem} (h : p_X12_octet a1 μ = some (r, μz)) : Mt l yX12_octet cX12_octet 2 (some .int) ({ frames := 1, cells := 0, slots := 0, locals := 22 } : Room) G [.ref (ad 0), .int a1] (wd 1 G ad μ) (eI 1 G ad r μz) := by
  refine Bk.mt (by decide) rfl (Nat.le_of_ble_eq_true rfl) ?_
  intro p e s m below meth c A ls H locs cx hr hlk hA hl hw
  have hx := cx.1
  have hb := cx.2.1
  have hl : lv_has ls 2 [(0, .ref (ad 0)), (1, .int a1)] := hl
  rw [p_X12_octet_eq] at h
  refine lv_iload_n hx hb dX12_octet_0 rfl (lv_at hl 1 rfl) ?_
  refine lv_iconst (v := 0) hx hb dX12_octet_1 (by decide) ?_
  refine lv_aload_n hx hb dX12_octet_2 rfl (lv_at hl 0 rfl) ?_
  refine g_get cx hw inX12 (ci := 11) rfl 139 (by decide) rfl (v := .int (μ.1 0 139)) shm_0 rfl fl_X12_859 dX12_octet_3 ?_
  refine lv_iconst (v := 1) hx hb dX12_octet_6 (by decide) ?_
  refine lv_isub hx hb dX12_octet_7 ?_
  refine s_callI (As := [.int a1, .int 0, .int ((μ.1 0 139) - (1 : Int32))]) (rest := []) cx hw hA (t_X12_isIn l G a1 (0 : Int32) ((μ.1 0 139) - (1 : Int32))) ml_X12_359 st_X12_isIn in_X12 co_X12_isIn hd_X12_isIn rfl ⟨(Nat.le_of_ble_eq_true rfl), (Nat.le_of_ble_eq_true rfl)⟩ hl.1 rfl (Nat.le_of_ble_eq_true rfl) dX12_octet_8 rfl (fun H locs hw => ?_)
  refine lv_if_eq (tgt := 23) hx hb dX12_octet_11 (by decide) (fun c1 => ?_) (fun c1 => ?_)
  · rw [if_pos c1] at h
    refine lv_iconst (v := (-1)) hx hb dX12_octet_23 (by decide) ?_
    exact g_iret cx hr hlk hw h dX12_octet_24
  · rw [if_neg c1] at h
    refine lv_aload_n hx hb dX12_octet_14 rfl (lv_at hl 0 rfl) ?_
    refine g_get cx hw inX12 (ci := 11) rfl 138 (by decide) rfl (v := .ref (ad 88)) shm_0 rfl fl_X12_281 dX12_octet_15 ?_
    refine lv_iload_n hx hb dX12_octet_18 rfl (lv_at hl 1 rfl) ?_
    refine g_bald cx hw shm_88 h dX12_octet_19 (fun h => ?_)
    refine lv_goto (tgt := 24) hx hb dX12_octet_20 (by decide) ?_
    exact g_iret cx hr hlk hw h dX12_octet_24
