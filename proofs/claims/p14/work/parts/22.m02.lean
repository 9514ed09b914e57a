theorem p_X12_beginsNumber_ex : ∃ f : Mem → Option (Int32 × Mem), ∀  (μ : Mem), f  μ = bd (p_X12_here μ) (fun r2 μ1 => (if (s_X12_isFigure r2) = (0 : Int32) then bd (p_X12_here μ1) (fun r5 μ4 => (if r5 = (45 : Int32) then some ((1 : Int32), μ4) else some ((0 : Int32), μ4))) else some ((1 : Int32), μ1))) := ⟨fun  (μ : Mem) => bd (p_X12_here μ) (fun r2 μ1 => (if (s_X12_isFigure r2) = (0 : Int32) then bd (p_X12_here μ1) (fun r5 μ4 => (if r5 = (45 : Int32) then some ((1 : Int32), μ4) else some ((0 : Int32), μ4))) else some ((1 : Int32), μ1))), fun _ => rfl⟩
noncomputable def p_X12_beginsNumber : Mem → Option (Int32 × Mem) := Classical.choose p_X12_beginsNumber_ex
theorem p_X12_beginsNumber_eq  (μ : Mem) : p_X12_beginsNumber  μ = bd (p_X12_here μ) (fun r2 μ1 => (if (s_X12_isFigure r2) = (0 : Int32) then bd (p_X12_here μ1) (fun r5 μ4 => (if r5 = (45 : Int32) then some ((1 : Int32), μ4) else some ((0 : Int32), μ4))) else some ((1 : Int32), μ1))) := Classical.choose_spec p_X12_beginsNumber_ex  μ
set_option maxHeartbeats 4000000 in
set_option maxRecDepth 100000 in
theorem t_X12_beginsNumber (l : Launch) (G : Gt) (ad : Nat → Nat)  (μ : Mem) {r : Int32} {μz : Mem} (h : p_X12_beginsNumber  μ = some (r, μz)) : Mt l yX12_beginsNumber cX12_beginsNumber 1 (some .boolean) ({ frames := 1, cells := 0, slots := 0, locals := 20 } : Room) G [.ref (ad 0)] (wd 1 G ad μ) (eI 1 G ad r μz) := by
  refine Bk.mt (by decide) rfl (Nat.le_of_ble_eq_true rfl) ?_
  intro p e s m below meth c A ls H locs cx hr hlk hA hl hw
  have hx := cx.1
  have hb := cx.2.1
  have hl : lv_has ls 1 [(0, .ref (ad 0))] := hl
  rw [p_X12_beginsNumber_eq] at h
  refine lv_aload_n hx hb dX12_beginsNumber_0 rfl (lv_at hl 0 rfl) ?_
  obtain ⟨r2, μ1, gr2, h⟩ := bd_some h
  refine g_callVI (As := []) (rest := []) cx hw hA (t_X12_here l G ad μ gr2) shm_0 rfl ml_X12_365 im_X12_here se_X12_here in_X12 co_X12_here rfl hd_X12_here rfl ⟨(Nat.le_of_ble_eq_true rfl), (Nat.le_of_ble_eq_true rfl)⟩ hl.1 rfl (Nat.le_of_ble_eq_true rfl) dX12_beginsNumber_1 ⟨rfl, rfl⟩ (fun H locs hw => ?_)
  refine s_callI (As := [.int r2]) (rest := []) cx hw hA (t_X12_isFigure l G r2) ml_X12_372 st_X12_isFigure in_X12 co_X12_isFigure hd_X12_isFigure rfl ⟨(Nat.le_of_ble_eq_true rfl), (Nat.le_of_ble_eq_true rfl)⟩ hl.1 rfl (Nat.le_of_ble_eq_true rfl) dX12_beginsNumber_4 rfl (fun H locs hw => ?_)
  refine lv_if_ne (tgt := 19) hx hb dX12_beginsNumber_7 (by decide) (fun c3 => ?_) (fun c3 => ?_)
  · rw [if_neg c3] at h
    refine lv_iconst (v := 1) hx hb dX12_beginsNumber_19 (by decide) ?_
    refine lv_goto (tgt := 24) hx hb dX12_beginsNumber_20 (by decide) ?_
    exact g_zret cx hr hlk rfl hw h dX12_beginsNumber_24
  · rw [if_pos c3] at h
    refine lv_aload_n hx hb dX12_beginsNumber_10 rfl (lv_at hl 0 rfl) ?_
    obtain ⟨r5, μ4, gr5, h⟩ := bd_some h
    refine g_callVI (As := []) (rest := []) cx hw hA (t_X12_here l G ad μ1 gr5) shm_0 rfl ml_X12_365 im_X12_here se_X12_here in_X12 co_X12_here rfl hd_X12_here rfl ⟨(Nat.le_of_ble_eq_true rfl), (Nat.le_of_ble_eq_true rfl)⟩ hl.1 rfl (Nat.le_of_ble_eq_true rfl) dX12_beginsNumber_11 ⟨rfl, rfl⟩ (fun H locs hw => ?_)
    refine lv_bipush (v := 45) hx hb dX12_beginsNumber_14 (by decide) ?_
    refine lv_icmp_ne (tgt := 23) hx hb dX12_beginsNumber_16 (by decide) (fun c6 => ?_) (fun c6 => ?_)
    · rw [if_neg c6] at h
      refine lv_iconst (v := 0) hx hb dX12_beginsNumber_23 (by decide) ?_
      exact g_zret cx hr hlk rfl hw h dX12_beginsNumber_24
    · rw [if_pos c6] at h
      refine lv_iconst (v := 1) hx hb dX12_beginsNumber_19 (by decide) ?_
      refine lv_goto (tgt := 24) hx hb dX12_beginsNumber_20 (by decide) ?_
      exact g_zret cx hr hlk rfl hw h dX12_beginsNumber_24

theorem p_X12_digits_b8_ex : ∃ f : Nat → Int32 → Int32 → Int32 → Mem → Option (Int32 × Mem), (∀ (a1 : Int32) (a3 : Int32) (a4 : Int32) (μ : Mem), f  0 a1 a3 a4 μ = none) ∧ (∀ (n : Nat) (a1 : Int32) (a3 : Int32) (a4 : Int32) (μ : Mem), f  (n + 1) a1 a3 a4 μ = bd (p_X12_here μ) (fun r3 μ2 => (if (s_X12_isFigure r3) = (0 : Int32) then some (a3, μ2) else (if a1 ≤ ((μ2.1 0 4) - a4) then some (a3, μ2) else bd (p_X12_here μ2) (fun r7 μ6 => bv ((((10 : Int32) * a3) + r7) - (48 : Int32)) (fun v8 => bv (sF μ6 0 4 ((μ6.1 0 4) + (1 : Int32))) (fun μ9 => f n a1 v8 a4 μ9))))))) := ⟨fun n => Nat.rec (fun (a1 : Int32) (a3 : Int32) (a4 : Int32) (μ : Mem) => none) (fun _ ih => fun (a1 : Int32) (a3 : Int32) (a4 : Int32) (μ : Mem) => bd (p_X12_here μ) (fun r3 μ2 => (if (s_X12_isFigure r3) = (0 : Int32) then some (a3, μ2) else (if a1 ≤ ((μ2.1 0 4) - a4) then some (a3, μ2) else bd (p_X12_here μ2) (fun r7 μ6 => bv ((((10 : Int32) * a3) + r7) - (48 : Int32)) (fun v8 => bv (sF μ6 0 4 ((μ6.1 0 4) + (1 : Int32))) (fun μ9 => ih a1 v8 a4 μ9))))))) n, fun  _ _ _ _ => rfl, fun  _ _ _ _ _ => rfl⟩
noncomputable def p_X12_digits_b8 : Nat → Int32 → Int32 → Int32 → Mem → Option (Int32 × Mem) := Classical.choose p_X12_digits_b8_ex
theorem p_X12_digits_b8_z (a1 : Int32) (a3 : Int32) (a4 : Int32) (μ : Mem) : p_X12_digits_b8  0 a1 a3 a4 μ = none := (Classical.choose_spec p_X12_digits_b8_ex).1  a1 a3 a4 μ
theorem p_X12_digits_b8_s (n : Nat) (a1 : Int32) (a3 : Int32) (a4 : Int32) (μ : Mem) : p_X12_digits_b8  (n + 1) a1 a3 a4 μ = bd (p_X12_here μ) (fun r3 μ2 => (if (s_X12_isFigure r3) = (0 : Int32) then some (a3, μ2) else (if a1 ≤ ((μ2.1 0 4) - a4) then some (a3, μ2) else bd (p_X12_here μ2) (fun r7 μ6 => bv ((((10 : Int32) * a3) + r7) - (48 : Int32)) (fun v8 => bv (sF μ6 0 4 ((μ6.1 0 4) + (1 : Int32))) (fun μ9 => p_X12_digits_b8  n a1 v8 a4 μ9)))))) := (Classical.choose_spec p_X12_digits_b8_ex).2  n a1 a3 a4 μ
set_option maxHeartbeats 4000000 in
set_option maxRecDepth 100000 in
theorem t_X12_digits_b8 (l : Launch) (G : Gt) (ad : Nat → Nat) (av : List Value) {r : Int32} {μz : Mem} : ∀ (n : Nat) (a1 : Int32) (a3 : Int32) (a4 : Int32) (μ : Mem), p_X12_digits_b8  n a1 a3 a4 μ = some (r, μz) → Bk l cX12_digits 5 RX12 (some .int) ({ frames := 1, cells := 0, slots := 0, locals := 20 } : Room) G av (eI 1 G ad r μz) (wd 1 G ad μ) 8 [(0, .ref (ad 0)), (1, .int a1), (3, .int a3), (4, .int a4)] [] := by
  intro n
  induction n with
  | zero => intro a1 a3 a4 μ h; rw [p_X12_digits_b8_z] at h; cases h
  | succ n ih =>
    intro a1 a3 a4 μ h p e s m below meth c A ls H locs cx hr hlk hA hl hw
    have hx := cx.1
    have hb := cx.2.1
    rw [p_X12_digits_b8_s] at h
    refine lv_aload_n hx hb dX12_digits_8 rfl (lv_at hl 0 rfl) ?_
    obtain ⟨r3, μ2, gr3, h⟩ := bd_some h
    refine g_callVI (As := []) (rest := []) cx hw hA (t_X12_here l G ad μ gr3) shm_0 rfl ml_X12_365 im_X12_here se_X12_here in_X12 co_X12_here rfl hd_X12_here rfl ⟨(Nat.le_of_ble_eq_true rfl), (Nat.le_of_ble_eq_true rfl)⟩ hl.1 rfl (Nat.le_of_ble_eq_true rfl) dX12_digits_9 ⟨rfl, rfl⟩ (fun H locs hw => ?_)
    refine s_callI (As := [.int r3]) (rest := []) cx hw hA (t_X12_isFigure l G r3) ml_X12_372 st_X12_isFigure in_X12 co_X12_isFigure hd_X12_isFigure rfl ⟨(Nat.le_of_ble_eq_true rfl), (Nat.le_of_ble_eq_true rfl)⟩ hl.1 rfl (Nat.le_of_ble_eq_true rfl) dX12_digits_12 rfl (fun H locs hw => ?_)
    refine lv_if_eq (tgt := 55) hx hb dX12_digits_15 (by decide) (fun c4 => ?_) (fun c4 => ?_)
    · rw [if_pos c4] at h
      refine lv_iload_n hx hb dX12_digits_55 rfl (lv_at hl 2 rfl) ?_
      exact g_iret cx hr hlk hw h dX12_digits_56
    · rw [if_neg c4] at h
      refine lv_aload_n hx hb dX12_digits_18 rfl (lv_at hl 0 rfl) ?_
      refine g_get cx hw inX12 (ci := 11) rfl 4 (by decide) rfl (v := .int (μ2.1 0 4)) shm_0 rfl fl_X12_362 dX12_digits_19 ?_
      refine lv_iload hx hb dX12_digits_22 (lv_at hl 3 rfl) ?_
      refine lv_isub hx hb dX12_digits_24 ?_
      refine lv_iload_n hx hb dX12_digits_25 rfl (lv_at hl 1 rfl) ?_
      refine lv_icmp_ge (tgt := 55) hx hb dX12_digits_26 (by decide) (fun c5 => ?_) (fun c5 => ?_)
      · rw [if_pos c5] at h
        refine lv_iload_n hx hb dX12_digits_55 rfl (lv_at hl 2 rfl) ?_
        exact g_iret cx hr hlk hw h dX12_digits_56
      · rw [if_neg c5] at h
        refine lv_bipush (v := 10) hx hb dX12_digits_29 (by decide) ?_
        refine lv_iload_n hx hb dX12_digits_31 rfl (lv_at hl 2 rfl) ?_
        refine lv_imul hx hb dX12_digits_32 ?_
        refine lv_aload_n hx hb dX12_digits_33 rfl (lv_at hl 0 rfl) ?_
        obtain ⟨r7, μ6, gr7, h⟩ := bd_some h
        refine g_callVI (As := []) (rest := [.int ((10 : Int32) * a3)]) cx hw hA (t_X12_here l G ad μ2 gr7) shm_0 rfl ml_X12_365 im_X12_here se_X12_here in_X12 co_X12_here rfl hd_X12_here rfl ⟨(Nat.le_of_ble_eq_true rfl), (Nat.le_of_ble_eq_true rfl)⟩ hl.1 rfl (Nat.le_of_ble_eq_true rfl) dX12_digits_34 ⟨rfl, rfl⟩ (fun H locs hw => ?_)
        refine lv_iadd hx hb dX12_digits_37 ?_
        refine lv_bipush (v := 48) hx hb dX12_digits_38 (by decide) ?_
        refine lv_isub hx hb dX12_digits_40 ?_
        obtain ⟨v8, ev8, h⟩ := bv_ex h
        refine lv_topi (fun y9 z9 => ?_)
        obtain rfl : v8 = y9 := ev8.trans z9.symm
        refine lv_istore_n (lv' := [(3, .int v8), (0, .ref (ad 0)), (1, .int a1), (4, .int a4)]) hx hb dX12_digits_41 rfl hl (by decide) rfl (fun ls hl => ?_)
        refine lv_aload_n hx hb dX12_digits_42 rfl (lv_at hl 1 rfl) ?_
        refine lv_dup hx hb dX12_digits_43 rfl ?_
        refine g_get cx hw inX12 (ci := 11) rfl 4 (by decide) rfl (v := .int (μ6.1 0 4)) shm_0 rfl fl_X12_362 dX12_digits_44 ?_
        refine lv_iconst (v := 1) hx hb dX12_digits_47 (by decide) ?_
        refine lv_iadd hx hb dX12_digits_48 ?_
        refine g_put cx hw inX12 (ci := 11) rfl tyX12_ok nmX12 4 (by decide) rfl rfl rfl rfl shm_0 h fl_X12_362 dX12_digits_49 (fun μ9 H locs h hw => ?_)
        refine lv_goto (tgt := 8) hx hb dX12_digits_52 (by decide) ?_
        exact ih a1 v8 a4 μ9 h p e s m below meth c A ls H locs cx hr hlk hA (lv_sub hl [1, 2, 0, 3] rfl) hw
theorem p_X12_digits_ex : ∃ f : Int32 → Int32 → Mem → Option (Int32 × Mem), ∀ (a1 : Int32) (a2 : Int32) (μ : Mem), f a1 a2 μ = bv (μ.1 0 4) (fun v1 => p_X12_digits_b8  FUEL a1 a2 v1 μ) := ⟨fun (a1 : Int32) (a2 : Int32) (μ : Mem) => bv (μ.1 0 4) (fun v1 => p_X12_digits_b8  FUEL a1 a2 v1 μ), fun _ _ _ => rfl⟩
noncomputable def p_X12_digits : Int32 → Int32 → Mem → Option (Int32 × Mem) := Classical.choose p_X12_digits_ex
theorem p_X12_digits_eq (a1 : Int32) (a2 : Int32) (μ : Mem) : p_X12_digits a1 a2 μ = bv (μ.1 0 4) (fun v1 => p_X12_digits_b8  FUEL a1 a2 v1 μ) := Classical.choose_spec p_X12_digits_ex a1 a2 μ
set_option maxHeartbeats 4000000 in
set_option maxRecDepth 100000 in
theorem t_X12_digits (l : Launch) (G : Gt) (ad : Nat → Nat) (a1 : Int32) (a2 : Int32) (μ : Mem) {r : Int32} {μz : Mem} (h : p_X12_digits a1 a2 μ = some (r, μz)) : Mt l yX12_digits cX12_digits 5 (some .int) ({ frames := 1, cells := 0, slots := 0, locals := 20 } : Room) G [.ref (ad 0), .int a1, .int a2] (wd 1 G ad μ) (eI 1 G ad r μz) := by
  refine Bk.mt (by decide) rfl (Nat.le_of_ble_eq_true rfl) ?_
  intro p e s m below meth c A ls H locs cx hr hlk hA hl hw
  have hx := cx.1
  have hb := cx.2.1
  have hl : lv_has ls 5 [(0, .ref (ad 0)), (1, .int a1), (2, .int a2)] := hl
  rw [p_X12_digits_eq] at h
  refine lv_iload_n hx hb dX12_digits_0 rfl (lv_at hl 2 rfl) ?_
  refine lv_istore_n (lv' := [(3, .int a2), (0, .ref (ad 0)), (1, .int a1), (2, .int a2)]) hx hb dX12_digits_1 rfl hl (by decide) rfl (fun ls hl => ?_)
  refine lv_aload_n hx hb dX12_digits_2 rfl (lv_at hl 1 rfl) ?_
  refine g_get cx hw inX12 (ci := 11) rfl 4 (by decide) rfl (v := .int (μ.1 0 4)) shm_0 rfl fl_X12_362 dX12_digits_3 ?_
  obtain ⟨v1, ev1, h⟩ := bv_ex h
  refine lv_topi (fun y9 z9 => ?_)
  obtain rfl : v1 = y9 := ev1.trans z9.symm
  refine lv_istore (lv' := [(4, .int v1), (3, .int a2), (0, .ref (ad 0)), (1, .int a1), (2, .int a2)]) hx hb dX12_digits_6 hl (by decide) rfl (fun ls hl => ?_)
  exact t_X12_digits_b8 l G ad _  FUEL a1 a2 v1 μ h p e s m below meth c A ls H locs cx hr hlk hA (lv_sub hl [2, 3, 1, 0] rfl) hw

theorem p_X12_readNumber_b161_ex : ∃ f : Int32 → Int32 → UInt32 → Mem → Option (Int32 × Mem), ∀ (a1 : Int32) (a2 : Int32) (k0 : UInt32) (μ : Mem), f a1 a2 k0 μ = bv (sF μ 0 6 (1 : Int32)) (fun μ25 => (if a1 = (0 : Int32) then gd (n32 (FP.fdiv (FP.i2f a2) k0)) (bv (sF μ25 0 7 (s_X12_bitsOf (FP.fdiv (FP.i2f a2) k0))) (fun μ28 => some ((1 : Int32), μ28))) else gd (n32 (FP.fdiv (FP.i2f (-a2)) k0)) (bv (sF μ25 0 7 (s_X12_bitsOf (FP.fdiv (FP.i2f (-a2)) k0))) (fun μ30 => some ((1 : Int32), μ30))))) := ⟨fun (a1 : Int32) (a2 : Int32) (k0 : UInt32) (μ : Mem) => bv (sF μ 0 6 (1 : Int32)) (fun μ25 => (if a1 = (0 : Int32) then gd (n32 (FP.fdiv (FP.i2f a2) k0)) (bv (sF μ25 0 7 (s_X12_bitsOf (FP.fdiv (FP.i2f a2) k0))) (fun μ28 => some ((1 : Int32), μ28))) else gd (n32 (FP.fdiv (FP.i2f (-a2)) k0)) (bv (sF μ25 0 7 (s_X12_bitsOf (FP.fdiv (FP.i2f (-a2)) k0))) (fun μ30 => some ((1 : Int32), μ30))))), fun _ _ _ _ => rfl⟩
noncomputable def p_X12_readNumber_b161 : Int32 → Int32 → UInt32 → Mem → Option (Int32 × Mem) := Classical.choose p_X12_readNumber_b161_ex
theorem p_X12_readNumber_b161_eq (a1 : Int32) (a2 : Int32) (k0 : UInt32) (μ : Mem) : p_X12_readNumber_b161 a1 a2 k0 μ = bv (sF μ 0 6 (1 : Int32)) (fun μ25 => (if a1 = (0 : Int32) then gd (n32 (FP.fdiv (FP.i2f a2) k0)) (bv (sF μ25 0 7 (s_X12_bitsOf (FP.fdiv (FP.i2f a2) k0))) (fun μ28 => some ((1 : Int32), μ28))) else gd (n32 (FP.fdiv (FP.i2f (-a2)) k0)) (bv (sF μ25 0 7 (s_X12_bitsOf (FP.fdiv (FP.i2f (-a2)) k0))) (fun μ30 => some ((1 : Int32), μ30))))) := Classical.choose_spec p_X12_readNumber_b161_ex a1 a2 k0 μ
set_option maxHeartbeats 4000000 in
set_option maxRecDepth 100000 in
theorem t_X12_readNumber_b161 (l : Launch) (G : Gt) (ad : Nat → Nat) (av : List Value) {r : Int32} {μz : Mem} (a1 : Int32) (a2 : Int32) (k0 : UInt32) (μ : Mem) (h : p_X12_readNumber_b161  a1 a2 k0 μ = some (r, μz)) : Bk l cX12_readNumber 5 RX12 (some .boolean) ({ frames := 3, cells := 0, slots := 0, locals := 64 } : Room) G av (eI 1 G ad r μz) (wd 1 G ad μ) 161 [(0, .ref (ad 0)), (1, .int a1), (2, .int a2)] [.float k0] := by
  intro p e s m below meth c A ls H locs cx hr hlk hA hl hw
  have hx := cx.1
  have hb := cx.2.1
  rw [p_X12_readNumber_b161_eq] at h
  refine lv_fstore (lv' := [(4, .float k0), (0, .ref (ad 0)), (1, .int a1), (2, .int a2)]) hx hb dX12_readNumber_161 hl (by decide) rfl (fun ls hl => ?_)
  refine lv_aload_n hx hb dX12_readNumber_163 rfl (lv_at hl 1 rfl) ?_
  refine lv_iconst (v := 1) hx hb dX12_readNumber_164 (by decide) ?_
  refine g_put cx hw inX12 (ci := 11) rfl tyX12_ok nmX12 6 (by decide) rfl rfl rfl rfl shm_0 h fl_X12_378 dX12_readNumber_165 (fun μ25 H locs h hw => ?_)
  refine lv_aload_n hx hb dX12_readNumber_168 rfl (lv_at hl 1 rfl) ?_
  refine lv_iload_n hx hb dX12_readNumber_169 rfl (lv_at hl 2 rfl) ?_
  refine lv_if_eq (tgt := 178) hx hb dX12_readNumber_170 (by decide) (fun c26 => ?_) (fun c26 => ?_)
  · rw [if_pos c26] at h
    refine lv_iload_n hx hb dX12_readNumber_178 rfl (lv_at hl 3 rfl) ?_
    refine lv_i2f hx hb dX12_readNumber_179 ?_
    refine lv_fload hx hb dX12_readNumber_180 (lv_at hl 0 rfl) ?_
    obtain ⟨c27, h⟩ := gd_some h
    refine lv_fdiv hx hb dX12_readNumber_182 (n32_of c27) ?_
    refine s_callI (As := [.float (FP.fdiv (FP.i2f a2) k0)]) (rest := [.ref (ad 0)]) cx hw hA (t_X12_bitsOf l G (FP.fdiv (FP.i2f a2) k0)) ml_X12_287 st_X12_bitsOf in_X12 co_X12_bitsOf hd_X12_bitsOf rfl ⟨(Nat.le_of_ble_eq_true rfl), (Nat.le_of_ble_eq_true rfl)⟩ hl.1 rfl (Nat.le_of_ble_eq_true rfl) dX12_readNumber_183 rfl (fun H locs hw => ?_)
    refine g_put cx hw inX12 (ci := 11) rfl tyX12_ok nmX12 7 (by decide) rfl rfl rfl rfl shm_0 h fl_X12_381 dX12_readNumber_186 (fun μ28 H locs h hw => ?_)
    refine lv_iconst (v := 1) hx hb dX12_readNumber_189 (by decide) ?_
    exact g_zret cx hr hlk rfl hw h dX12_readNumber_190
  · rw [if_neg c26] at h
    refine lv_iload_n hx hb dX12_readNumber_173 rfl (lv_at hl 3 rfl) ?_
    refine lv_ineg hx hb dX12_readNumber_174 ?_
    refine lv_goto (tgt := 179) hx hb dX12_readNumber_175 (by decide) ?_
    refine lv_i2f hx hb dX12_readNumber_179 ?_
    refine lv_fload hx hb dX12_readNumber_180 (lv_at hl 0 rfl) ?_
    obtain ⟨c29, h⟩ := gd_some h
    refine lv_fdiv hx hb dX12_readNumber_182 (n32_of c29) ?_
    refine s_callI (As := [.float (FP.fdiv (FP.i2f (-a2)) k0)]) (rest := [.ref (ad 0)]) cx hw hA (t_X12_bitsOf l G (FP.fdiv (FP.i2f (-a2)) k0)) ml_X12_287 st_X12_bitsOf in_X12 co_X12_bitsOf hd_X12_bitsOf rfl ⟨(Nat.le_of_ble_eq_true rfl), (Nat.le_of_ble_eq_true rfl)⟩ hl.1 rfl (Nat.le_of_ble_eq_true rfl) dX12_readNumber_183 rfl (fun H locs hw => ?_)
    refine g_put cx hw inX12 (ci := 11) rfl tyX12_ok nmX12 7 (by decide) rfl rfl rfl rfl shm_0 h fl_X12_381 dX12_readNumber_186 (fun μ30 H locs h hw => ?_)
    refine lv_iconst (v := 1) hx hb dX12_readNumber_189 (by decide) ?_
    exact g_zret cx hr hlk rfl hw h dX12_readNumber_190
theorem p_X12_readNumber_b71_ex : ∃ f : Int32 → Int32 → Int32 → Mem → Option (Int32 × Mem), ∀ (a1 : Int32) (a2 : Int32) (k0 : Int32) (μ : Mem), f a1 a2 k0 μ = bv (sF μ 0 7 k0) (fun μ12 => bd (p_X12_here μ12) (fun r14 μ13 => (if r14 = (46 : Int32) then bv (sF μ13 0 4 ((μ13.1 0 4) + (1 : Int32))) (fun μ16 => bd (p_X12_here μ16) (fun r18 μ17 => (if (s_X12_isFigure r18) = (0 : Int32) then bd (p_X12_fails (μ17.1 0 4) μ17) (fun r32 μ31 => gd (isB r32) (some (r32, μ31))) else bv (μ17.1 0 4) (fun v20 => bd (p_X12_digits (3 : Int32) a2 μ17) (fun r22 μ21 => (if ((μ21.1 0 4) - v20) = (1 : Int32) then p_X12_readNumber_b161  a1 r22 (1092616192) μ21 else (if ((μ21.1 0 4) - v20) = (2 : Int32) then p_X12_readNumber_b161  a1 r22 (1120403456) μ21 else p_X12_readNumber_b161  a1 r22 (1148846080) μ21))))))) else some ((1 : Int32), μ13)))) := ⟨fun (a1 : Int32) (a2 : Int32) (k0 : Int32) (μ : Mem) => bv (sF μ 0 7 k0) (fun μ12 => bd (p_X12_here μ12) (fun r14 μ13 => (if r14 = (46 : Int32) then bv (sF μ13 0 4 ((μ13.1 0 4) + (1 : Int32))) (fun μ16 => bd (p_X12_here μ16) (fun r18 μ17 => (if (s_X12_isFigure r18) = (0 : Int32) then bd (p_X12_fails (μ17.1 0 4) μ17) (fun r32 μ31 => gd (isB r32) (some (r32, μ31))) else bv (μ17.1 0 4) (fun v20 => bd (p_X12_digits (3 : Int32) a2 μ17) (fun r22 μ21 => (if ((μ21.1 0 4) - v20) = (1 : Int32) then p_X12_readNumber_b161  a1 r22 (1092616192) μ21 else (if ((μ21.1 0 4) - v20) = (2 : Int32) then p_X12_readNumber_b161  a1 r22 (1120403456) μ21 else p_X12_readNumber_b161  a1 r22 (1148846080) μ21))))))) else some ((1 : Int32), μ13)))), fun _ _ _ _ => rfl⟩
noncomputable def p_X12_readNumber_b71 : Int32 → Int32 → Int32 → Mem → Option (Int32 × Mem) := Classical.choose p_X12_readNumber_b71_ex
theorem p_X12_readNumber_b71_eq (a1 : Int32) (a2 : Int32) (k0 : Int32) (μ : Mem) : p_X12_readNumber_b71 a1 a2 k0 μ = bv (sF μ 0 7 k0) (fun μ12 => bd (p_X12_here μ12) (fun r14 μ13 => (if r14 = (46 : Int32) then bv (sF μ13 0 4 ((μ13.1 0 4) + (1 : Int32))) (fun μ16 => bd (p_X12_here μ16) (fun r18 μ17 => (if (s_X12_isFigure r18) = (0 : Int32) then bd (p_X12_fails (μ17.1 0 4) μ17) (fun r32 μ31 => gd (isB r32) (some (r32, μ31))) else bv (μ17.1 0 4) (fun v20 => bd (p_X12_digits (3 : Int32) a2 μ17) (fun r22 μ21 => (if ((μ21.1 0 4) - v20) = (1 : Int32) then p_X12_readNumber_b161  a1 r22 (1092616192) μ21 else (if ((μ21.1 0 4) - v20) = (2 : Int32) then p_X12_readNumber_b161  a1 r22 (1120403456) μ21 else p_X12_readNumber_b161  a1 r22 (1148846080) μ21))))))) else some ((1 : Int32), μ13)))) := Classical.choose_spec p_X12_readNumber_b71_ex a1 a2 k0 μ
set_option maxHeartbeats 4000000 in
set_option maxRecDepth 100000 in
theorem t_X12_readNumber_b71 (l : Launch) (G : Gt) (ad : Nat → Nat) (av : List Value) {r : Int32} {μz : Mem} (a1 : Int32) (a2 : Int32) (k0 : Int32) (μ : Mem) (h : p_X12_readNumber_b71  a1 a2 k0 μ = some (r, μz)) : Bk l cX12_readNumber 5 RX12 (some .boolean) ({ frames := 3, cells := 0, slots := 0, locals := 64 } : Room) G av (eI 1 G ad r μz) (wd 1 G ad μ) 71 [(0, .ref (ad 0)), (1, .int a1), (2, .int a2)] [.int k0, .ref (ad 0)] := by
  intro p e s m below meth c A ls H locs cx hr hlk hA hl hw
  have hx := cx.1
  have hb := cx.2.1
  rw [p_X12_readNumber_b71_eq] at h
  refine g_put cx hw inX12 (ci := 11) rfl tyX12_ok nmX12 7 (by decide) rfl rfl rfl rfl shm_0 h fl_X12_381 dX12_readNumber_71 (fun μ12 H locs h hw => ?_)
  refine lv_aload_n hx hb dX12_readNumber_74 rfl (lv_at hl 0 rfl) ?_
  obtain ⟨r14, μ13, gr14, h⟩ := bd_some h
  refine g_callVI (As := []) (rest := []) cx hw hA (t_X12_here l G ad μ12 gr14) shm_0 rfl ml_X12_365 im_X12_here se_X12_here in_X12 co_X12_here rfl hd_X12_here rfl ⟨(Nat.le_of_ble_eq_true rfl), (Nat.le_of_ble_eq_true rfl)⟩ hl.1 rfl (Nat.le_of_ble_eq_true rfl) dX12_readNumber_75 ⟨rfl, rfl⟩ (fun H locs hw => ?_)
  refine lv_bipush (v := 46) hx hb dX12_readNumber_78 (by decide) ?_
  refine lv_icmp_eq (tgt := 85) hx hb dX12_readNumber_80 (by decide) (fun c15 => ?_) (fun c15 => ?_)
  · rw [if_pos c15] at h
    refine lv_aload_n hx hb dX12_readNumber_85 rfl (lv_at hl 0 rfl) ?_
    refine lv_dup hx hb dX12_readNumber_86 rfl ?_
    refine g_get cx hw inX12 (ci := 11) rfl 4 (by decide) rfl (v := .int (μ13.1 0 4)) shm_0 rfl fl_X12_362 dX12_readNumber_87 ?_
    refine lv_iconst (v := 1) hx hb dX12_readNumber_90 (by decide) ?_
    refine lv_iadd hx hb dX12_readNumber_91 ?_
    refine g_put cx hw inX12 (ci := 11) rfl tyX12_ok nmX12 4 (by decide) rfl rfl rfl rfl shm_0 h fl_X12_362 dX12_readNumber_92 (fun μ16 H locs h hw => ?_)
    refine lv_aload_n hx hb dX12_readNumber_95 rfl (lv_at hl 0 rfl) ?_
    obtain ⟨r18, μ17, gr18, h⟩ := bd_some h
    refine g_callVI (As := []) (rest := []) cx hw hA (t_X12_here l G ad μ16 gr18) shm_0 rfl ml_X12_365 im_X12_here se_X12_here in_X12 co_X12_here rfl hd_X12_here rfl ⟨(Nat.le_of_ble_eq_true rfl), (Nat.le_of_ble_eq_true rfl)⟩ hl.1 rfl (Nat.le_of_ble_eq_true rfl) dX12_readNumber_96 ⟨rfl, rfl⟩ (fun H locs hw => ?_)
    refine s_callI (As := [.int r18]) (rest := []) cx hw hA (t_X12_isFigure l G r18) ml_X12_372 st_X12_isFigure in_X12 co_X12_isFigure hd_X12_isFigure rfl ⟨(Nat.le_of_ble_eq_true rfl), (Nat.le_of_ble_eq_true rfl)⟩ hl.1 rfl (Nat.le_of_ble_eq_true rfl) dX12_readNumber_99 rfl (fun H locs hw => ?_)
    refine lv_if_ne (tgt := 114) hx hb dX12_readNumber_102 (by decide) (fun c19 => ?_) (fun c19 => ?_)
    · rw [if_neg c19] at h
      refine lv_aload_n hx hb dX12_readNumber_114 rfl (lv_at hl 0 rfl) ?_
      refine g_get cx hw inX12 (ci := 11) rfl 4 (by decide) rfl (v := .int (μ17.1 0 4)) shm_0 rfl fl_X12_362 dX12_readNumber_115 ?_
      obtain ⟨v20, ev20, h⟩ := bv_ex h
      refine lv_topi (fun y9 z9 => ?_)
      obtain rfl : v20 = y9 := ev20.trans z9.symm
      refine lv_istore_n (lv' := [(3, .int v20), (0, .ref (ad 0)), (1, .int a1), (2, .int a2)]) hx hb dX12_readNumber_118 rfl hl (by decide) rfl (fun ls hl => ?_)
      refine lv_aload_n hx hb dX12_readNumber_119 rfl (lv_at hl 1 rfl) ?_
      refine lv_iconst (v := 3) hx hb dX12_readNumber_120 (by decide) ?_
      refine lv_iload_n hx hb dX12_readNumber_121 rfl (lv_at hl 3 rfl) ?_
      obtain ⟨r22, μ21, gr22, h⟩ := bd_some h
      refine g_callVI (As := [.int 3, .int a2]) (rest := []) cx hw hA (t_X12_digits l G ad (3 : Int32) a2 μ17 gr22) shm_0 rfl ml_X12_375 im_X12_digits se_X12_digits in_X12 co_X12_digits rfl hd_X12_digits rfl ⟨(Nat.le_of_ble_eq_true rfl), (Nat.le_of_ble_eq_true rfl)⟩ hl.1 rfl (Nat.le_of_ble_eq_true rfl) dX12_readNumber_122 ⟨rfl, rfl⟩ (fun H locs hw => ?_)
      refine lv_istore_n (lv' := [(2, .int r22), (3, .int v20), (0, .ref (ad 0)), (1, .int a1)]) hx hb dX12_readNumber_125 rfl hl (by decide) rfl (fun ls hl => ?_)
      refine lv_aload_n hx hb dX12_readNumber_126 rfl (lv_at hl 2 rfl) ?_
      refine g_get cx hw inX12 (ci := 11) rfl 4 (by decide) rfl (v := .int (μ21.1 0 4)) shm_0 rfl fl_X12_362 dX12_readNumber_127 ?_
      refine lv_iload_n hx hb dX12_readNumber_130 rfl (lv_at hl 1 rfl) ?_
      refine lv_isub hx hb dX12_readNumber_131 ?_
      refine lv_iconst (v := 1) hx hb dX12_readNumber_132 (by decide) ?_
      refine lv_icmp_ne (tgt := 142) hx hb dX12_readNumber_133 (by decide) (fun c23 => ?_) (fun c23 => ?_)
      · rw [if_neg c23] at h
        refine lv_aload_n hx hb dX12_readNumber_142 rfl (lv_at hl 2 rfl) ?_
        refine g_get cx hw inX12 (ci := 11) rfl 4 (by decide) rfl (v := .int (μ21.1 0 4)) shm_0 rfl fl_X12_362 dX12_readNumber_143 ?_
        refine lv_iload_n hx hb dX12_readNumber_146 rfl (lv_at hl 1 rfl) ?_
        refine lv_isub hx hb dX12_readNumber_147 ?_
        refine lv_iconst (v := 2) hx hb dX12_readNumber_148 (by decide) ?_
        refine lv_icmp_ne (tgt := 158) hx hb dX12_readNumber_149 (by decide) (fun c24 => ?_) (fun c24 => ?_)
        · rw [if_neg c24] at h
          refine lv_ldcwf hx hb cx.2.2.2.1 (cx.2.2.2.2.1 _ cs_X12_386) dX12_readNumber_158 ?_
          exact t_X12_readNumber_b161 l G ad av  a1 r22 (1148846080) μ21 h p e s m below meth c A ls H locs cx hr hlk hA (lv_sub hl [2, 3, 0] rfl) hw
        · rw [if_pos c24] at h
          refine lv_ldcwf hx hb cx.2.2.2.1 (cx.2.2.2.2.1 _ cs_X12_385) dX12_readNumber_152 ?_
          refine lv_goto (tgt := 161) hx hb dX12_readNumber_155 (by decide) ?_
          exact t_X12_readNumber_b161 l G ad av  a1 r22 (1120403456) μ21 h p e s m below meth c A ls H locs cx hr hlk hA (lv_sub hl [2, 3, 0] rfl) hw
      · rw [if_pos c23] at h
        refine lv_ldcwf hx hb cx.2.2.2.1 (cx.2.2.2.2.1 _ cs_X12_384) dX12_readNumber_136 ?_
        refine lv_goto (tgt := 161) hx hb dX12_readNumber_139 (by decide) ?_
        exact t_X12_readNumber_b161 l G ad av  a1 r22 (1092616192) μ21 h p e s m below meth c A ls H locs cx hr hlk hA (lv_sub hl [2, 3, 0] rfl) hw
    · rw [if_pos c19] at h
      refine lv_aload_n hx hb dX12_readNumber_105 rfl (lv_at hl 0 rfl) ?_
      refine lv_aload_n hx hb dX12_readNumber_106 rfl (lv_at hl 0 rfl) ?_
      refine g_get cx hw inX12 (ci := 11) rfl 4 (by decide) rfl (v := .int (μ17.1 0 4)) shm_0 rfl fl_X12_362 dX12_readNumber_107 ?_
      obtain ⟨r32, μ31, gr32, h⟩ := bd_some h
      refine g_callVI (As := [.int (μ17.1 0 4)]) (rest := []) cx hw hA (t_X12_fails l G ad (μ17.1 0 4) μ17 gr32) shm_0 rfl ml_X12_369 im_X12_fails se_X12_fails in_X12 co_X12_fails rfl hd_X12_fails rfl ⟨(Nat.le_of_ble_eq_true rfl), (Nat.le_of_ble_eq_true rfl)⟩ hl.1 rfl (Nat.le_of_ble_eq_true rfl) dX12_readNumber_110 ⟨rfl, rfl⟩ (fun H locs hw => ?_)
      obtain ⟨c33, h⟩ := gd_some h
      exact g_zret cx hr hlk (isB_n c33) hw h dX12_readNumber_113
  · rw [if_neg c15] at h
    refine lv_iconst (v := 1) hx hb dX12_readNumber_83 (by decide) ?_
    exact g_zret cx hr hlk rfl hw h dX12_readNumber_84
theorem p_X12_readNumber_b29_ex : ∃ f : Int32 → Mem → Option (Int32 × Mem), ∀ (a1 : Int32) (μ : Mem), f a1 μ = bd (p_X12_here μ) (fun r6 μ5 => (if (s_X12_isFigure r6) = (0 : Int32) then bd (p_X12_fails (μ5.1 0 4) μ5) (fun r35 μ34 => gd (isB r35) (some (r35, μ34))) else bd (p_X12_digits (5 : Int32) (0 : Int32) μ5) (fun r9 μ8 => bv (sF μ8 0 6 (0 : Int32)) (fun μ10 => (if a1 = (0 : Int32) then p_X12_readNumber_b71  a1 r9 r9 μ10 else p_X12_readNumber_b71  a1 r9 (-r9) μ10))))) := ⟨fun (a1 : Int32) (μ : Mem) => bd (p_X12_here μ) (fun r6 μ5 => (if (s_X12_isFigure r6) = (0 : Int32) then bd (p_X12_fails (μ5.1 0 4) μ5) (fun r35 μ34 => gd (isB r35) (some (r35, μ34))) else bd (p_X12_digits (5 : Int32) (0 : Int32) μ5) (fun r9 μ8 => bv (sF μ8 0 6 (0 : Int32)) (fun μ10 => (if a1 = (0 : Int32) then p_X12_readNumber_b71  a1 r9 r9 μ10 else p_X12_readNumber_b71  a1 r9 (-r9) μ10))))), fun _ _ => rfl⟩
noncomputable def p_X12_readNumber_b29 : Int32 → Mem → Option (Int32 × Mem) := Classical.choose p_X12_readNumber_b29_ex
theorem p_X12_readNumber_b29_eq (a1 : Int32) (μ : Mem) : p_X12_readNumber_b29 a1 μ = bd (p_X12_here μ) (fun r6 μ5 => (if (s_X12_isFigure r6) = (0 : Int32) then bd (p_X12_fails (μ5.1 0 4) μ5) (fun r35 μ34 => gd (isB r35) (some (r35, μ34))) else bd (p_X12_digits (5 : Int32) (0 : Int32) μ5) (fun r9 μ8 => bv (sF μ8 0 6 (0 : Int32)) (fun μ10 => (if a1 = (0 : Int32) then p_X12_readNumber_b71  a1 r9 r9 μ10 else p_X12_readNumber_b71  a1 r9 (-r9) μ10))))) := Classical.choose_spec p_X12_readNumber_b29_ex a1 μ
set_option maxHeartbeats 4000000 in
set_option maxRecDepth 100000 in
theorem t_X12_readNumber_b29 (l : Launch) (G : Gt) (ad : Nat → Nat) (av : List Value) {r : Int32} {μz : Mem} (a1 : Int32) (μ : Mem) (h : p_X12_readNumber_b29  a1 μ = some (r, μz)) : Bk l cX12_readNumber 5 RX12 (some .boolean) ({ frames := 3, cells := 0, slots := 0, locals := 64 } : Room) G av (eI 1 G ad r μz) (wd 1 G ad μ) 29 [(0, .ref (ad 0)), (1, .int a1)] [] := by
  intro p e s m below meth c A ls H locs cx hr hlk hA hl hw
  have hx := cx.1
  have hb := cx.2.1
  rw [p_X12_readNumber_b29_eq] at h
  refine lv_aload_n hx hb dX12_readNumber_29 rfl (lv_at hl 0 rfl) ?_
  obtain ⟨r6, μ5, gr6, h⟩ := bd_some h
  refine g_callVI (As := []) (rest := []) cx hw hA (t_X12_here l G ad μ gr6) shm_0 rfl ml_X12_365 im_X12_here se_X12_here in_X12 co_X12_here rfl hd_X12_here rfl ⟨(Nat.le_of_ble_eq_true rfl), (Nat.le_of_ble_eq_true rfl)⟩ hl.1 rfl (Nat.le_of_ble_eq_true rfl) dX12_readNumber_30 ⟨rfl, rfl⟩ (fun H locs hw => ?_)
  refine s_callI (As := [.int r6]) (rest := []) cx hw hA (t_X12_isFigure l G r6) ml_X12_372 st_X12_isFigure in_X12 co_X12_isFigure hd_X12_isFigure rfl ⟨(Nat.le_of_ble_eq_true rfl), (Nat.le_of_ble_eq_true rfl)⟩ hl.1 rfl (Nat.le_of_ble_eq_true rfl) dX12_readNumber_33 rfl (fun H locs hw => ?_)
  refine lv_if_ne (tgt := 48) hx hb dX12_readNumber_36 (by decide) (fun c7 => ?_) (fun c7 => ?_)
  · rw [if_neg c7] at h
    refine lv_aload_n hx hb dX12_readNumber_48 rfl (lv_at hl 0 rfl) ?_
    refine lv_iconst (v := 5) hx hb dX12_readNumber_49 (by decide) ?_
    refine lv_iconst (v := 0) hx hb dX12_readNumber_50 (by decide) ?_
    obtain ⟨r9, μ8, gr9, h⟩ := bd_some h
    refine g_callVI (As := [.int 5, .int 0]) (rest := []) cx hw hA (t_X12_digits l G ad (5 : Int32) (0 : Int32) μ5 gr9) shm_0 rfl ml_X12_375 im_X12_digits se_X12_digits in_X12 co_X12_digits rfl hd_X12_digits rfl ⟨(Nat.le_of_ble_eq_true rfl), (Nat.le_of_ble_eq_true rfl)⟩ hl.1 rfl (Nat.le_of_ble_eq_true rfl) dX12_readNumber_51 ⟨rfl, rfl⟩ (fun H locs hw => ?_)
    refine lv_istore_n (lv' := [(2, .int r9), (0, .ref (ad 0)), (1, .int a1)]) hx hb dX12_readNumber_54 rfl hl (by decide) rfl (fun ls hl => ?_)
    refine lv_aload_n hx hb dX12_readNumber_55 rfl (lv_at hl 1 rfl) ?_
    refine lv_iconst (v := 0) hx hb dX12_readNumber_56 (by decide) ?_
    refine g_put cx hw inX12 (ci := 11) rfl tyX12_ok nmX12 6 (by decide) rfl rfl rfl rfl shm_0 h fl_X12_378 dX12_readNumber_57 (fun μ10 H locs h hw => ?_)
    refine lv_aload_n hx hb dX12_readNumber_60 rfl (lv_at hl 1 rfl) ?_
    refine lv_iload_n hx hb dX12_readNumber_61 rfl (lv_at hl 2 rfl) ?_
    refine lv_if_eq (tgt := 70) hx hb dX12_readNumber_62 (by decide) (fun c11 => ?_) (fun c11 => ?_)
    · rw [if_pos c11] at h
      refine lv_iload_n hx hb dX12_readNumber_70 rfl (lv_at hl 0 rfl) ?_
      exact t_X12_readNumber_b71 l G ad av  a1 r9 r9 μ10 h p e s m below meth c A ls H locs cx hr hlk hA (lv_sub hl [1, 2, 0] rfl) hw
    · rw [if_neg c11] at h
      refine lv_iload_n hx hb dX12_readNumber_65 rfl (lv_at hl 0 rfl) ?_
      refine lv_ineg hx hb dX12_readNumber_66 ?_
      refine lv_goto (tgt := 71) hx hb dX12_readNumber_67 (by decide) ?_
      exact t_X12_readNumber_b71 l G ad av  a1 r9 (-r9) μ10 h p e s m below meth c A ls H locs cx hr hlk hA (lv_sub hl [1, 2, 0] rfl) hw
  · rw [if_pos c7] at h
    refine lv_aload_n hx hb dX12_readNumber_39 rfl (lv_at hl 0 rfl) ?_
    refine lv_aload_n hx hb dX12_readNumber_40 rfl (lv_at hl 0 rfl) ?_
    refine g_get cx hw inX12 (ci := 11) rfl 4 (by decide) rfl (v := .int (μ5.1 0 4)) shm_0 rfl fl_X12_362 dX12_readNumber_41 ?_
    obtain ⟨r35, μ34, gr35, h⟩ := bd_some h
    refine g_callVI (As := [.int (μ5.1 0 4)]) (rest := []) cx hw hA (t_X12_fails l G ad (μ5.1 0 4) μ5 gr35) shm_0 rfl ml_X12_369 im_X12_fails se_X12_fails in_X12 co_X12_fails rfl hd_X12_fails rfl ⟨(Nat.le_of_ble_eq_true rfl), (Nat.le_of_ble_eq_true rfl)⟩ hl.1 rfl (Nat.le_of_ble_eq_true rfl) dX12_readNumber_44 ⟨rfl, rfl⟩ (fun H locs hw => ?_)
    obtain ⟨c36, h⟩ := gd_some h
    exact g_zret cx hr hlk (isB_n c36) hw h dX12_readNumber_47
theorem p_X12_readNumber_b14_ex : ∃ f : Int32 → Mem → Option (Int32 × Mem), ∀ (k0 : Int32) (μ : Mem), f k0 μ = (if k0 = (0 : Int32) then p_X12_readNumber_b29  k0 μ else bv (sF μ 0 4 ((μ.1 0 4) + (1 : Int32))) (fun μ37 => p_X12_readNumber_b29  k0 μ37)) := ⟨fun (k0 : Int32) (μ : Mem) => (if k0 = (0 : Int32) then p_X12_readNumber_b29  k0 μ else bv (sF μ 0 4 ((μ.1 0 4) + (1 : Int32))) (fun μ37 => p_X12_readNumber_b29  k0 μ37)), fun _ _ => rfl⟩
noncomputable def p_X12_readNumber_b14 : Int32 → Mem → Option (Int32 × Mem) := Classical.choose p_X12_readNumber_b14_ex
theorem p_X12_readNumber_b14_eq (k0 : Int32) (μ : Mem) : p_X12_readNumber_b14 k0 μ = (if k0 = (0 : Int32) then p_X12_readNumber_b29  k0 μ else bv (sF μ 0 4 ((μ.1 0 4) + (1 : Int32))) (fun μ37 => p_X12_readNumber_b29  k0 μ37)) := Classical.choose_spec p_X12_readNumber_b14_ex k0 μ
set_option maxHeartbeats 4000000 in
set_option maxRecDepth 100000 in
theorem t_X12_readNumber_b14 (l : Launch) (G : Gt) (ad : Nat → Nat) (av : List Value) {r : Int32} {μz : Mem} (k0 : Int32) (μ : Mem) (h : p_X12_readNumber_b14  k0 μ = some (r, μz)) : Bk l cX12_readNumber 5 RX12 (some .boolean) ({ frames := 3, cells := 0, slots := 0, locals := 64 } : Room) G av (eI 1 G ad r μz) (wd 1 G ad μ) 14 [(0, .ref (ad 0))] [.int k0] := by
  intro p e s m below meth c A ls H locs cx hr hlk hA hl hw
  have hx := cx.1
  have hb := cx.2.1
  rw [p_X12_readNumber_b14_eq] at h
  refine lv_istore_n (lv' := [(1, .int k0), (0, .ref (ad 0))]) hx hb dX12_readNumber_14 rfl hl (by decide) rfl (fun ls hl => ?_)
  refine lv_iload_n hx hb dX12_readNumber_15 rfl (lv_at hl 0 rfl) ?_
  refine lv_if_eq (tgt := 29) hx hb dX12_readNumber_16 (by decide) (fun c4 => ?_) (fun c4 => ?_)
  · rw [if_pos c4] at h
    exact t_X12_readNumber_b29 l G ad av  k0 μ h p e s m below meth c A ls H locs cx hr hlk hA (lv_sub hl [1, 0] rfl) hw
  · rw [if_neg c4] at h
    refine lv_aload_n hx hb dX12_readNumber_19 rfl (lv_at hl 1 rfl) ?_
    refine lv_dup hx hb dX12_readNumber_20 rfl ?_
    refine g_get cx hw inX12 (ci := 11) rfl 4 (by decide) rfl (v := .int (μ.1 0 4)) shm_0 rfl fl_X12_362 dX12_readNumber_21 ?_
    refine lv_iconst (v := 1) hx hb dX12_readNumber_24 (by decide) ?_
    refine lv_iadd hx hb dX12_readNumber_25 ?_
    refine g_put cx hw inX12 (ci := 11) rfl tyX12_ok nmX12 4 (by decide) rfl rfl rfl rfl shm_0 h fl_X12_362 dX12_readNumber_26 (fun μ37 H locs h hw => ?_)
    exact t_X12_readNumber_b29 l G ad av  k0 μ37 h p e s m below meth c A ls H locs cx hr hlk hA (lv_sub hl [1, 0] rfl) hw
theorem p_X12_readNumber_ex : ∃ f : Mem → Option (Int32 × Mem), ∀  (μ : Mem), f  μ = bd (p_X12_here μ) (fun r2 μ1 => (if r2 = (45 : Int32) then p_X12_readNumber_b14  (1 : Int32) μ1 else p_X12_readNumber_b14  (0 : Int32) μ1)) := ⟨fun  (μ : Mem) => bd (p_X12_here μ) (fun r2 μ1 => (if r2 = (45 : Int32) then p_X12_readNumber_b14  (1 : Int32) μ1 else p_X12_readNumber_b14  (0 : Int32) μ1)), fun _ => rfl⟩
noncomputable def p_X12_readNumber : Mem → Option (Int32 × Mem) := Classical.choose p_X12_readNumber_ex
theorem p_X12_readNumber_eq  (μ : Mem) : p_X12_readNumber  μ = bd (p_X12_here μ) (fun r2 μ1 => (if r2 = (45 : Int32) then p_X12_readNumber_b14  (1 : Int32) μ1 else p_X12_readNumber_b14  (0 : Int32) μ1)) := Classical.choose_spec p_X12_readNumber_ex  μ
set_option maxHeartbeats 4000000 in
set_option maxRecDepth 100000 in
theorem t_X12_readNumber (l : Launch) (G : Gt) (ad : Nat → Nat)  (μ : Mem) {r : Int32} {μz : Mem} (h : p_X12_readNumber  μ = some (r, μz)) : Mt l yX12_readNumber cX12_readNumber 5 (some .boolean) ({ frames := 3, cells := 0, slots := 0, locals := 64 } : Room) G [.ref (ad 0)] (wd 1 G ad μ) (eI 1 G ad r μz) := by
  refine Bk.mt (by decide) rfl (Nat.le_of_ble_eq_true rfl) ?_
  intro p e s m below meth c A ls H locs cx hr hlk hA hl hw
  have hx := cx.1
  have hb := cx.2.1
  have hl : lv_has ls 5 [(0, .ref (ad 0))] := hl
  rw [p_X12_readNumber_eq] at h
  refine lv_aload_n hx hb dX12_readNumber_0 rfl (lv_at hl 0 rfl) ?_
  obtain ⟨r2, μ1, gr2, h⟩ := bd_some h
  refine g_callVI (As := []) (rest := []) cx hw hA (t_X12_here l G ad μ gr2) shm_0 rfl ml_X12_365 im_X12_here se_X12_here in_X12 co_X12_here rfl hd_X12_here rfl ⟨(Nat.le_of_ble_eq_true rfl), (Nat.le_of_ble_eq_true rfl)⟩ hl.1 rfl (Nat.le_of_ble_eq_true rfl) dX12_readNumber_1 ⟨rfl, rfl⟩ (fun H locs hw => ?_)
  refine lv_bipush (v := 45) hx hb dX12_readNumber_4 (by decide) ?_
  refine lv_icmp_ne (tgt := 13) hx hb dX12_readNumber_6 (by decide) (fun c3 => ?_) (fun c3 => ?_)
  · rw [if_neg c3] at h
    refine lv_iconst (v := 0) hx hb dX12_readNumber_13 (by decide) ?_
    exact t_X12_readNumber_b14 l G ad _  (0 : Int32) μ1 h p e s m below meth c A ls H locs cx hr hlk hA (lv_sub hl [0] rfl) hw
  · rw [if_pos c3] at h
    refine lv_iconst (v := 1) hx hb dX12_readNumber_9 (by decide) ?_
    refine lv_goto (tgt := 14) hx hb dX12_readNumber_10 (by decide) ?_
    exact t_X12_readNumber_b14 l G ad _  (1 : Int32) μ1 h p e s m below meth c A ls H locs cx hr hlk hA (lv_sub hl [0] rfl) hw

theorem p_X12_lay_ex : ∃ f : Int32 → Int32 → Int32 → Mem → Option (Int32 × Mem), ∀ (a1 : Int32) (a2 : Int32) (a3 : Int32) (μ : Mem), f a1 a2 a3 μ = gd (inb (μ.1 0 28) 800) (bv (sF μ 16 (μ.1 0 28).toNatClampNeg a1) (fun μ1 => gd (inb (μ1.1 0 28) 800) (bv (sF μ1 17 (μ1.1 0 28).toNatClampNeg a2) (fun μ2 => gd (inb (μ2.1 0 28) 800) (bv (sF μ2 18 (μ2.1 0 28).toNatClampNeg a3) (fun μ3 => bv (sF μ3 0 28 ((μ3.1 0 28) + (1 : Int32))) (fun μ4 => some ((1 : Int32), μ4)))))))) := ⟨fun (a1 : Int32) (a2 : Int32) (a3 : Int32) (μ : Mem) => gd (inb (μ.1 0 28) 800) (bv (sF μ 16 (μ.1 0 28).toNatClampNeg a1) (fun μ1 => gd (inb (μ1.1 0 28) 800) (bv (sF μ1 17 (μ1.1 0 28).toNatClampNeg a2) (fun μ2 => gd (inb (μ2.1 0 28) 800) (bv (sF μ2 18 (μ2.1 0 28).toNatClampNeg a3) (fun μ3 => bv (sF μ3 0 28 ((μ3.1 0 28) + (1 : Int32))) (fun μ4 => some ((1 : Int32), μ4)))))))), fun _ _ _ _ => rfl⟩
noncomputable def p_X12_lay : Int32 → Int32 → Int32 → Mem → Option (Int32 × Mem) := Classical.choose p_X12_lay_ex
theorem p_X12_lay_eq (a1 : Int32) (a2 : Int32) (a3 : Int32) (μ : Mem) : p_X12_lay a1 a2 a3 μ = gd (inb (μ.1 0 28) 800) (bv (sF μ 16 (μ.1 0 28).toNatClampNeg a1) (fun μ1 => gd (inb (μ1.1 0 28) 800) (bv (sF μ1 17 (μ1.1 0 28).toNatClampNeg a2) (fun μ2 => gd (inb (μ2.1 0 28) 800) (bv (sF μ2 18 (μ2.1 0 28).toNatClampNeg a3) (fun μ3 => bv (sF μ3 0 28 ((μ3.1 0 28) + (1 : Int32))) (fun μ4 => some ((1 : Int32), μ4)))))))) := Classical.choose_spec p_X12_lay_ex a1 a2 a3 μ
set_option maxHeartbeats 4000000 in
set_option maxRecDepth 100000 in
theorem t_X12_lay (l : Launch) (G : Gt) (ad : Nat → Nat) (a1 : Int32) (a2 : Int32) (a3 : Int32) (μ : Mem) {r : Int32} {μz : Mem} (h : p_X12_lay a1 a2 a3 μ = some (r, μz)) : Mt l yX12_lay cX12_lay 4 (some .boolean) ({ frames := 0, cells := 0, slots := 0, locals := 0 } : Room) G [.ref (ad 0), .int a1, .int a2, .int a3] (wd 1 G ad μ) (eI 1 G ad r μz) := by
  refine Bk.mt (by decide) rfl (Nat.le_of_ble_eq_true rfl) ?_
  intro p e s m below meth c A ls H locs cx hr hlk hA hl hw
  have hx := cx.1
  have hb := cx.2.1
  have hl : lv_has ls 4 [(0, .ref (ad 0)), (1, .int a1), (2, .int a2), (3, .int a3)] := hl
  rw [p_X12_lay_eq] at h
  refine lv_aload_n hx hb dX12_lay_0 rfl (lv_at hl 0 rfl) ?_
  refine g_get cx hw inX12 (ci := 11) rfl 24 (by decide) rfl (v := .ref (ad 16)) shm_0 rfl fl_X12_60 dX12_lay_1 ?_
  refine lv_aload_n hx hb dX12_lay_4 rfl (lv_at hl 0 rfl) ?_
  refine g_get cx hw inX12 (ci := 11) rfl 28 (by decide) rfl (v := .int (μ.1 0 28)) shm_0 rfl fl_X12_387 dX12_lay_5 ?_
  refine lv_iload_n hx hb dX12_lay_8 rfl (lv_at hl 1 rfl) ?_
  refine g_iast cx hw shm_16 h dX12_lay_9 (fun μ1 H locs h hw => ?_)
  refine lv_aload_n hx hb dX12_lay_10 rfl (lv_at hl 0 rfl) ?_
  refine g_get cx hw inX12 (ci := 11) rfl 25 (by decide) rfl (v := .ref (ad 17)) shm_0 rfl fl_X12_63 dX12_lay_11 ?_
  refine lv_aload_n hx hb dX12_lay_14 rfl (lv_at hl 0 rfl) ?_
  refine g_get cx hw inX12 (ci := 11) rfl 28 (by decide) rfl (v := .int (μ1.1 0 28)) shm_0 rfl fl_X12_387 dX12_lay_15 ?_
  refine lv_iload_n hx hb dX12_lay_18 rfl (lv_at hl 2 rfl) ?_
  refine g_iast cx hw shm_17 h dX12_lay_19 (fun μ2 H locs h hw => ?_)
  refine lv_aload_n hx hb dX12_lay_20 rfl (lv_at hl 0 rfl) ?_
  refine g_get cx hw inX12 (ci := 11) rfl 26 (by decide) rfl (v := .ref (ad 18)) shm_0 rfl fl_X12_66 dX12_lay_21 ?_
  refine lv_aload_n hx hb dX12_lay_24 rfl (lv_at hl 0 rfl) ?_
  refine g_get cx hw inX12 (ci := 11) rfl 28 (by decide) rfl (v := .int (μ2.1 0 28)) shm_0 rfl fl_X12_387 dX12_lay_25 ?_
  refine lv_iload_n hx hb dX12_lay_28 rfl (lv_at hl 3 rfl) ?_
  refine g_iast cx hw shm_18 h dX12_lay_29 (fun μ3 H locs h hw => ?_)
  refine lv_aload_n hx hb dX12_lay_30 rfl (lv_at hl 0 rfl) ?_
  refine lv_dup hx hb dX12_lay_31 rfl ?_
  refine g_get cx hw inX12 (ci := 11) rfl 28 (by decide) rfl (v := .int (μ3.1 0 28)) shm_0 rfl fl_X12_387 dX12_lay_32 ?_
  refine lv_iconst (v := 1) hx hb dX12_lay_35 (by decide) ?_
  refine lv_iadd hx hb dX12_lay_36 ?_
  refine g_put cx hw inX12 (ci := 11) rfl tyX12_ok nmX12 28 (by decide) rfl rfl rfl rfl shm_0 h fl_X12_387 dX12_lay_37 (fun μ4 H locs h hw => ?_)
  refine lv_iconst (v := 1) hx hb dX12_lay_40 (by decide) ?_
  exact g_zret cx hr hlk rfl hw h dX12_lay_41

theorem p_X12_openThing_ex : ∃ f : Mem → Option Mem, ∀  (μ : Mem), f  μ = gd (inb (μ.1 0 32) 20) (bv (sF μ 19 (μ.1 0 32).toNatClampNeg ((μ.1 0 28) - (1 : Int32))) (fun μ1 => gd (inb (μ1.1 0 32) 20) (bv (sF μ1 20 (μ1.1 0 32).toNatClampNeg (0 : Int32)) (fun μ2 => bv (sF μ2 0 32 ((μ2.1 0 32) + (1 : Int32))) (fun μ3 => some μ3))))) := ⟨fun  (μ : Mem) => gd (inb (μ.1 0 32) 20) (bv (sF μ 19 (μ.1 0 32).toNatClampNeg ((μ.1 0 28) - (1 : Int32))) (fun μ1 => gd (inb (μ1.1 0 32) 20) (bv (sF μ1 20 (μ1.1 0 32).toNatClampNeg (0 : Int32)) (fun μ2 => bv (sF μ2 0 32 ((μ2.1 0 32) + (1 : Int32))) (fun μ3 => some μ3))))), fun _ => rfl⟩
noncomputable def p_X12_openThing : Mem → Option Mem := Classical.choose p_X12_openThing_ex
theorem p_X12_openThing_eq  (μ : Mem) : p_X12_openThing  μ = gd (inb (μ.1 0 32) 20) (bv (sF μ 19 (μ.1 0 32).toNatClampNeg ((μ.1 0 28) - (1 : Int32))) (fun μ1 => gd (inb (μ1.1 0 32) 20) (bv (sF μ1 20 (μ1.1 0 32).toNatClampNeg (0 : Int32)) (fun μ2 => bv (sF μ2 0 32 ((μ2.1 0 32) + (1 : Int32))) (fun μ3 => some μ3))))) := Classical.choose_spec p_X12_openThing_ex  μ
set_option maxHeartbeats 4000000 in
set_option maxRecDepth 100000 in
theorem t_X12_openThing (l : Launch) (G : Gt) (ad : Nat → Nat)  (μ : Mem) {μz : Mem} (h : p_X12_openThing  μ = some μz) : Mt l yX12_openThing cX12_openThing 1 none ({ frames := 0, cells := 0, slots := 0, locals := 0 } : Room) G [.ref (ad 0)] (wd 1 G ad μ) (eV 1 G ad μz) := by
  refine Bk.mt (by decide) rfl (Nat.le_of_ble_eq_true rfl) ?_
  intro p e s m below meth c A ls H locs cx hr hlk hA hl hw
  have hx := cx.1
  have hb := cx.2.1
  have hl : lv_has ls 1 [(0, .ref (ad 0))] := hl
  rw [p_X12_openThing_eq] at h
  refine lv_aload_n hx hb dX12_openThing_0 rfl (lv_at hl 0 rfl) ?_
  refine g_get cx hw inX12 (ci := 11) rfl 29 (by decide) rfl (v := .ref (ad 19)) shm_0 rfl fl_X12_69 dX12_openThing_1 ?_
  refine lv_aload_n hx hb dX12_openThing_4 rfl (lv_at hl 0 rfl) ?_
  refine g_get cx hw inX12 (ci := 11) rfl 32 (by decide) rfl (v := .int (μ.1 0 32)) shm_0 rfl fl_X12_390 dX12_openThing_5 ?_
  refine lv_aload_n hx hb dX12_openThing_8 rfl (lv_at hl 0 rfl) ?_
  refine g_get cx hw inX12 (ci := 11) rfl 28 (by decide) rfl (v := .int (μ.1 0 28)) shm_0 rfl fl_X12_387 dX12_openThing_9 ?_
  refine lv_iconst (v := 1) hx hb dX12_openThing_12 (by decide) ?_
  refine lv_isub hx hb dX12_openThing_13 ?_
  refine g_iast cx hw shm_19 h dX12_openThing_14 (fun μ1 H locs h hw => ?_)
  refine lv_aload_n hx hb dX12_openThing_15 rfl (lv_at hl 0 rfl) ?_
  refine g_get cx hw inX12 (ci := 11) rfl 30 (by decide) rfl (v := .ref (ad 20)) shm_0 rfl fl_X12_72 dX12_openThing_16 ?_
  refine lv_aload_n hx hb dX12_openThing_19 rfl (lv_at hl 0 rfl) ?_
  refine g_get cx hw inX12 (ci := 11) rfl 32 (by decide) rfl (v := .int (μ1.1 0 32)) shm_0 rfl fl_X12_390 dX12_openThing_20 ?_
  refine lv_iconst (v := 0) hx hb dX12_openThing_23 (by decide) ?_
  refine g_iast cx hw shm_20 h dX12_openThing_24 (fun μ2 H locs h hw => ?_)
  refine lv_aload_n hx hb dX12_openThing_25 rfl (lv_at hl 0 rfl) ?_
  refine lv_dup hx hb dX12_openThing_26 rfl ?_
  refine g_get cx hw inX12 (ci := 11) rfl 32 (by decide) rfl (v := .int (μ2.1 0 32)) shm_0 rfl fl_X12_390 dX12_openThing_27 ?_
  refine lv_iconst (v := 1) hx hb dX12_openThing_30 (by decide) ?_
  refine lv_iadd hx hb dX12_openThing_31 ?_
  refine g_put cx hw inX12 (ci := 11) rfl tyX12_ok nmX12 32 (by decide) rfl rfl rfl rfl shm_0 h fl_X12_390 dX12_openThing_32 (fun μ3 H locs h hw => ?_)
  exact g_vret cx hr hlk hw h dX12_openThing_35

theorem s_X12_signOf_ex : ∃ f : Int32 → Int32, ∀ (a0 : Int32), f a0 = (if a0 = (36 : Int32) then (0 : Int32) else (if a0 = (94 : Int32) then (1 : Int32) else (if a0 = (35 : Int32) then (2 : Int32) else (if a0 = (64 : Int32) then (3 : Int32) else (if a0 = (126 : Int32) then (4 : Int32) else (-1 : Int32)))))) := ⟨fun (a0 : Int32) => (if a0 = (36 : Int32) then (0 : Int32) else (if a0 = (94 : Int32) then (1 : Int32) else (if a0 = (35 : Int32) then (2 : Int32) else (if a0 = (64 : Int32) then (3 : Int32) else (if a0 = (126 : Int32) then (4 : Int32) else (-1 : Int32)))))), fun _ => rfl⟩
noncomputable def s_X12_signOf : Int32 → Int32 := Classical.choose s_X12_signOf_ex
theorem s_X12_signOf_eq (a0 : Int32) : s_X12_signOf a0 = (if a0 = (36 : Int32) then (0 : Int32) else (if a0 = (94 : Int32) then (1 : Int32) else (if a0 = (35 : Int32) then (2 : Int32) else (if a0 = (64 : Int32) then (3 : Int32) else (if a0 = (126 : Int32) then (4 : Int32) else (-1 : Int32)))))) := Classical.choose_spec s_X12_signOf_ex a0
set_option maxHeartbeats 4000000 in
set_option maxRecDepth 100000 in
theorem t_X12_signOf (l : Launch) (G : Gt) (a0 : Int32) : Mt l yX12_signOf cX12_signOf 1 (some .int) ({ frames := 0, cells := 0, slots := 0, locals := 0 } : Room) G [.int a0] [] (sI G (s_X12_signOf a0)) := by
  obtain ⟨r, h⟩ : ∃ r, s_X12_signOf a0 = r := ⟨_, rfl⟩
  rw [h]
  refine Bk.mt (by decide) rfl (Nat.le_of_ble_eq_true rfl) ?_
  intro p e s m below meth c A ls H locs cx hr hlk hA hl hw
  have hx := cx.1
  have hb := cx.2.1
  have hl : lv_has ls 1 [(0, .int a0)] := hl
  rw [s_X12_signOf_eq] at h
  refine lv_iload_n hx hb dX12_signOf_0 rfl (lv_at hl 0 rfl) ?_
  refine lv_bipush (v := 36) hx hb dX12_signOf_1 (by decide) ?_
  refine lv_icmp_ne (tgt := 10) hx hb dX12_signOf_3 (by decide) (fun c1 => ?_) (fun c1 => ?_)
  · rw [if_neg c1] at h
    refine lv_iload_n hx hb dX12_signOf_10 rfl (lv_at hl 0 rfl) ?_
    refine lv_bipush (v := 94) hx hb dX12_signOf_11 (by decide) ?_
    refine lv_icmp_ne (tgt := 20) hx hb dX12_signOf_13 (by decide) (fun c2 => ?_) (fun c2 => ?_)
    · rw [if_neg c2] at h
      refine lv_iload_n hx hb dX12_signOf_20 rfl (lv_at hl 0 rfl) ?_
      refine lv_bipush (v := 35) hx hb dX12_signOf_21 (by decide) ?_
      refine lv_icmp_ne (tgt := 30) hx hb dX12_signOf_23 (by decide) (fun c3 => ?_) (fun c3 => ?_)
      · rw [if_neg c3] at h
        refine lv_iload_n hx hb dX12_signOf_30 rfl (lv_at hl 0 rfl) ?_
        refine lv_bipush (v := 64) hx hb dX12_signOf_31 (by decide) ?_
        refine lv_icmp_ne (tgt := 40) hx hb dX12_signOf_33 (by decide) (fun c4 => ?_) (fun c4 => ?_)
        · rw [if_neg c4] at h
          refine lv_iload_n hx hb dX12_signOf_40 rfl (lv_at hl 0 rfl) ?_
          refine lv_bipush (v := 126) hx hb dX12_signOf_41 (by decide) ?_
          refine lv_icmp_ne (tgt := 50) hx hb dX12_signOf_43 (by decide) (fun c5 => ?_) (fun c5 => ?_)
          · rw [if_neg c5] at h
            refine lv_iconst (v := (-1)) hx hb dX12_signOf_50 (by decide) ?_
            exact s_iret cx hr hlk hw h dX12_signOf_51
          · rw [if_pos c5] at h
            refine lv_iconst (v := 4) hx hb dX12_signOf_46 (by decide) ?_
            refine lv_goto (tgt := 51) hx hb dX12_signOf_47 (by decide) ?_
            exact s_iret cx hr hlk hw h dX12_signOf_51
        · rw [if_pos c4] at h
          refine lv_iconst (v := 3) hx hb dX12_signOf_36 (by decide) ?_
          refine lv_goto (tgt := 51) hx hb dX12_signOf_37 (by decide) ?_
          exact s_iret cx hr hlk hw h dX12_signOf_51
      · rw [if_pos c3] at h
        refine lv_iconst (v := 2) hx hb dX12_signOf_26 (by decide) ?_
        refine lv_goto (tgt := 51) hx hb dX12_signOf_27 (by decide) ?_
        exact s_iret cx hr hlk hw h dX12_signOf_51
    · rw [if_pos c2] at h
      refine lv_iconst (v := 1) hx hb dX12_signOf_16 (by decide) ?_
      refine lv_goto (tgt := 51) hx hb dX12_signOf_17 (by decide) ?_
      exact s_iret cx hr hlk hw h dX12_signOf_51
  · rw [if_pos c1] at h
    refine lv_iconst (v := 0) hx hb dX12_signOf_6 (by decide) ?_
    refine lv_goto (tgt := 51) hx hb dX12_signOf_7 (by decide) ?_
    exact s_iret cx hr hlk hw h dX12_signOf_51

theorem p_X12_layOpen_ex : ∃ f : Int32 → Int32 → Int32 → Mem → Option (Int32 × Mem), ∀ (a1 : Int32) (a2 : Int32) (a3 : Int32) (μ : Mem), f a1 a2 a3 μ = bv (sF μ 0 4 ((μ.1 0 4) + (1 : Int32))) (fun μ1 => bd (p_X12_lay a1 a2 a3 μ1) (fun r3 μ2 => bw (p_X12_openThing μ2) (fun μ4 => gd (isB r3) (some (r3, μ4))))) := ⟨fun (a1 : Int32) (a2 : Int32) (a3 : Int32) (μ : Mem) => bv (sF μ 0 4 ((μ.1 0 4) + (1 : Int32))) (fun μ1 => bd (p_X12_lay a1 a2 a3 μ1) (fun r3 μ2 => bw (p_X12_openThing μ2) (fun μ4 => gd (isB r3) (some (r3, μ4))))), fun _ _ _ _ => rfl⟩
noncomputable def p_X12_layOpen : Int32 → Int32 → Int32 → Mem → Option (Int32 × Mem) := Classical.choose p_X12_layOpen_ex
theorem p_X12_layOpen_eq (a1 : Int32) (a2 : Int32) (a3 : Int32) (μ : Mem) : p_X12_layOpen a1 a2 a3 μ = bv (sF μ 0 4 ((μ.1 0 4) + (1 : Int32))) (fun μ1 => bd (p_X12_lay a1 a2 a3 μ1) (fun r3 μ2 => bw (p_X12_openThing μ2) (fun μ4 => gd (isB r3) (some (r3, μ4))))) := Classical.choose_spec p_X12_layOpen_ex a1 a2 a3 μ
set_option maxHeartbeats 4000000 in
set_option maxRecDepth 100000 in
theorem t_X12_layOpen (l : Launch) (G : Gt) (ad : Nat → Nat) (a1 : Int32) (a2 : Int32) (a3 : Int32) (μ : Mem) {r : Int32} {μz : Mem} (h : p_X12_layOpen a1 a2 a3 μ = some (r, μz)) : Mt l yX12_layOpen cX12_layOpen 5 (some .boolean) ({ frames := 1, cells := 0, slots := 0, locals := 23 } : Room) G [.ref (ad 0), .int a1, .int a2, .int a3] (wd 1 G ad μ) (eI 1 G ad r μz) := by
  refine Bk.mt (by decide) rfl (Nat.le_of_ble_eq_true rfl) ?_
  intro p e s m below meth c A ls H locs cx hr hlk hA hl hw
  have hx := cx.1
  have hb := cx.2.1
  have hl : lv_has ls 5 [(0, .ref (ad 0)), (1, .int a1), (2, .int a2), (3, .int a3)] := hl
  rw [p_X12_layOpen_eq] at h
  refine lv_aload_n hx hb dX12_layOpen_0 rfl (lv_at hl 0 rfl) ?_
  refine lv_dup hx hb dX12_layOpen_1 rfl ?_
  refine g_get cx hw inX12 (ci := 11) rfl 4 (by decide) rfl (v := .int (μ.1 0 4)) shm_0 rfl fl_X12_362 dX12_layOpen_2 ?_
  refine lv_iconst (v := 1) hx hb dX12_layOpen_5 (by decide) ?_
  refine lv_iadd hx hb dX12_layOpen_6 ?_
  refine g_put cx hw inX12 (ci := 11) rfl tyX12_ok nmX12 4 (by decide) rfl rfl rfl rfl shm_0 h fl_X12_362 dX12_layOpen_7 (fun μ1 H locs h hw => ?_)
  refine lv_aload_n hx hb dX12_layOpen_10 rfl (lv_at hl 0 rfl) ?_
  refine lv_iload_n hx hb dX12_layOpen_11 rfl (lv_at hl 1 rfl) ?_
  refine lv_iload_n hx hb dX12_layOpen_12 rfl (lv_at hl 2 rfl) ?_
  refine lv_iload_n hx hb dX12_layOpen_13 rfl (lv_at hl 3 rfl) ?_
  obtain ⟨r3, μ2, gr3, h⟩ := bd_some h
  refine g_callVI (As := [.int a1, .int a2, .int a3]) (rest := []) cx hw hA (t_X12_lay l G ad a1 a2 a3 μ1 gr3) shm_0 rfl ml_X12_393 im_X12_lay se_X12_lay in_X12 co_X12_lay rfl hd_X12_lay rfl ⟨(Nat.le_of_ble_eq_true rfl), (Nat.le_of_ble_eq_true rfl)⟩ hl.1 rfl (Nat.le_of_ble_eq_true rfl) dX12_layOpen_14 ⟨rfl, rfl⟩ (fun H locs hw => ?_)
  refine lv_istore (lv' := [(4, .int r3), (0, .ref (ad 0)), (1, .int a1), (2, .int a2), (3, .int a3)]) hx hb dX12_layOpen_17 hl (by decide) rfl (fun ls hl => ?_)
  refine lv_aload_n hx hb dX12_layOpen_19 rfl (lv_at hl 1 rfl) ?_
  obtain ⟨μ4, gμ4, h⟩ := bw_some h
  refine g_callVV (As := []) (rest := []) cx hw hA (t_X12_openThing l G ad μ2 gμ4) shm_0 rfl ml_X12_396 im_X12_openThing se_X12_openThing in_X12 co_X12_openThing rfl hd_X12_openThing rfl ⟨(Nat.le_of_ble_eq_true rfl), (Nat.le_of_ble_eq_true rfl)⟩ hl.1 rfl (Nat.le_of_ble_eq_true rfl) dX12_layOpen_20 ⟨rfl, rfl⟩ (fun H locs hw => ?_)
  refine lv_iload hx hb dX12_layOpen_23 (lv_at hl 0 rfl) ?_
  obtain ⟨c6, h⟩ := gd_some h
  exact g_zret cx hr hlk (isB_n c6) hw h dX12_layOpen_25

theorem p_X12_readPlace_ex : ∃ f : Mem → Option (Int32 × Mem), ∀  (μ : Mem), f  μ = bv (sF μ 0 4 ((μ.1 0 4) + (1 : Int32))) (fun μ1 => bd (p_X12_here μ1) (fun r3 μ2 => (if (s_X12_isIn r3 (48 : Int32) (55 : Int32)) = (0 : Int32) then bd (p_X12_fails (μ2.1 0 4) μ2) (fun r6 μ5 => (if r6 = (0 : Int32) then some ((0 : Int32), μ5) else some ((1 : Int32), μ5))) else some ((1 : Int32), μ2)))) := ⟨fun  (μ : Mem) => bv (sF μ 0 4 ((μ.1 0 4) + (1 : Int32))) (fun μ1 => bd (p_X12_here μ1) (fun r3 μ2 => (if (s_X12_isIn r3 (48 : Int32) (55 : Int32)) = (0 : Int32) then bd (p_X12_fails (μ2.1 0 4) μ2) (fun r6 μ5 => (if r6 = (0 : Int32) then some ((0 : Int32), μ5) else some ((1 : Int32), μ5))) else some ((1 : Int32), μ2)))), fun _ => rfl⟩
noncomputable def p_X12_readPlace : Mem → Option (Int32 × Mem) := Classical.choose p_X12_readPlace_ex
theorem p_X12_readPlace_eq  (μ : Mem) : p_X12_readPlace  μ = bv (sF μ 0 4 ((μ.1 0 4) + (1 : Int32))) (fun μ1 => bd (p_X12_here μ1) (fun r3 μ2 => (if (s_X12_isIn r3 (48 : Int32) (55 : Int32)) = (0 : Int32) then bd (p_X12_fails (μ2.1 0 4) μ2) (fun r6 μ5 => (if r6 = (0 : Int32) then some ((0 : Int32), μ5) else some ((1 : Int32), μ5))) else some ((1 : Int32), μ2)))) := Classical.choose_spec p_X12_readPlace_ex  μ
set_option maxHeartbeats 4000000 in
set_option maxRecDepth 100000 in
theorem t_X12_readPlace (l : Launch) (G : Gt) (ad : Nat → Nat)  (μ : Mem) {r : Int32} {μz : Mem} (h : p_X12_readPlace  μ = some (r, μz)) : Mt l yX12_readPlace cX12_readPlace 1 (some .boolean) ({ frames := 1, cells := 0, slots := 0, locals := 22 } : Room) G [.ref (ad 0)] (wd 1 G ad μ) (eI 1 G ad r μz) := by
  refine Bk.mt (by decide) rfl (Nat.le_of_ble_eq_true rfl) ?_
  intro p e s m below meth c A ls H locs cx hr hlk hA hl hw
  have hx := cx.1
  have hb := cx.2.1
  have hl : lv_has ls 1 [(0, .ref (ad 0))] := hl
  rw [p_X12_readPlace_eq] at h
  refine lv_aload_n hx hb dX12_readPlace_0 rfl (lv_at hl 0 rfl) ?_
  refine lv_dup hx hb dX12_readPlace_1 rfl ?_
  refine g_get cx hw inX12 (ci := 11) rfl 4 (by decide) rfl (v := .int (μ.1 0 4)) shm_0 rfl fl_X12_362 dX12_readPlace_2 ?_
  refine lv_iconst (v := 1) hx hb dX12_readPlace_5 (by decide) ?_
  refine lv_iadd hx hb dX12_readPlace_6 ?_
  refine g_put cx hw inX12 (ci := 11) rfl tyX12_ok nmX12 4 (by decide) rfl rfl rfl rfl shm_0 h fl_X12_362 dX12_readPlace_7 (fun μ1 H locs h hw => ?_)
  refine lv_aload_n hx hb dX12_readPlace_10 rfl (lv_at hl 0 rfl) ?_
  obtain ⟨r3, μ2, gr3, h⟩ := bd_some h
  refine g_callVI (As := []) (rest := []) cx hw hA (t_X12_here l G ad μ1 gr3) shm_0 rfl ml_X12_365 im_X12_here se_X12_here in_X12 co_X12_here rfl hd_X12_here rfl ⟨(Nat.le_of_ble_eq_true rfl), (Nat.le_of_ble_eq_true rfl)⟩ hl.1 rfl (Nat.le_of_ble_eq_true rfl) dX12_readPlace_11 ⟨rfl, rfl⟩ (fun H locs hw => ?_)
  refine lv_bipush (v := 48) hx hb dX12_readPlace_14 (by decide) ?_
  refine lv_bipush (v := 55) hx hb dX12_readPlace_16 (by decide) ?_
  refine s_callI (As := [.int r3, .int 48, .int 55]) (rest := []) cx hw hA (t_X12_isIn l G r3 (48 : Int32) (55 : Int32)) ml_X12_359 st_X12_isIn in_X12 co_X12_isIn hd_X12_isIn rfl ⟨(Nat.le_of_ble_eq_true rfl), (Nat.le_of_ble_eq_true rfl)⟩ hl.1 rfl (Nat.le_of_ble_eq_true rfl) dX12_readPlace_18 rfl (fun H locs hw => ?_)
  refine lv_if_ne (tgt := 35) hx hb dX12_readPlace_21 (by decide) (fun c4 => ?_) (fun c4 => ?_)
  · rw [if_neg c4] at h
    refine lv_iconst (v := 1) hx hb dX12_readPlace_35 (by decide) ?_
    refine lv_goto (tgt := 40) hx hb dX12_readPlace_36 (by decide) ?_
    exact g_zret cx hr hlk rfl hw h dX12_readPlace_40
  · rw [if_pos c4] at h
    refine lv_aload_n hx hb dX12_readPlace_24 rfl (lv_at hl 0 rfl) ?_
    refine lv_aload_n hx hb dX12_readPlace_25 rfl (lv_at hl 0 rfl) ?_
    refine g_get cx hw inX12 (ci := 11) rfl 4 (by decide) rfl (v := .int (μ2.1 0 4)) shm_0 rfl fl_X12_362 dX12_readPlace_26 ?_
    obtain ⟨r6, μ5, gr6, h⟩ := bd_some h
    refine g_callVI (As := [.int (μ2.1 0 4)]) (rest := []) cx hw hA (t_X12_fails l G ad (μ2.1 0 4) μ2 gr6) shm_0 rfl ml_X12_369 im_X12_fails se_X12_fails in_X12 co_X12_fails rfl hd_X12_fails rfl ⟨(Nat.le_of_ble_eq_true rfl), (Nat.le_of_ble_eq_true rfl)⟩ hl.1 rfl (Nat.le_of_ble_eq_true rfl) dX12_readPlace_29 ⟨rfl, rfl⟩ (fun H locs hw => ?_)
    refine lv_if_eq (tgt := 39) hx hb dX12_readPlace_32 (by decide) (fun c7 => ?_) (fun c7 => ?_)
    · rw [if_pos c7] at h
      refine lv_iconst (v := 0) hx hb dX12_readPlace_39 (by decide) ?_
      exact g_zret cx hr hlk rfl hw h dX12_readPlace_40
    · rw [if_neg c7] at h
      refine lv_iconst (v := 1) hx hb dX12_readPlace_35 (by decide) ?_
      refine lv_goto (tgt := 40) hx hb dX12_readPlace_36 (by decide) ?_
      exact g_zret cx hr hlk rfl hw h dX12_readPlace_40

theorem p_X12_readLet_ex : ∃ f : Mem → Option (Int32 × Mem), ∀  (μ : Mem), f  μ = bv (sF μ 0 4 ((μ.1 0 4) + (1 : Int32))) (fun μ1 => bd (p_X12_here μ1) (fun r3 μ2 => (if (s_X12_isVarLetter r3) = (0 : Int32) then bd (p_X12_fails (μ2.1 0 4) μ2) (fun r15 μ14 => gd (isB r15) (some (r15, μ14))) else bd (p_X12_here μ2) (fun r6 μ5 => bv (r6 - (109 : Int32)) (fun v7 => bd (p_X12_layOpen (11 : Int32) v7 (2 : Int32) μ5) (fun r9 μ8 => (if r9 = (0 : Int32) then some ((0 : Int32), μ8) else bd (p_X12_takes (61 : Int32) μ8) (fun r12 μ11 => (if r12 = (0 : Int32) then some ((0 : Int32), μ11) else some ((1 : Int32), μ11)))))))))) := ⟨fun  (μ : Mem) => bv (sF μ 0 4 ((μ.1 0 4) + (1 : Int32))) (fun μ1 => bd (p_X12_here μ1) (fun r3 μ2 => (if (s_X12_isVarLetter r3) = (0 : Int32) then bd (p_X12_fails (μ2.1 0 4) μ2) (fun r15 μ14 => gd (isB r15) (some (r15, μ14))) else bd (p_X12_here μ2) (fun r6 μ5 => bv (r6 - (109 : Int32)) (fun v7 => bd (p_X12_layOpen (11 : Int32) v7 (2 : Int32) μ5) (fun r9 μ8 => (if r9 = (0 : Int32) then some ((0 : Int32), μ8) else bd (p_X12_takes (61 : Int32) μ8) (fun r12 μ11 => (if r12 = (0 : Int32) then some ((0 : Int32), μ11) else some ((1 : Int32), μ11)))))))))), fun _ => rfl⟩
noncomputable def p_X12_readLet : Mem → Option (Int32 × Mem) := Classical.choose p_X12_readLet_ex
theorem p_X12_readLet_eq  (μ : Mem) : p_X12_readLet  μ = bv (sF μ 0 4 ((μ.1 0 4) + (1 : Int32))) (fun μ1 => bd (p_X12_here μ1) (fun r3 μ2 => (if (s_X12_isVarLetter r3) = (0 : Int32) then bd (p_X12_fails (μ2.1 0 4) μ2) (fun r15 μ14 => gd (isB r15) (some (r15, μ14))) else bd (p_X12_here μ2) (fun r6 μ5 => bv (r6 - (109 : Int32)) (fun v7 => bd (p_X12_layOpen (11 : Int32) v7 (2 : Int32) μ5) (fun r9 μ8 => (if r9 = (0 : Int32) then some ((0 : Int32), μ8) else bd (p_X12_takes (61 : Int32) μ8) (fun r12 μ11 => (if r12 = (0 : Int32) then some ((0 : Int32), μ11) else some ((1 : Int32), μ11)))))))))) := Classical.choose_spec p_X12_readLet_ex  μ
set_option maxHeartbeats 4000000 in
set_option maxRecDepth 100000 in
theorem t_X12_readLet (l : Launch) (G : Gt) (ad : Nat → Nat)  (μ : Mem) {r : Int32} {μz : Mem} (h : p_X12_readLet  μ = some (r, μz)) : Mt l yX12_readLet cX12_readLet 2 (some .boolean) ({ frames := 2, cells := 0, slots := 0, locals := 47 } : Room) G [.ref (ad 0)] (wd 1 G ad μ) (eI 1 G ad r μz) := by
  refine Bk.mt (by decide) rfl (Nat.le_of_ble_eq_true rfl) ?_
  intro p e s m below meth c A ls H locs cx hr hlk hA hl hw
  have hx := cx.1
  have hb := cx.2.1
  have hl : lv_has ls 2 [(0, .ref (ad 0))] := hl
  rw [p_X12_readLet_eq] at h
  refine lv_aload_n hx hb dX12_readLet_0 rfl (lv_at hl 0 rfl) ?_
  refine lv_dup hx hb dX12_readLet_1 rfl ?_
  refine g_get cx hw inX12 (ci := 11) rfl 4 (by decide) rfl (v := .int (μ.1 0 4)) shm_0 rfl fl_X12_362 dX12_readLet_2 ?_
  refine lv_iconst (v := 1) hx hb dX12_readLet_5 (by decide) ?_
  refine lv_iadd hx hb dX12_readLet_6 ?_
  refine g_put cx hw inX12 (ci := 11) rfl tyX12_ok nmX12 4 (by decide) rfl rfl rfl rfl shm_0 h fl_X12_362 dX12_readLet_7 (fun μ1 H locs h hw => ?_)
  refine lv_aload_n hx hb dX12_readLet_10 rfl (lv_at hl 0 rfl) ?_
  obtain ⟨r3, μ2, gr3, h⟩ := bd_some h
  refine g_callVI (As := []) (rest := []) cx hw hA (t_X12_here l G ad μ1 gr3) shm_0 rfl ml_X12_365 im_X12_here se_X12_here in_X12 co_X12_here rfl hd_X12_here rfl ⟨(Nat.le_of_ble_eq_true rfl), (Nat.le_of_ble_eq_true rfl)⟩ hl.1 rfl (Nat.le_of_ble_eq_true rfl) dX12_readLet_11 ⟨rfl, rfl⟩ (fun H locs hw => ?_)
  refine s_callI (As := [.int r3]) (rest := []) cx hw hA (t_X12_isVarLetter l G r3) ml_X12_403 st_X12_isVarLetter in_X12 co_X12_isVarLetter hd_X12_isVarLetter rfl ⟨(Nat.le_of_ble_eq_true rfl), (Nat.le_of_ble_eq_true rfl)⟩ hl.1 rfl (Nat.le_of_ble_eq_true rfl) dX12_readLet_14 rfl (fun H locs hw => ?_)
  refine lv_if_ne (tgt := 29) hx hb dX12_readLet_17 (by decide) (fun c4 => ?_) (fun c4 => ?_)
  · rw [if_neg c4] at h
    refine lv_aload_n hx hb dX12_readLet_29 rfl (lv_at hl 0 rfl) ?_
    obtain ⟨r6, μ5, gr6, h⟩ := bd_some h
    refine g_callVI (As := []) (rest := []) cx hw hA (t_X12_here l G ad μ2 gr6) shm_0 rfl ml_X12_365 im_X12_here se_X12_here in_X12 co_X12_here rfl hd_X12_here rfl ⟨(Nat.le_of_ble_eq_true rfl), (Nat.le_of_ble_eq_true rfl)⟩ hl.1 rfl (Nat.le_of_ble_eq_true rfl) dX12_readLet_30 ⟨rfl, rfl⟩ (fun H locs hw => ?_)
    refine lv_bipush (v := 109) hx hb dX12_readLet_33 (by decide) ?_
    refine lv_isub hx hb dX12_readLet_35 ?_
    obtain ⟨v7, ev7, h⟩ := bv_ex h
    refine lv_topi (fun y9 z9 => ?_)
    obtain rfl : v7 = y9 := ev7.trans z9.symm
    refine lv_istore_n (lv' := [(1, .int v7), (0, .ref (ad 0))]) hx hb dX12_readLet_36 rfl hl (by decide) rfl (fun ls hl => ?_)
    refine lv_aload_n hx hb dX12_readLet_37 rfl (lv_at hl 1 rfl) ?_
    refine lv_bipush (v := 11) hx hb dX12_readLet_38 (by decide) ?_
    refine lv_iload_n hx hb dX12_readLet_40 rfl (lv_at hl 0 rfl) ?_
    refine lv_iconst (v := 2) hx hb dX12_readLet_41 (by decide) ?_
    obtain ⟨r9, μ8, gr9, h⟩ := bd_some h
    refine g_callVI (As := [.int 11, .int v7, .int 2]) (rest := []) cx hw hA (t_X12_layOpen l G ad (11 : Int32) v7 (2 : Int32) μ5 gr9) shm_0 rfl ml_X12_419 im_X12_layOpen se_X12_layOpen in_X12 co_X12_layOpen rfl hd_X12_layOpen rfl ⟨(Nat.le_of_ble_eq_true rfl), (Nat.le_of_ble_eq_true rfl)⟩ hl.1 rfl (Nat.le_of_ble_eq_true rfl) dX12_readLet_42 ⟨rfl, rfl⟩ (fun H locs hw => ?_)
    refine lv_if_eq (tgt := 61) hx hb dX12_readLet_45 (by decide) (fun c10 => ?_) (fun c10 => ?_)
    · rw [if_pos c10] at h
      refine lv_iconst (v := 0) hx hb dX12_readLet_61 (by decide) ?_
      exact g_zret cx hr hlk rfl hw h dX12_readLet_62
    · rw [if_neg c10] at h
      refine lv_aload_n hx hb dX12_readLet_48 rfl (lv_at hl 1 rfl) ?_
      refine lv_bipush (v := 61) hx hb dX12_readLet_49 (by decide) ?_
      obtain ⟨r12, μ11, gr12, h⟩ := bd_some h
      refine g_callVI (As := [.int 61]) (rest := []) cx hw hA (t_X12_takes l G ad (61 : Int32) μ8 gr12) shm_0 rfl ml_X12_422 im_X12_takes se_X12_takes in_X12 co_X12_takes rfl hd_X12_takes rfl ⟨(Nat.le_of_ble_eq_true rfl), (Nat.le_of_ble_eq_true rfl)⟩ hl.1 rfl (Nat.le_of_ble_eq_true rfl) dX12_readLet_51 ⟨rfl, rfl⟩ (fun H locs hw => ?_)
      refine lv_if_eq (tgt := 61) hx hb dX12_readLet_54 (by decide) (fun c13 => ?_) (fun c13 => ?_)
      · rw [if_pos c13] at h
        refine lv_iconst (v := 0) hx hb dX12_readLet_61 (by decide) ?_
        exact g_zret cx hr hlk rfl hw h dX12_readLet_62
      · rw [if_neg c13] at h
        refine lv_iconst (v := 1) hx hb dX12_readLet_57 (by decide) ?_
        refine lv_goto (tgt := 62) hx hb dX12_readLet_58 (by decide) ?_
        exact g_zret cx hr hlk rfl hw h dX12_readLet_62
  · rw [if_pos c4] at h
    refine lv_aload_n hx hb dX12_readLet_20 rfl (lv_at hl 0 rfl) ?_
    refine lv_aload_n hx hb dX12_readLet_21 rfl (lv_at hl 0 rfl) ?_
    refine g_get cx hw inX12 (ci := 11) rfl 4 (by decide) rfl (v := .int (μ2.1 0 4)) shm_0 rfl fl_X12_362 dX12_readLet_22 ?_
    obtain ⟨r15, μ14, gr15, h⟩ := bd_some h
    refine g_callVI (As := [.int (μ2.1 0 4)]) (rest := []) cx hw hA (t_X12_fails l G ad (μ2.1 0 4) μ2 gr15) shm_0 rfl ml_X12_369 im_X12_fails se_X12_fails in_X12 co_X12_fails rfl hd_X12_fails rfl ⟨(Nat.le_of_ble_eq_true rfl), (Nat.le_of_ble_eq_true rfl)⟩ hl.1 rfl (Nat.le_of_ble_eq_true rfl) dX12_readLet_25 ⟨rfl, rfl⟩ (fun H locs hw => ?_)
    obtain ⟨c16, h⟩ := gd_some h
    exact g_zret cx hr hlk (isB_n c16) hw h dX12_readLet_28

theorem p_X12_readCall_b30_ex : ∃ f : Int32 → Mem → Option (Int32 × Mem), ∀ (k0 : Int32) (μ : Mem), f k0 μ = (if k0 = (0 : Int32) then gd (isB k0) (some (k0, μ)) else bd (p_X12_here μ) (fun r7 μ6 => (if r7 = (41 : Int32) then bv (sF μ6 0 4 ((μ6.1 0 4) + (1 : Int32))) (fun μ10 => bv (sF μ10 0 32 ((μ10.1 0 32) - (1 : Int32))) (fun μ11 => gd (isB k0) (some (k0, μ11)))) else gd (isB k0) (some (k0, μ6))))) := ⟨fun (k0 : Int32) (μ : Mem) => (if k0 = (0 : Int32) then gd (isB k0) (some (k0, μ)) else bd (p_X12_here μ) (fun r7 μ6 => (if r7 = (41 : Int32) then bv (sF μ6 0 4 ((μ6.1 0 4) + (1 : Int32))) (fun μ10 => bv (sF μ10 0 32 ((μ10.1 0 32) - (1 : Int32))) (fun μ11 => gd (isB k0) (some (k0, μ11)))) else gd (isB k0) (some (k0, μ6))))), fun _ _ => rfl⟩
noncomputable def p_X12_readCall_b30 : Int32 → Mem → Option (Int32 × Mem) := Classical.choose p_X12_readCall_b30_ex
theorem p_X12_readCall_b30_eq (k0 : Int32) (μ : Mem) : p_X12_readCall_b30 k0 μ = (if k0 = (0 : Int32) then gd (isB k0) (some (k0, μ)) else bd (p_X12_here μ) (fun r7 μ6 => (if r7 = (41 : Int32) then bv (sF μ6 0 4 ((μ6.1 0 4) + (1 : Int32))) (fun μ10 => bv (sF μ10 0 32 ((μ10.1 0 32) - (1 : Int32))) (fun μ11 => gd (isB k0) (some (k0, μ11)))) else gd (isB k0) (some (k0, μ6))))) := Classical.choose_spec p_X12_readCall_b30_ex k0 μ
set_option maxHeartbeats 4000000 in
set_option maxRecDepth 100000 in
theorem t_X12_readCall_b30 (l : Launch) (G : Gt) (ad : Nat → Nat) (av : List Value) {r : Int32} {μz : Mem} (k0 : Int32) (μ : Mem) (h : p_X12_readCall_b30  k0 μ = some (r, μz)) : Bk l cX12_readCall 3 RX12 (some .boolean) ({ frames := 2, cells := 0, slots := 0, locals := 47 } : Room) G av (eI 1 G ad r μz) (wd 1 G ad μ) 30 [(0, .ref (ad 0))] [.int k0] := by
  intro p e s m below meth c A ls H locs cx hr hlk hA hl hw
  have hx := cx.1
  have hb := cx.2.1
  rw [p_X12_readCall_b30_eq] at h
  refine lv_istore_n (lv' := [(2, .int k0), (0, .ref (ad 0))]) hx hb dX12_readCall_30 rfl hl (by decide) rfl (fun ls hl => ?_)
  refine lv_iload_n hx hb dX12_readCall_31 rfl (lv_at hl 0 rfl) ?_
  refine lv_if_eq (tgt := 64) hx hb dX12_readCall_32 (by decide) (fun c4 => ?_) (fun c4 => ?_)
  · rw [if_pos c4] at h
    refine lv_iload_n hx hb dX12_readCall_64 rfl (lv_at hl 0 rfl) ?_
    obtain ⟨c5, h⟩ := gd_some h
    exact g_zret cx hr hlk (isB_n c5) hw h dX12_readCall_65
  · rw [if_neg c4] at h
    refine lv_aload_n hx hb dX12_readCall_35 rfl (lv_at hl 1 rfl) ?_
    obtain ⟨r7, μ6, gr7, h⟩ := bd_some h
    refine g_callVI (As := []) (rest := []) cx hw hA (t_X12_here l G ad μ gr7) shm_0 rfl ml_X12_365 im_X12_here se_X12_here in_X12 co_X12_here rfl hd_X12_here rfl ⟨(Nat.le_of_ble_eq_true rfl), (Nat.le_of_ble_eq_true rfl)⟩ hl.1 rfl (Nat.le_of_ble_eq_true rfl) dX12_readCall_36 ⟨rfl, rfl⟩ (fun H locs hw => ?_)
    refine lv_bipush (v := 41) hx hb dX12_readCall_39 (by decide) ?_
    refine lv_icmp_ne (tgt := 64) hx hb dX12_readCall_41 (by decide) (fun c8 => ?_) (fun c8 => ?_)
    · rw [if_neg c8] at h
      refine lv_iload_n hx hb dX12_readCall_64 rfl (lv_at hl 0 rfl) ?_
      obtain ⟨c9, h⟩ := gd_some h
      exact g_zret cx hr hlk (isB_n c9) hw h dX12_readCall_65
    · rw [if_pos c8] at h
      refine lv_aload_n hx hb dX12_readCall_44 rfl (lv_at hl 1 rfl) ?_
      refine lv_dup hx hb dX12_readCall_45 rfl ?_
      refine g_get cx hw inX12 (ci := 11) rfl 4 (by decide) rfl (v := .int (μ6.1 0 4)) shm_0 rfl fl_X12_362 dX12_readCall_46 ?_
      refine lv_iconst (v := 1) hx hb dX12_readCall_49 (by decide) ?_
      refine lv_iadd hx hb dX12_readCall_50 ?_
      refine g_put cx hw inX12 (ci := 11) rfl tyX12_ok nmX12 4 (by decide) rfl rfl rfl rfl shm_0 h fl_X12_362 dX12_readCall_51 (fun μ10 H locs h hw => ?_)
      refine lv_aload_n hx hb dX12_readCall_54 rfl (lv_at hl 1 rfl) ?_
      refine lv_dup hx hb dX12_readCall_55 rfl ?_
      refine g_get cx hw inX12 (ci := 11) rfl 32 (by decide) rfl (v := .int (μ10.1 0 32)) shm_0 rfl fl_X12_390 dX12_readCall_56 ?_
      refine lv_iconst (v := 1) hx hb dX12_readCall_59 (by decide) ?_
      refine lv_isub hx hb dX12_readCall_60 ?_
      refine g_put cx hw inX12 (ci := 11) rfl tyX12_ok nmX12 32 (by decide) rfl rfl rfl rfl shm_0 h fl_X12_390 dX12_readCall_61 (fun μ11 H locs h hw => ?_)
      refine lv_iload_n hx hb dX12_readCall_64 rfl (lv_at hl 0 rfl) ?_
      obtain ⟨c12, h⟩ := gd_some h
      exact g_zret cx hr hlk (isB_n c12) hw h dX12_readCall_65
theorem p_X12_readCall_b29_ex : ∃ f : Mem → Option (Int32 × Mem), ∀  (μ : Mem), f  μ = p_X12_readCall_b30  (0 : Int32) μ := ⟨fun  (μ : Mem) => p_X12_readCall_b30  (0 : Int32) μ, fun _ => rfl⟩
noncomputable def p_X12_readCall_b29 : Mem → Option (Int32 × Mem) := Classical.choose p_X12_readCall_b29_ex
theorem p_X12_readCall_b29_eq  (μ : Mem) : p_X12_readCall_b29  μ = p_X12_readCall_b30  (0 : Int32) μ := Classical.choose_spec p_X12_readCall_b29_ex  μ
set_option maxHeartbeats 4000000 in
set_option maxRecDepth 100000 in
theorem t_X12_readCall_b29 (l : Launch) (G : Gt) (ad : Nat → Nat) (av : List Value) {r : Int32} {μz : Mem}  (μ : Mem) (h : p_X12_readCall_b29   μ = some (r, μz)) : Bk l cX12_readCall 3 RX12 (some .boolean) ({ frames := 2, cells := 0, slots := 0, locals := 47 } : Room) G av (eI 1 G ad r μz) (wd 1 G ad μ) 29 [(0, .ref (ad 0))] [] := by
  intro p e s m below meth c A ls H locs cx hr hlk hA hl hw
  have hx := cx.1
  have hb := cx.2.1
  rw [p_X12_readCall_b29_eq] at h
  refine lv_iconst (v := 0) hx hb dX12_readCall_29 (by decide) ?_
  exact t_X12_readCall_b30 l G ad av  (0 : Int32) μ h p e s m below meth c A ls H locs cx hr hlk hA (lv_sub hl [0] rfl) hw
theorem p_X12_readCall_ex : ∃ f : Int32 → Mem → Option (Int32 × Mem), ∀ (a1 : Int32) (μ : Mem), f a1 μ = bd (p_X12_layOpen (12 : Int32) ((a1 - (97 : Int32)) + (1 : Int32)) (0 : Int32) μ) (fun r2 μ1 => (if r2 = (0 : Int32) then p_X12_readCall_b29  μ1 else bd (p_X12_takes (40 : Int32) μ1) (fun r14 μ13 => (if r14 = (0 : Int32) then p_X12_readCall_b29  μ13 else p_X12_readCall_b30  (1 : Int32) μ13)))) := ⟨fun (a1 : Int32) (μ : Mem) => bd (p_X12_layOpen (12 : Int32) ((a1 - (97 : Int32)) + (1 : Int32)) (0 : Int32) μ) (fun r2 μ1 => (if r2 = (0 : Int32) then p_X12_readCall_b29  μ1 else bd (p_X12_takes (40 : Int32) μ1) (fun r14 μ13 => (if r14 = (0 : Int32) then p_X12_readCall_b29  μ13 else p_X12_readCall_b30  (1 : Int32) μ13)))), fun _ _ => rfl⟩
noncomputable def p_X12_readCall : Int32 → Mem → Option (Int32 × Mem) := Classical.choose p_X12_readCall_ex
theorem p_X12_readCall_eq (a1 : Int32) (μ : Mem) : p_X12_readCall a1 μ = bd (p_X12_layOpen (12 : Int32) ((a1 - (97 : Int32)) + (1 : Int32)) (0 : Int32) μ) (fun r2 μ1 => (if r2 = (0 : Int32) then p_X12_readCall_b29  μ1 else bd (p_X12_takes (40 : Int32) μ1) (fun r14 μ13 => (if r14 = (0 : Int32) then p_X12_readCall_b29  μ13 else p_X12_readCall_b30  (1 : Int32) μ13)))) := Classical.choose_spec p_X12_readCall_ex a1 μ
set_option maxHeartbeats 4000000 in
set_option maxRecDepth 100000 in
theorem t_X12_readCall (l : Launch) (G : Gt) (ad : Nat → Nat) (a1 : Int32) (μ : Mem) {r : Int32} {μz : Mem} (h : p_X12_readCall a1 μ = some (r, μz)) : Mt l yX12_readCall cX12_readCall 3 (some .boolean) ({ frames := 2, cells := 0, slots := 0, locals := 47 } : Room) G [.ref (ad 0), .int a1] (wd 1 G ad μ) (eI 1 G ad r μz) := by
  refine Bk.mt (by decide) rfl (Nat.le_of_ble_eq_true rfl) ?_
  intro p e s m below meth c A ls H locs cx hr hlk hA hl hw
  have hx := cx.1
  have hb := cx.2.1
  have hl : lv_has ls 3 [(0, .ref (ad 0)), (1, .int a1)] := hl
  rw [p_X12_readCall_eq] at h
  refine lv_aload_n hx hb dX12_readCall_0 rfl (lv_at hl 0 rfl) ?_
  refine lv_bipush (v := 12) hx hb dX12_readCall_1 (by decide) ?_
  refine lv_iload_n hx hb dX12_readCall_3 rfl (lv_at hl 1 rfl) ?_
  refine lv_bipush (v := 97) hx hb dX12_readCall_4 (by decide) ?_
  refine lv_isub hx hb dX12_readCall_6 ?_
  refine lv_iconst (v := 1) hx hb dX12_readCall_7 (by decide) ?_
  refine lv_iadd hx hb dX12_readCall_8 ?_
  refine lv_iconst (v := 0) hx hb dX12_readCall_9 (by decide) ?_
  obtain ⟨r2, μ1, gr2, h⟩ := bd_some h
  refine g_callVI (As := [.int 12, .int ((a1 - (97 : Int32)) + (1 : Int32)), .int 0]) (rest := []) cx hw hA (t_X12_layOpen l G ad (12 : Int32) ((a1 - (97 : Int32)) + (1 : Int32)) (0 : Int32) μ gr2) shm_0 rfl ml_X12_419 im_X12_layOpen se_X12_layOpen in_X12 co_X12_layOpen rfl hd_X12_layOpen rfl ⟨(Nat.le_of_ble_eq_true rfl), (Nat.le_of_ble_eq_true rfl)⟩ hl.1 rfl (Nat.le_of_ble_eq_true rfl) dX12_readCall_10 ⟨rfl, rfl⟩ (fun H locs hw => ?_)
  refine lv_if_eq (tgt := 29) hx hb dX12_readCall_13 (by decide) (fun c3 => ?_) (fun c3 => ?_)
  · rw [if_pos c3] at h
    exact t_X12_readCall_b29 l G ad _  μ1 h p e s m below meth c A ls H locs cx hr hlk hA (lv_sub hl [0] rfl) hw
  · rw [if_neg c3] at h
    refine lv_aload_n hx hb dX12_readCall_16 rfl (lv_at hl 0 rfl) ?_
    refine lv_bipush (v := 40) hx hb dX12_readCall_17 (by decide) ?_
    obtain ⟨r14, μ13, gr14, h⟩ := bd_some h
    refine g_callVI (As := [.int 40]) (rest := []) cx hw hA (t_X12_takes l G ad (40 : Int32) μ1 gr14) shm_0 rfl ml_X12_422 im_X12_takes se_X12_takes in_X12 co_X12_takes rfl hd_X12_takes rfl ⟨(Nat.le_of_ble_eq_true rfl), (Nat.le_of_ble_eq_true rfl)⟩ hl.1 rfl (Nat.le_of_ble_eq_true rfl) dX12_readCall_19 ⟨rfl, rfl⟩ (fun H locs hw => ?_)
    refine lv_if_eq (tgt := 29) hx hb dX12_readCall_22 (by decide) (fun c15 => ?_) (fun c15 => ?_)
    · rw [if_pos c15] at h
      exact t_X12_readCall_b29 l G ad _  μ13 h p e s m below meth c A ls H locs cx hr hlk hA (lv_sub hl [0] rfl) hw
    · rw [if_neg c15] at h
      refine lv_iconst (v := 1) hx hb dX12_readCall_25 (by decide) ?_
      refine lv_goto (tgt := 30) hx hb dX12_readCall_26 (by decide) ?_
      exact t_X12_readCall_b30 l G ad _  (1 : Int32) μ13 h p e s m below meth c A ls H locs cx hr hlk hA (lv_sub hl [0] rfl) hw

theorem p_X12_readThing_b86_ex : ∃ f : Int32 → Int32 → Int32 → Mem → Option (Int32 × Mem), ∀ (a1 : Int32) (a2 : Int32) (k0 : Int32) (μ : Mem), f a1 a2 k0 μ = (if k0 = (0 : Int32) then bd (p_X12_fails a2 μ) (fun r9 μ8 => gd (isB r9) (some (r9, μ8))) else gd (inb (μ.1 0 27) 73) ((if ((μ.1 0 28) - (μ.1 14 (μ.1 0 27).toNatClampNeg)) = (80 : Int32) then bd (p_X12_fails a2 μ) (fun r13 μ12 => gd (isB r13) (some (r13, μ12))) else (if (μ.1 0 32) = (20 : Int32) then bd (p_X12_fails a2 μ) (fun r89 μ88 => gd (isB r89) (some (r89, μ88))) else bd (p_X12_beginsNumber μ) (fun r17 μ16 => (if r17 = (0 : Int32) then (if (s_X12_isVarLetter a1) = (0 : Int32) then (if (s_X12_signOf a1) = (-1 : Int32) then (if a1 = (33 : Int32) then bd (p_X12_layOpen (8 : Int32) (0 : Int32) (1 : Int32) μ16) (fun r24 μ23 => gd (isB r24) (some (r24, μ23))) else (if a1 = (38 : Int32) then bd (p_X12_readPlace μ16) (fun r28 μ27 => (if r28 = (0 : Int32) then some ((0 : Int32), μ27) else bd (p_X12_here μ27) (fun r31 μ30 => bd (p_X12_layOpen (9 : Int32) (r31 - (48 : Int32)) (1 : Int32) μ30) (fun r33 μ32 => (if r33 = (0 : Int32) then some ((0 : Int32), μ32) else some ((1 : Int32), μ32)))))) else (if a1 = (40 : Int32) then bd (p_X12_layOpen (5 : Int32) (0 : Int32) (2 : Int32) μ16) (fun r37 μ36 => gd (isB r37) (some (r37, μ36))) else (if a1 = (58 : Int32) then bd (p_X12_readLet μ16) (fun r41 μ40 => gd (isB r41) (some (r41, μ40))) else (if a1 = (63 : Int32) then bd (p_X12_layOpen (7 : Int32) (0 : Int32) (3 : Int32) μ16) (fun r45 μ44 => (if r45 = (0 : Int32) then some ((0 : Int32), μ44) else bd (p_X12_takes (40 : Int32) μ44) (fun r48 μ47 => (if r48 = (0 : Int32) then some ((0 : Int32), μ47) else some ((1 : Int32), μ47))))) else (if a1 = (91 : Int32) then bd (p_X12_layOpen (2 : Int32) (0 : Int32) (2 : Int32) μ16) (fun r52 μ51 => gd (isB r52) (some (r52, μ51))) else (if a1 = (95 : Int32) then bd (p_X12_readPlace μ16) (fun r56 μ55 => (if r56 = (0 : Int32) then some ((0 : Int32), μ55) else bd (p_X12_here μ55) (fun r59 μ58 => bd (p_X12_lay (10 : Int32) (r59 - (48 : Int32)) (0 : Int32) μ58) (fun r61 μ60 => (if r61 = (0 : Int32) then some ((0 : Int32), μ60) else bd (p_X12_here μ60) (fun r64 μ63 => bd (p_X12_takes r64 μ63) (fun r66 μ65 => (if r66 = (0 : Int32) then some ((0 : Int32), μ65) else some ((1 : Int32), μ65))))))))) else bd (p_X12_readCall a1 μ16) (fun r69 μ68 => gd (isB r69) (some (r69, μ68)))))))))) else bd (p_X12_layOpen (6 : Int32) (s_X12_signOf a1) (1 : Int32) μ16) (fun r72 μ71 => gd (isB r72) (some (r72, μ71)))) else gd (inb (a1 - (109 : Int32)) 14) ((if (μ16.1 21 (a1 - (109 : Int32)).toNatClampNeg) = (0 : Int32) then bd (p_X12_fails a2 μ16) (fun r80 μ79 => gd (isB r80) (some (r80, μ79))) else bv (sF μ16 0 4 ((μ16.1 0 4) + (1 : Int32))) (fun μ75 => bd (p_X12_lay (4 : Int32) (a1 - (109 : Int32)) (0 : Int32) μ75) (fun r77 μ76 => gd (isB r77) (some (r77, μ76))))))) else bd (p_X12_readNumber μ16) (fun r83 μ82 => (if r83 = (0 : Int32) then some ((0 : Int32), μ82) else bd (p_X12_lay (μ82.1 0 6) (μ82.1 0 7) (0 : Int32) μ82) (fun r86 μ85 => (if r86 = (0 : Int32) then some ((0 : Int32), μ85) else some ((1 : Int32), μ85))))))))))) := ⟨fun (a1 : Int32) (a2 : Int32) (k0 : Int32) (μ : Mem) => (if k0 = (0 : Int32) then bd (p_X12_fails a2 μ) (fun r9 μ8 => gd (isB r9) (some (r9, μ8))) else gd (inb (μ.1 0 27) 73) ((if ((μ.1 0 28) - (μ.1 14 (μ.1 0 27).toNatClampNeg)) = (80 : Int32) then bd (p_X12_fails a2 μ) (fun r13 μ12 => gd (isB r13) (some (r13, μ12))) else (if (μ.1 0 32) = (20 : Int32) then bd (p_X12_fails a2 μ) (fun r89 μ88 => gd (isB r89) (some (r89, μ88))) else bd (p_X12_beginsNumber μ) (fun r17 μ16 => (if r17 = (0 : Int32) then (if (s_X12_isVarLetter a1) = (0 : Int32) then (if (s_X12_signOf a1) = (-1 : Int32) then (if a1 = (33 : Int32) then bd (p_X12_layOpen (8 : Int32) (0 : Int32) (1 : Int32) μ16) (fun r24 μ23 => gd (isB r24) (some (r24, μ23))) else (if a1 = (38 : Int32) then bd (p_X12_readPlace μ16) (fun r28 μ27 => (if r28 = (0 : Int32) then some ((0 : Int32), μ27) else bd (p_X12_here μ27) (fun r31 μ30 => bd (p_X12_layOpen (9 : Int32) (r31 - (48 : Int32)) (1 : Int32) μ30) (fun r33 μ32 => (if r33 = (0 : Int32) then some ((0 : Int32), μ32) else some ((1 : Int32), μ32)))))) else (if a1 = (40 : Int32) then bd (p_X12_layOpen (5 : Int32) (0 : Int32) (2 : Int32) μ16) (fun r37 μ36 => gd (isB r37) (some (r37, μ36))) else (if a1 = (58 : Int32) then bd (p_X12_readLet μ16) (fun r41 μ40 => gd (isB r41) (some (r41, μ40))) else (if a1 = (63 : Int32) then bd (p_X12_layOpen (7 : Int32) (0 : Int32) (3 : Int32) μ16) (fun r45 μ44 => (if r45 = (0 : Int32) then some ((0 : Int32), μ44) else bd (p_X12_takes (40 : Int32) μ44) (fun r48 μ47 => (if r48 = (0 : Int32) then some ((0 : Int32), μ47) else some ((1 : Int32), μ47))))) else (if a1 = (91 : Int32) then bd (p_X12_layOpen (2 : Int32) (0 : Int32) (2 : Int32) μ16) (fun r52 μ51 => gd (isB r52) (some (r52, μ51))) else (if a1 = (95 : Int32) then bd (p_X12_readPlace μ16) (fun r56 μ55 => (if r56 = (0 : Int32) then some ((0 : Int32), μ55) else bd (p_X12_here μ55) (fun r59 μ58 => bd (p_X12_lay (10 : Int32) (r59 - (48 : Int32)) (0 : Int32) μ58) (fun r61 μ60 => (if r61 = (0 : Int32) then some ((0 : Int32), μ60) else bd (p_X12_here μ60) (fun r64 μ63 => bd (p_X12_takes r64 μ63) (fun r66 μ65 => (if r66 = (0 : Int32) then some ((0 : Int32), μ65) else some ((1 : Int32), μ65))))))))) else bd (p_X12_readCall a1 μ16) (fun r69 μ68 => gd (isB r69) (some (r69, μ68)))))))))) else bd (p_X12_layOpen (6 : Int32) (s_X12_signOf a1) (1 : Int32) μ16) (fun r72 μ71 => gd (isB r72) (some (r72, μ71)))) else gd (inb (a1 - (109 : Int32)) 14) ((if (μ16.1 21 (a1 - (109 : Int32)).toNatClampNeg) = (0 : Int32) then bd (p_X12_fails a2 μ16) (fun r80 μ79 => gd (isB r80) (some (r80, μ79))) else bv (sF μ16 0 4 ((μ16.1 0 4) + (1 : Int32))) (fun μ75 => bd (p_X12_lay (4 : Int32) (a1 - (109 : Int32)) (0 : Int32) μ75) (fun r77 μ76 => gd (isB r77) (some (r77, μ76))))))) else bd (p_X12_readNumber μ16) (fun r83 μ82 => (if r83 = (0 : Int32) then some ((0 : Int32), μ82) else bd (p_X12_lay (μ82.1 0 6) (μ82.1 0 7) (0 : Int32) μ82) (fun r86 μ85 => (if r86 = (0 : Int32) then some ((0 : Int32), μ85) else some ((1 : Int32), μ85))))))))))), fun _ _ _ _ => rfl⟩
noncomputable def p_X12_readThing_b86 : Int32 → Int32 → Int32 → Mem → Option (Int32 × Mem) := Classical.choose p_X12_readThing_b86_ex
theorem p_X12_readThing_b86_eq (a1 : Int32) (a2 : Int32) (k0 : Int32) (μ : Mem) : p_X12_readThing_b86 a1 a2 k0 μ = (if k0 = (0 : Int32) then bd (p_X12_fails a2 μ) (fun r9 μ8 => gd (isB r9) (some (r9, μ8))) else gd (inb (μ.1 0 27) 73) ((if ((μ.1 0 28) - (μ.1 14 (μ.1 0 27).toNatClampNeg)) = (80 : Int32) then bd (p_X12_fails a2 μ) (fun r13 μ12 => gd (isB r13) (some (r13, μ12))) else (if (μ.1 0 32) = (20 : Int32) then bd (p_X12_fails a2 μ) (fun r89 μ88 => gd (isB r89) (some (r89, μ88))) else bd (p_X12_beginsNumber μ) (fun r17 μ16 => (if r17 = (0 : Int32) then (if (s_X12_isVarLetter a1) = (0 : Int32) then (if (s_X12_signOf a1) = (-1 : Int32) then (if a1 = (33 : Int32) then bd (p_X12_layOpen (8 : Int32) (0 : Int32) (1 : Int32) μ16) (fun r24 μ23 => gd (isB r24) (some (r24, μ23))) else (if a1 = (38 : Int32) then bd (p_X12_readPlace μ16) (fun r28 μ27 => (if r28 = (0 : Int32) then some ((0 : Int32), μ27) else bd (p_X12_here μ27) (fun r31 μ30 => bd (p_X12_layOpen (9 : Int32) (r31 - (48 : Int32)) (1 : Int32) μ30) (fun r33 μ32 => (if r33 = (0 : Int32) then some ((0 : Int32), μ32) else some ((1 : Int32), μ32)))))) else (if a1 = (40 : Int32) then bd (p_X12_layOpen (5 : Int32) (0 : Int32) (2 : Int32) μ16) (fun r37 μ36 => gd (isB r37) (some (r37, μ36))) else (if a1 = (58 : Int32) then bd (p_X12_readLet μ16) (fun r41 μ40 => gd (isB r41) (some (r41, μ40))) else (if a1 = (63 : Int32) then bd (p_X12_layOpen (7 : Int32) (0 : Int32) (3 : Int32) μ16) (fun r45 μ44 => (if r45 = (0 : Int32) then some ((0 : Int32), μ44) else bd (p_X12_takes (40 : Int32) μ44) (fun r48 μ47 => (if r48 = (0 : Int32) then some ((0 : Int32), μ47) else some ((1 : Int32), μ47))))) else (if a1 = (91 : Int32) then bd (p_X12_layOpen (2 : Int32) (0 : Int32) (2 : Int32) μ16) (fun r52 μ51 => gd (isB r52) (some (r52, μ51))) else (if a1 = (95 : Int32) then bd (p_X12_readPlace μ16) (fun r56 μ55 => (if r56 = (0 : Int32) then some ((0 : Int32), μ55) else bd (p_X12_here μ55) (fun r59 μ58 => bd (p_X12_lay (10 : Int32) (r59 - (48 : Int32)) (0 : Int32) μ58) (fun r61 μ60 => (if r61 = (0 : Int32) then some ((0 : Int32), μ60) else bd (p_X12_here μ60) (fun r64 μ63 => bd (p_X12_takes r64 μ63) (fun r66 μ65 => (if r66 = (0 : Int32) then some ((0 : Int32), μ65) else some ((1 : Int32), μ65))))))))) else bd (p_X12_readCall a1 μ16) (fun r69 μ68 => gd (isB r69) (some (r69, μ68)))))))))) else bd (p_X12_layOpen (6 : Int32) (s_X12_signOf a1) (1 : Int32) μ16) (fun r72 μ71 => gd (isB r72) (some (r72, μ71)))) else gd (inb (a1 - (109 : Int32)) 14) ((if (μ16.1 21 (a1 - (109 : Int32)).toNatClampNeg) = (0 : Int32) then bd (p_X12_fails a2 μ16) (fun r80 μ79 => gd (isB r80) (some (r80, μ79))) else bv (sF μ16 0 4 ((μ16.1 0 4) + (1 : Int32))) (fun μ75 => bd (p_X12_lay (4 : Int32) (a1 - (109 : Int32)) (0 : Int32) μ75) (fun r77 μ76 => gd (isB r77) (some (r77, μ76))))))) else bd (p_X12_readNumber μ16) (fun r83 μ82 => (if r83 = (0 : Int32) then some ((0 : Int32), μ82) else bd (p_X12_lay (μ82.1 0 6) (μ82.1 0 7) (0 : Int32) μ82) (fun r86 μ85 => (if r86 = (0 : Int32) then some ((0 : Int32), μ85) else some ((1 : Int32), μ85))))))))))) := Classical.choose_spec p_X12_readThing_b86_ex a1 a2 k0 μ
set_option maxHeartbeats 4000000 in
set_option maxRecDepth 100000 in
theorem t_X12_readThing_b86 (l : Launch) (G : Gt) (ad : Nat → Nat) (av : List Value) {r : Int32} {μz : Mem} (a1 : Int32) (a2 : Int32) (k0 : Int32) (μ : Mem) (h : p_X12_readThing_b86  a1 a2 k0 μ = some (r, μz)) : Bk l cX12_readThing 4 RX12 (some .boolean) ({ frames := 4, cells := 0, slots := 0, locals := 88 } : Room) G av (eI 1 G ad r μz) (wd 1 G ad μ) 86 [(0, .ref (ad 0)), (1, .int a1), (2, .int a2)] [.int k0] := by
  intro p e s m below meth c A ls H locs cx hr hlk hA hl hw
  have hx := cx.1
  have hb := cx.2.1
  rw [p_X12_readThing_b86_eq] at h
  refine lv_istore_n (lv' := [(3, .int k0), (0, .ref (ad 0)), (1, .int a1), (2, .int a2)]) hx hb dX12_readThing_86 rfl hl (by decide) rfl (fun ls hl => ?_)
  refine lv_iload_n hx hb dX12_readThing_87 rfl (lv_at hl 0 rfl) ?_
  refine lv_if_eq (tgt := 119) hx hb dX12_readThing_88 (by decide) (fun c7 => ?_) (fun c7 => ?_)
  · rw [if_pos c7] at h
    refine lv_aload_n hx hb dX12_readThing_119 rfl (lv_at hl 1 rfl) ?_
    refine lv_iload_n hx hb dX12_readThing_120 rfl (lv_at hl 3 rfl) ?_
    obtain ⟨r9, μ8, gr9, h⟩ := bd_some h
    refine g_callVI (As := [.int a2]) (rest := []) cx hw hA (t_X12_fails l G ad a2 μ gr9) shm_0 rfl ml_X12_369 im_X12_fails se_X12_fails in_X12 co_X12_fails rfl hd_X12_fails rfl ⟨(Nat.le_of_ble_eq_true rfl), (Nat.le_of_ble_eq_true rfl)⟩ hl.1 rfl (Nat.le_of_ble_eq_true rfl) dX12_readThing_121 ⟨rfl, rfl⟩ (fun H locs hw => ?_)
    obtain ⟨c10, h⟩ := gd_some h
    exact g_zret cx hr hlk (isB_n c10) hw h dX12_readThing_124
  · rw [if_neg c7] at h
    refine lv_aload_n hx hb dX12_readThing_91 rfl (lv_at hl 1 rfl) ?_
    refine g_get cx hw inX12 (ci := 11) rfl 28 (by decide) rfl (v := .int (μ.1 0 28)) shm_0 rfl fl_X12_387 dX12_readThing_92 ?_
    refine lv_aload_n hx hb dX12_readThing_95 rfl (lv_at hl 1 rfl) ?_
    refine g_get cx hw inX12 (ci := 11) rfl 22 (by decide) rfl (v := .ref (ad 14)) shm_0 rfl fl_X12_54 dX12_readThing_96 ?_
    refine lv_aload_n hx hb dX12_readThing_99 rfl (lv_at hl 1 rfl) ?_
    refine g_get cx hw inX12 (ci := 11) rfl 27 (by decide) rfl (v := .int (μ.1 0 27)) shm_0 rfl fl_X12_413 dX12_readThing_100 ?_
    refine g_iald cx hw shm_14 h dX12_readThing_103 (fun h => ?_)
    refine lv_isub hx hb dX12_readThing_104 ?_
    refine lv_bipush (v := 80) hx hb dX12_readThing_105 (by decide) ?_
    refine lv_icmp_eq (tgt := 119) hx hb dX12_readThing_107 (by decide) (fun c11 => ?_) (fun c11 => ?_)
    · rw [if_pos c11] at h
      refine lv_aload_n hx hb dX12_readThing_119 rfl (lv_at hl 1 rfl) ?_
      refine lv_iload_n hx hb dX12_readThing_120 rfl (lv_at hl 3 rfl) ?_
      obtain ⟨r13, μ12, gr13, h⟩ := bd_some h
      refine g_callVI (As := [.int a2]) (rest := []) cx hw hA (t_X12_fails l G ad a2 μ gr13) shm_0 rfl ml_X12_369 im_X12_fails se_X12_fails in_X12 co_X12_fails rfl hd_X12_fails rfl ⟨(Nat.le_of_ble_eq_true rfl), (Nat.le_of_ble_eq_true rfl)⟩ hl.1 rfl (Nat.le_of_ble_eq_true rfl) dX12_readThing_121 ⟨rfl, rfl⟩ (fun H locs hw => ?_)
      obtain ⟨c14, h⟩ := gd_some h
      exact g_zret cx hr hlk (isB_n c14) hw h dX12_readThing_124
    · rw [if_neg c11] at h
      refine lv_aload_n hx hb dX12_readThing_110 rfl (lv_at hl 1 rfl) ?_
      refine g_get cx hw inX12 (ci := 11) rfl 32 (by decide) rfl (v := .int (μ.1 0 32)) shm_0 rfl fl_X12_390 dX12_readThing_111 ?_
      refine lv_bipush (v := 20) hx hb dX12_readThing_114 (by decide) ?_
      refine lv_icmp_ne (tgt := 125) hx hb dX12_readThing_116 (by decide) (fun c15 => ?_) (fun c15 => ?_)
      · rw [if_neg c15] at h
        refine lv_aload_n hx hb dX12_readThing_125 rfl (lv_at hl 1 rfl) ?_
        obtain ⟨r17, μ16, gr17, h⟩ := bd_some h
        refine g_callVI (As := []) (rest := []) cx hw hA (t_X12_beginsNumber l G ad μ gr17) shm_0 rfl ml_X12_399 im_X12_beginsNumber se_X12_beginsNumber in_X12 co_X12_beginsNumber rfl hd_X12_beginsNumber rfl ⟨(Nat.le_of_ble_eq_true rfl), (Nat.le_of_ble_eq_true rfl)⟩ hl.1 rfl (Nat.le_of_ble_eq_true rfl) dX12_readThing_126 ⟨rfl, rfl⟩ (fun H locs hw => ?_)
        refine lv_if_eq (tgt := 161) hx hb dX12_readThing_129 (by decide) (fun c18 => ?_) (fun c18 => ?_)
        · rw [if_pos c18] at h
          refine lv_iload_n hx hb dX12_readThing_161 rfl (lv_at hl 2 rfl) ?_
          refine s_callI (As := [.int a1]) (rest := []) cx hw hA (t_X12_isVarLetter l G a1) ml_X12_403 st_X12_isVarLetter in_X12 co_X12_isVarLetter hd_X12_isVarLetter rfl ⟨(Nat.le_of_ble_eq_true rfl), (Nat.le_of_ble_eq_true rfl)⟩ hl.1 rfl (Nat.le_of_ble_eq_true rfl) dX12_readThing_162 rfl (fun H locs hw => ?_)
          refine lv_if_eq (tgt := 207) hx hb dX12_readThing_165 (by decide) (fun c19 => ?_) (fun c19 => ?_)
          · rw [if_pos c19] at h
            refine lv_iload_n hx hb dX12_readThing_207 rfl (lv_at hl 2 rfl) ?_
            refine s_callI (As := [.int a1]) (rest := []) cx hw hA (t_X12_signOf l G a1) ml_X12_409 st_X12_signOf in_X12 co_X12_signOf hd_X12_signOf rfl ⟨(Nat.le_of_ble_eq_true rfl), (Nat.le_of_ble_eq_true rfl)⟩ hl.1 rfl (Nat.le_of_ble_eq_true rfl) dX12_readThing_208 rfl (fun H locs hw => ?_)
            refine lv_iconst (v := (-1)) hx hb dX12_readThing_211 (by decide) ?_
            refine lv_icmp_eq (tgt := 227) hx hb dX12_readThing_212 (by decide) (fun c20 => ?_) (fun c20 => ?_)
            · rw [if_pos c20] at h
              refine lv_iload_n hx hb dX12_readThing_227 rfl (lv_at hl 2 rfl) ?_
              refine lv_topi (fun v21 ev21 => ?_)
              by_cases c22 : a1 = (33 : Int32)
              · rw [if_pos c22] at h
                have z9 := ev21.trans c22
                subst z9
                refine lv_lookup (tgt := 312) hx hb dX12_readThing_228 (by decide +kernel) rfl (by decide) ?_
                refine lv_aload_n hx hb dX12_readThing_312 rfl (lv_at hl 1 rfl) ?_
                refine lv_bipush (v := 8) hx hb dX12_readThing_313 (by decide) ?_
                refine lv_iconst (v := 0) hx hb dX12_readThing_315 (by decide) ?_
                refine lv_iconst (v := 1) hx hb dX12_readThing_316 (by decide) ?_
                obtain ⟨r24, μ23, gr24, h⟩ := bd_some h
                refine g_callVI (As := [.int 8, .int 0, .int 1]) (rest := []) cx hw hA (t_X12_layOpen l G ad (8 : Int32) (0 : Int32) (1 : Int32) μ16 gr24) shm_0 rfl ml_X12_419 im_X12_layOpen se_X12_layOpen in_X12 co_X12_layOpen rfl hd_X12_layOpen rfl ⟨(Nat.le_of_ble_eq_true rfl), (Nat.le_of_ble_eq_true rfl)⟩ hl.1 rfl (Nat.le_of_ble_eq_true rfl) dX12_readThing_317 ⟨rfl, rfl⟩ (fun H locs hw => ?_)
                obtain ⟨c25, h⟩ := gd_some h
                exact g_zret cx hr hlk (isB_n c25) hw h dX12_readThing_320
              rw [if_neg c22] at h
              by_cases c26 : a1 = (38 : Int32)
              · rw [if_pos c26] at h
                have z9 := ev21.trans c26
                subst z9
                refine lv_lookup (tgt := 347) hx hb dX12_readThing_228 (by decide +kernel) rfl (by decide) ?_
                refine lv_aload_n hx hb dX12_readThing_347 rfl (lv_at hl 1 rfl) ?_
                obtain ⟨r28, μ27, gr28, h⟩ := bd_some h
                refine g_callVI (As := []) (rest := []) cx hw hA (t_X12_readPlace l G ad μ16 gr28) shm_0 rfl ml_X12_425 im_X12_readPlace se_X12_readPlace in_X12 co_X12_readPlace rfl hd_X12_readPlace rfl ⟨(Nat.le_of_ble_eq_true rfl), (Nat.le_of_ble_eq_true rfl)⟩ hl.1 rfl (Nat.le_of_ble_eq_true rfl) dX12_readThing_348 ⟨rfl, rfl⟩ (fun H locs hw => ?_)
                refine lv_if_eq (tgt := 375) hx hb dX12_readThing_351 (by decide) (fun c29 => ?_) (fun c29 => ?_)
                · rw [if_pos c29] at h
                  refine lv_iconst (v := 0) hx hb dX12_readThing_375 (by decide) ?_
                  exact g_zret cx hr hlk rfl hw h dX12_readThing_376
                · rw [if_neg c29] at h
                  refine lv_aload_n hx hb dX12_readThing_354 rfl (lv_at hl 1 rfl) ?_
                  refine lv_bipush (v := 9) hx hb dX12_readThing_355 (by decide) ?_
                  refine lv_aload_n hx hb dX12_readThing_357 rfl (lv_at hl 1 rfl) ?_
                  obtain ⟨r31, μ30, gr31, h⟩ := bd_some h
                  refine g_callVI (As := []) (rest := [.int 9, .ref (ad 0)]) cx hw hA (t_X12_here l G ad μ27 gr31) shm_0 rfl ml_X12_365 im_X12_here se_X12_here in_X12 co_X12_here rfl hd_X12_here rfl ⟨(Nat.le_of_ble_eq_true rfl), (Nat.le_of_ble_eq_true rfl)⟩ hl.1 rfl (Nat.le_of_ble_eq_true rfl) dX12_readThing_358 ⟨rfl, rfl⟩ (fun H locs hw => ?_)
                  refine lv_bipush (v := 48) hx hb dX12_readThing_361 (by decide) ?_
                  refine lv_isub hx hb dX12_readThing_363 ?_
                  refine lv_iconst (v := 1) hx hb dX12_readThing_364 (by decide) ?_
                  obtain ⟨r33, μ32, gr33, h⟩ := bd_some h
                  refine g_callVI (As := [.int 9, .int (r31 - (48 : Int32)), .int 1]) (rest := []) cx hw hA (t_X12_layOpen l G ad (9 : Int32) (r31 - (48 : Int32)) (1 : Int32) μ30 gr33) shm_0 rfl ml_X12_419 im_X12_layOpen se_X12_layOpen in_X12 co_X12_layOpen rfl hd_X12_layOpen rfl ⟨(Nat.le_of_ble_eq_true rfl), (Nat.le_of_ble_eq_true rfl)⟩ hl.1 rfl (Nat.le_of_ble_eq_true rfl) dX12_readThing_365 ⟨rfl, rfl⟩ (fun H locs hw => ?_)
                  refine lv_if_eq (tgt := 375) hx hb dX12_readThing_368 (by decide) (fun c34 => ?_) (fun c34 => ?_)
                  · rw [if_pos c34] at h
                    refine lv_iconst (v := 0) hx hb dX12_readThing_375 (by decide) ?_
                    exact g_zret cx hr hlk rfl hw h dX12_readThing_376
                  · rw [if_neg c34] at h
                    refine lv_iconst (v := 1) hx hb dX12_readThing_371 (by decide) ?_
                    refine lv_goto (tgt := 376) hx hb dX12_readThing_372 (by decide) ?_
                    exact g_zret cx hr hlk rfl hw h dX12_readThing_376
              rw [if_neg c26] at h
              by_cases c35 : a1 = (40 : Int32)
              · rw [if_pos c35] at h
                have z9 := ev21.trans c35
                subst z9
                refine lv_lookup (tgt := 296) hx hb dX12_readThing_228 (by decide +kernel) rfl (by decide) ?_
                refine lv_aload_n hx hb dX12_readThing_296 rfl (lv_at hl 1 rfl) ?_
                refine lv_iconst (v := 5) hx hb dX12_readThing_297 (by decide) ?_
                refine lv_iconst (v := 0) hx hb dX12_readThing_298 (by decide) ?_
                refine lv_iconst (v := 2) hx hb dX12_readThing_299 (by decide) ?_
                obtain ⟨r37, μ36, gr37, h⟩ := bd_some h
                refine g_callVI (As := [.int 5, .int 0, .int 2]) (rest := []) cx hw hA (t_X12_layOpen l G ad (5 : Int32) (0 : Int32) (2 : Int32) μ16 gr37) shm_0 rfl ml_X12_419 im_X12_layOpen se_X12_layOpen in_X12 co_X12_layOpen rfl hd_X12_layOpen rfl ⟨(Nat.le_of_ble_eq_true rfl), (Nat.le_of_ble_eq_true rfl)⟩ hl.1 rfl (Nat.le_of_ble_eq_true rfl) dX12_readThing_300 ⟨rfl, rfl⟩ (fun H locs hw => ?_)
                obtain ⟨c38, h⟩ := gd_some h
                exact g_zret cx hr hlk (isB_n c38) hw h dX12_readThing_303
              rw [if_neg c35] at h
              by_cases c39 : a1 = (58 : Int32)
              · rw [if_pos c39] at h
                have z9 := ev21.trans c39
                subst z9
                refine lv_lookup (tgt := 418) hx hb dX12_readThing_228 (by decide +kernel) rfl (by decide) ?_
                refine lv_aload_n hx hb dX12_readThing_418 rfl (lv_at hl 1 rfl) ?_
                obtain ⟨r41, μ40, gr41, h⟩ := bd_some h
                refine g_callVI (As := []) (rest := []) cx hw hA (t_X12_readLet l G ad μ16 gr41) shm_0 rfl ml_X12_428 im_X12_readLet se_X12_readLet in_X12 co_X12_readLet rfl hd_X12_readLet rfl ⟨(Nat.le_of_ble_eq_true rfl), (Nat.le_of_ble_eq_true rfl)⟩ hl.1 rfl (Nat.le_of_ble_eq_true rfl) dX12_readThing_419 ⟨rfl, rfl⟩ (fun H locs hw => ?_)
                obtain ⟨c42, h⟩ := gd_some h
                exact g_zret cx hr hlk (isB_n c42) hw h dX12_readThing_422
              rw [if_neg c39] at h
              by_cases c43 : a1 = (63 : Int32)
              · rw [if_pos c43] at h
                have z9 := ev21.trans c43
                subst z9
                refine lv_lookup (tgt := 321) hx hb dX12_readThing_228 (by decide +kernel) rfl (by decide) ?_
                refine lv_aload_n hx hb dX12_readThing_321 rfl (lv_at hl 1 rfl) ?_
                refine lv_bipush (v := 7) hx hb dX12_readThing_322 (by decide) ?_
                refine lv_iconst (v := 0) hx hb dX12_readThing_324 (by decide) ?_
                refine lv_iconst (v := 3) hx hb dX12_readThing_325 (by decide) ?_
                obtain ⟨r45, μ44, gr45, h⟩ := bd_some h
                refine g_callVI (As := [.int 7, .int 0, .int 3]) (rest := []) cx hw hA (t_X12_layOpen l G ad (7 : Int32) (0 : Int32) (3 : Int32) μ16 gr45) shm_0 rfl ml_X12_419 im_X12_layOpen se_X12_layOpen in_X12 co_X12_layOpen rfl hd_X12_layOpen rfl ⟨(Nat.le_of_ble_eq_true rfl), (Nat.le_of_ble_eq_true rfl)⟩ hl.1 rfl (Nat.le_of_ble_eq_true rfl) dX12_readThing_326 ⟨rfl, rfl⟩ (fun H locs hw => ?_)
                refine lv_if_eq (tgt := 345) hx hb dX12_readThing_329 (by decide) (fun c46 => ?_) (fun c46 => ?_)
                · rw [if_pos c46] at h
                  refine lv_iconst (v := 0) hx hb dX12_readThing_345 (by decide) ?_
                  exact g_zret cx hr hlk rfl hw h dX12_readThing_346
                · rw [if_neg c46] at h
                  refine lv_aload_n hx hb dX12_readThing_332 rfl (lv_at hl 1 rfl) ?_
                  refine lv_bipush (v := 40) hx hb dX12_readThing_333 (by decide) ?_
                  obtain ⟨r48, μ47, gr48, h⟩ := bd_some h
                  refine g_callVI (As := [.int 40]) (rest := []) cx hw hA (t_X12_takes l G ad (40 : Int32) μ44 gr48) shm_0 rfl ml_X12_422 im_X12_takes se_X12_takes in_X12 co_X12_takes rfl hd_X12_takes rfl ⟨(Nat.le_of_ble_eq_true rfl), (Nat.le_of_ble_eq_true rfl)⟩ hl.1 rfl (Nat.le_of_ble_eq_true rfl) dX12_readThing_335 ⟨rfl, rfl⟩ (fun H locs hw => ?_)
                  refine lv_if_eq (tgt := 345) hx hb dX12_readThing_338 (by decide) (fun c49 => ?_) (fun c49 => ?_)
                  · rw [if_pos c49] at h
                    refine lv_iconst (v := 0) hx hb dX12_readThing_345 (by decide) ?_
                    exact g_zret cx hr hlk rfl hw h dX12_readThing_346
                  · rw [if_neg c49] at h
                    refine lv_iconst (v := 1) hx hb dX12_readThing_341 (by decide) ?_
                    refine lv_goto (tgt := 346) hx hb dX12_readThing_342 (by decide) ?_
                    exact g_zret cx hr hlk rfl hw h dX12_readThing_346
              rw [if_neg c43] at h
              by_cases c50 : a1 = (91 : Int32)
              · rw [if_pos c50] at h
                have z9 := ev21.trans c50
                subst z9
                refine lv_lookup (tgt := 304) hx hb dX12_readThing_228 (by decide +kernel) rfl (by decide) ?_
                refine lv_aload_n hx hb dX12_readThing_304 rfl (lv_at hl 1 rfl) ?_
                refine lv_iconst (v := 2) hx hb dX12_readThing_305 (by decide) ?_
                refine lv_iconst (v := 0) hx hb dX12_readThing_306 (by decide) ?_
                refine lv_iconst (v := 2) hx hb dX12_readThing_307 (by decide) ?_
                obtain ⟨r52, μ51, gr52, h⟩ := bd_some h
                refine g_callVI (As := [.int 2, .int 0, .int 2]) (rest := []) cx hw hA (t_X12_layOpen l G ad (2 : Int32) (0 : Int32) (2 : Int32) μ16 gr52) shm_0 rfl ml_X12_419 im_X12_layOpen se_X12_layOpen in_X12 co_X12_layOpen rfl hd_X12_layOpen rfl ⟨(Nat.le_of_ble_eq_true rfl), (Nat.le_of_ble_eq_true rfl)⟩ hl.1 rfl (Nat.le_of_ble_eq_true rfl) dX12_readThing_308 ⟨rfl, rfl⟩ (fun H locs hw => ?_)
                obtain ⟨c53, h⟩ := gd_some h
                exact g_zret cx hr hlk (isB_n c53) hw h dX12_readThing_311
              rw [if_neg c50] at h
              by_cases c54 : a1 = (95 : Int32)
              · rw [if_pos c54] at h
                have z9 := ev21.trans c54
                subst z9
                refine lv_lookup (tgt := 377) hx hb dX12_readThing_228 (by decide +kernel) rfl (by decide) ?_
                refine lv_aload_n hx hb dX12_readThing_377 rfl (lv_at hl 1 rfl) ?_
                obtain ⟨r56, μ55, gr56, h⟩ := bd_some h
                refine g_callVI (As := []) (rest := []) cx hw hA (t_X12_readPlace l G ad μ16 gr56) shm_0 rfl ml_X12_425 im_X12_readPlace se_X12_readPlace in_X12 co_X12_readPlace rfl hd_X12_readPlace rfl ⟨(Nat.le_of_ble_eq_true rfl), (Nat.le_of_ble_eq_true rfl)⟩ hl.1 rfl (Nat.le_of_ble_eq_true rfl) dX12_readThing_378 ⟨rfl, rfl⟩ (fun H locs hw => ?_)
                refine lv_if_eq (tgt := 416) hx hb dX12_readThing_381 (by decide) (fun c57 => ?_) (fun c57 => ?_)
                · rw [if_pos c57] at h
                  refine lv_iconst (v := 0) hx hb dX12_readThing_416 (by decide) ?_
                  exact g_zret cx hr hlk rfl hw h dX12_readThing_417
                · rw [if_neg c57] at h
                  refine lv_aload_n hx hb dX12_readThing_384 rfl (lv_at hl 1 rfl) ?_
                  refine lv_bipush (v := 10) hx hb dX12_readThing_385 (by decide) ?_
                  refine lv_aload_n hx hb dX12_readThing_387 rfl (lv_at hl 1 rfl) ?_
                  obtain ⟨r59, μ58, gr59, h⟩ := bd_some h
                  refine g_callVI (As := []) (rest := [.int 10, .ref (ad 0)]) cx hw hA (t_X12_here l G ad μ55 gr59) shm_0 rfl ml_X12_365 im_X12_here se_X12_here in_X12 co_X12_here rfl hd_X12_here rfl ⟨(Nat.le_of_ble_eq_true rfl), (Nat.le_of_ble_eq_true rfl)⟩ hl.1 rfl (Nat.le_of_ble_eq_true rfl) dX12_readThing_388 ⟨rfl, rfl⟩ (fun H locs hw => ?_)
                  refine lv_bipush (v := 48) hx hb dX12_readThing_391 (by decide) ?_
                  refine lv_isub hx hb dX12_readThing_393 ?_
                  refine lv_iconst (v := 0) hx hb dX12_readThing_394 (by decide) ?_
                  obtain ⟨r61, μ60, gr61, h⟩ := bd_some h
                  refine g_callVI (As := [.int 10, .int (r59 - (48 : Int32)), .int 0]) (rest := []) cx hw hA (t_X12_lay l G ad (10 : Int32) (r59 - (48 : Int32)) (0 : Int32) μ58 gr61) shm_0 rfl ml_X12_393 im_X12_lay se_X12_lay in_X12 co_X12_lay rfl hd_X12_lay rfl ⟨(Nat.le_of_ble_eq_true rfl), (Nat.le_of_ble_eq_true rfl)⟩ hl.1 rfl (Nat.le_of_ble_eq_true rfl) dX12_readThing_395 ⟨rfl, rfl⟩ (fun H locs hw => ?_)
                  refine lv_if_eq (tgt := 416) hx hb dX12_readThing_398 (by decide) (fun c62 => ?_) (fun c62 => ?_)
                  · rw [if_pos c62] at h
                    refine lv_iconst (v := 0) hx hb dX12_readThing_416 (by decide) ?_
                    exact g_zret cx hr hlk rfl hw h dX12_readThing_417
                  · rw [if_neg c62] at h
                    refine lv_aload_n hx hb dX12_readThing_401 rfl (lv_at hl 1 rfl) ?_
                    refine lv_aload_n hx hb dX12_readThing_402 rfl (lv_at hl 1 rfl) ?_
                    obtain ⟨r64, μ63, gr64, h⟩ := bd_some h
                    refine g_callVI (As := []) (rest := [.ref (ad 0)]) cx hw hA (t_X12_here l G ad μ60 gr64) shm_0 rfl ml_X12_365 im_X12_here se_X12_here in_X12 co_X12_here rfl hd_X12_here rfl ⟨(Nat.le_of_ble_eq_true rfl), (Nat.le_of_ble_eq_true rfl)⟩ hl.1 rfl (Nat.le_of_ble_eq_true rfl) dX12_readThing_403 ⟨rfl, rfl⟩ (fun H locs hw => ?_)
                    obtain ⟨r66, μ65, gr66, h⟩ := bd_some h
                    refine g_callVI (As := [.int r64]) (rest := []) cx hw hA (t_X12_takes l G ad r64 μ63 gr66) shm_0 rfl ml_X12_422 im_X12_takes se_X12_takes in_X12 co_X12_takes rfl hd_X12_takes rfl ⟨(Nat.le_of_ble_eq_true rfl), (Nat.le_of_ble_eq_true rfl)⟩ hl.1 rfl (Nat.le_of_ble_eq_true rfl) dX12_readThing_406 ⟨rfl, rfl⟩ (fun H locs hw => ?_)
                    refine lv_if_eq (tgt := 416) hx hb dX12_readThing_409 (by decide) (fun c67 => ?_) (fun c67 => ?_)
                    · rw [if_pos c67] at h
                      refine lv_iconst (v := 0) hx hb dX12_readThing_416 (by decide) ?_
                      exact g_zret cx hr hlk rfl hw h dX12_readThing_417
                    · rw [if_neg c67] at h
                      refine lv_iconst (v := 1) hx hb dX12_readThing_412 (by decide) ?_
                      refine lv_goto (tgt := 417) hx hb dX12_readThing_413 (by decide) ?_
                      exact g_zret cx hr hlk rfl hw h dX12_readThing_417
              rw [if_neg c54] at h
              rw [ev21]
              refine lv_lookup (tgt := 423) hx hb dX12_readThing_228 (by decide +kernel) (off := 195) (by simp [Op.lookupswitch.offset, sw_nq (33) (by decide) c22, sw_nq (38) (by decide) c26, sw_nq (40) (by decide) c35, sw_nq (58) (by decide) c39, sw_nq (63) (by decide) c43, sw_nq (91) (by decide) c50, sw_nq (95) (by decide) c54]) (by decide) ?_
              refine lv_aload_n hx hb dX12_readThing_423 rfl (lv_at hl 1 rfl) ?_
              refine lv_iload_n hx hb dX12_readThing_424 rfl (lv_at hl 2 rfl) ?_
              obtain ⟨r69, μ68, gr69, h⟩ := bd_some h
              refine g_callVI (As := [.int a1]) (rest := []) cx hw hA (t_X12_readCall l G ad a1 μ16 gr69) shm_0 rfl ml_X12_431 im_X12_readCall se_X12_readCall in_X12 co_X12_readCall rfl hd_X12_readCall rfl ⟨(Nat.le_of_ble_eq_true rfl), (Nat.le_of_ble_eq_true rfl)⟩ hl.1 rfl (Nat.le_of_ble_eq_true rfl) dX12_readThing_425 ⟨rfl, rfl⟩ (fun H locs hw => ?_)
              obtain ⟨c70, h⟩ := gd_some h
              exact g_zret cx hr hlk (isB_n c70) hw h dX12_readThing_428
            · rw [if_neg c20] at h
              refine lv_aload_n hx hb dX12_readThing_215 rfl (lv_at hl 1 rfl) ?_
              refine lv_bipush (v := 6) hx hb dX12_readThing_216 (by decide) ?_
              refine lv_iload_n hx hb dX12_readThing_218 rfl (lv_at hl 2 rfl) ?_
              refine s_callI (As := [.int a1]) (rest := [.int 6, .ref (ad 0)]) cx hw hA (t_X12_signOf l G a1) ml_X12_409 st_X12_signOf in_X12 co_X12_signOf hd_X12_signOf rfl ⟨(Nat.le_of_ble_eq_true rfl), (Nat.le_of_ble_eq_true rfl)⟩ hl.1 rfl (Nat.le_of_ble_eq_true rfl) dX12_readThing_219 rfl (fun H locs hw => ?_)
              refine lv_iconst (v := 1) hx hb dX12_readThing_222 (by decide) ?_
              obtain ⟨r72, μ71, gr72, h⟩ := bd_some h
              refine g_callVI (As := [.int 6, .int (s_X12_signOf a1), .int 1]) (rest := []) cx hw hA (t_X12_layOpen l G ad (6 : Int32) (s_X12_signOf a1) (1 : Int32) μ16 gr72) shm_0 rfl ml_X12_419 im_X12_layOpen se_X12_layOpen in_X12 co_X12_layOpen rfl hd_X12_layOpen rfl ⟨(Nat.le_of_ble_eq_true rfl), (Nat.le_of_ble_eq_true rfl)⟩ hl.1 rfl (Nat.le_of_ble_eq_true rfl) dX12_readThing_223 ⟨rfl, rfl⟩ (fun H locs hw => ?_)
              obtain ⟨c73, h⟩ := gd_some h
              exact g_zret cx hr hlk (isB_n c73) hw h dX12_readThing_226
          · rw [if_neg c19] at h
            refine lv_aload_n hx hb dX12_readThing_168 rfl (lv_at hl 1 rfl) ?_
            refine g_get cx hw inX12 (ci := 11) rfl 31 (by decide) rfl (v := .ref (ad 21)) shm_0 rfl fl_X12_75 dX12_readThing_169 ?_
            refine lv_iload_n hx hb dX12_readThing_172 rfl (lv_at hl 2 rfl) ?_
            refine lv_bipush (v := 109) hx hb dX12_readThing_173 (by decide) ?_
            refine lv_isub hx hb dX12_readThing_175 ?_
            refine g_iald cx hw shm_21 h dX12_readThing_176 (fun h => ?_)
            refine lv_if_ne (tgt := 186) hx hb dX12_readThing_177 (by decide) (fun c74 => ?_) (fun c74 => ?_)
            · rw [if_neg c74] at h
              refine lv_aload_n hx hb dX12_readThing_186 rfl (lv_at hl 1 rfl) ?_
              refine lv_dup hx hb dX12_readThing_187 rfl ?_
              refine g_get cx hw inX12 (ci := 11) rfl 4 (by decide) rfl (v := .int (μ16.1 0 4)) shm_0 rfl fl_X12_362 dX12_readThing_188 ?_
              refine lv_iconst (v := 1) hx hb dX12_readThing_191 (by decide) ?_
              refine lv_iadd hx hb dX12_readThing_192 ?_
              refine g_put cx hw inX12 (ci := 11) rfl tyX12_ok nmX12 4 (by decide) rfl rfl rfl rfl shm_0 h fl_X12_362 dX12_readThing_193 (fun μ75 H locs h hw => ?_)
              refine lv_aload_n hx hb dX12_readThing_196 rfl (lv_at hl 1 rfl) ?_
              refine lv_iconst (v := 4) hx hb dX12_readThing_197 (by decide) ?_
              refine lv_iload_n hx hb dX12_readThing_198 rfl (lv_at hl 2 rfl) ?_
              refine lv_bipush (v := 109) hx hb dX12_readThing_199 (by decide) ?_
              refine lv_isub hx hb dX12_readThing_201 ?_
              refine lv_iconst (v := 0) hx hb dX12_readThing_202 (by decide) ?_
              obtain ⟨r77, μ76, gr77, h⟩ := bd_some h
              refine g_callVI (As := [.int 4, .int (a1 - (109 : Int32)), .int 0]) (rest := []) cx hw hA (t_X12_lay l G ad (4 : Int32) (a1 - (109 : Int32)) (0 : Int32) μ75 gr77) shm_0 rfl ml_X12_393 im_X12_lay se_X12_lay in_X12 co_X12_lay rfl hd_X12_lay rfl ⟨(Nat.le_of_ble_eq_true rfl), (Nat.le_of_ble_eq_true rfl)⟩ hl.1 rfl (Nat.le_of_ble_eq_true rfl) dX12_readThing_203 ⟨rfl, rfl⟩ (fun H locs hw => ?_)
              obtain ⟨c78, h⟩ := gd_some h
              exact g_zret cx hr hlk (isB_n c78) hw h dX12_readThing_206
            · rw [if_pos c74] at h
              refine lv_aload_n hx hb dX12_readThing_180 rfl (lv_at hl 1 rfl) ?_
              refine lv_iload_n hx hb dX12_readThing_181 rfl (lv_at hl 3 rfl) ?_
              obtain ⟨r80, μ79, gr80, h⟩ := bd_some h
              refine g_callVI (As := [.int a2]) (rest := []) cx hw hA (t_X12_fails l G ad a2 μ16 gr80) shm_0 rfl ml_X12_369 im_X12_fails se_X12_fails in_X12 co_X12_fails rfl hd_X12_fails rfl ⟨(Nat.le_of_ble_eq_true rfl), (Nat.le_of_ble_eq_true rfl)⟩ hl.1 rfl (Nat.le_of_ble_eq_true rfl) dX12_readThing_182 ⟨rfl, rfl⟩ (fun H locs hw => ?_)
              obtain ⟨c81, h⟩ := gd_some h
              exact g_zret cx hr hlk (isB_n c81) hw h dX12_readThing_185
        · rw [if_neg c18] at h
          refine lv_aload_n hx hb dX12_readThing_132 rfl (lv_at hl 1 rfl) ?_
          obtain ⟨r83, μ82, gr83, h⟩ := bd_some h
          refine g_callVI (As := []) (rest := []) cx hw hA (t_X12_readNumber l G ad μ16 gr83) shm_0 rfl ml_X12_416 im_X12_readNumber se_X12_readNumber in_X12 co_X12_readNumber rfl hd_X12_readNumber rfl ⟨(Nat.le_of_ble_eq_true rfl), (Nat.le_of_ble_eq_true rfl)⟩ hl.1 rfl (Nat.le_of_ble_eq_true rfl) dX12_readThing_133 ⟨rfl, rfl⟩ (fun H locs hw => ?_)
          refine lv_if_eq (tgt := 159) hx hb dX12_readThing_136 (by decide) (fun c84 => ?_) (fun c84 => ?_)
          · rw [if_pos c84] at h
            refine lv_iconst (v := 0) hx hb dX12_readThing_159 (by decide) ?_
            exact g_zret cx hr hlk rfl hw h dX12_readThing_160
          · rw [if_neg c84] at h
            refine lv_aload_n hx hb dX12_readThing_139 rfl (lv_at hl 1 rfl) ?_
            refine lv_aload_n hx hb dX12_readThing_140 rfl (lv_at hl 1 rfl) ?_
            refine g_get cx hw inX12 (ci := 11) rfl 6 (by decide) rfl (v := .int (μ82.1 0 6)) shm_0 rfl fl_X12_378 dX12_readThing_141 ?_
            refine lv_aload_n hx hb dX12_readThing_144 rfl (lv_at hl 1 rfl) ?_
            refine g_get cx hw inX12 (ci := 11) rfl 7 (by decide) rfl (v := .int (μ82.1 0 7)) shm_0 rfl fl_X12_381 dX12_readThing_145 ?_
            refine lv_iconst (v := 0) hx hb dX12_readThing_148 (by decide) ?_
            obtain ⟨r86, μ85, gr86, h⟩ := bd_some h
            refine g_callVI (As := [.int (μ82.1 0 6), .int (μ82.1 0 7), .int 0]) (rest := []) cx hw hA (t_X12_lay l G ad (μ82.1 0 6) (μ82.1 0 7) (0 : Int32) μ82 gr86) shm_0 rfl ml_X12_393 im_X12_lay se_X12_lay in_X12 co_X12_lay rfl hd_X12_lay rfl ⟨(Nat.le_of_ble_eq_true rfl), (Nat.le_of_ble_eq_true rfl)⟩ hl.1 rfl (Nat.le_of_ble_eq_true rfl) dX12_readThing_149 ⟨rfl, rfl⟩ (fun H locs hw => ?_)
            refine lv_if_eq (tgt := 159) hx hb dX12_readThing_152 (by decide) (fun c87 => ?_) (fun c87 => ?_)
            · rw [if_pos c87] at h
              refine lv_iconst (v := 0) hx hb dX12_readThing_159 (by decide) ?_
              exact g_zret cx hr hlk rfl hw h dX12_readThing_160
            · rw [if_neg c87] at h
              refine lv_iconst (v := 1) hx hb dX12_readThing_155 (by decide) ?_
              refine lv_goto (tgt := 160) hx hb dX12_readThing_156 (by decide) ?_
              exact g_zret cx hr hlk rfl hw h dX12_readThing_160
      · rw [if_pos c15] at h
        refine lv_aload_n hx hb dX12_readThing_119 rfl (lv_at hl 1 rfl) ?_
        refine lv_iload_n hx hb dX12_readThing_120 rfl (lv_at hl 3 rfl) ?_
        obtain ⟨r89, μ88, gr89, h⟩ := bd_some h
        refine g_callVI (As := [.int a2]) (rest := []) cx hw hA (t_X12_fails l G ad a2 μ gr89) shm_0 rfl ml_X12_369 im_X12_fails se_X12_fails in_X12 co_X12_fails rfl hd_X12_fails rfl ⟨(Nat.le_of_ble_eq_true rfl), (Nat.le_of_ble_eq_true rfl)⟩ hl.1 rfl (Nat.le_of_ble_eq_true rfl) dX12_readThing_121 ⟨rfl, rfl⟩ (fun H locs hw => ?_)
        obtain ⟨c90, h⟩ := gd_some h
        exact g_zret cx hr hlk (isB_n c90) hw h dX12_readThing_124
theorem p_X12_readThing_b81_ex : ∃ f : Int32 → Int32 → Mem → Option (Int32 × Mem), ∀ (a1 : Int32) (a2 : Int32) (μ : Mem), f a1 a2 μ = p_X12_readThing_b86  a1 a2 (1 : Int32) μ := ⟨fun (a1 : Int32) (a2 : Int32) (μ : Mem) => p_X12_readThing_b86  a1 a2 (1 : Int32) μ, fun _ _ _ => rfl⟩
noncomputable def p_X12_readThing_b81 : Int32 → Int32 → Mem → Option (Int32 × Mem) := Classical.choose p_X12_readThing_b81_ex
theorem p_X12_readThing_b81_eq (a1 : Int32) (a2 : Int32) (μ : Mem) : p_X12_readThing_b81 a1 a2 μ = p_X12_readThing_b86  a1 a2 (1 : Int32) μ := Classical.choose_spec p_X12_readThing_b81_ex a1 a2 μ
set_option maxHeartbeats 4000000 in
set_option maxRecDepth 100000 in
theorem t_X12_readThing_b81 (l : Launch) (G : Gt) (ad : Nat → Nat) (av : List Value) {r : Int32} {μz : Mem} (a1 : Int32) (a2 : Int32) (μ : Mem) (h : p_X12_readThing_b81  a1 a2 μ = some (r, μz)) : Bk l cX12_readThing 4 RX12 (some .boolean) ({ frames := 4, cells := 0, slots := 0, locals := 88 } : Room) G av (eI 1 G ad r μz) (wd 1 G ad μ) 81 [(0, .ref (ad 0)), (1, .int a1), (2, .int a2)] [] := by
  intro p e s m below meth c A ls H locs cx hr hlk hA hl hw
  have hx := cx.1
  have hb := cx.2.1
  rw [p_X12_readThing_b81_eq] at h
  refine lv_iconst (v := 1) hx hb dX12_readThing_81 (by decide) ?_
  refine lv_goto (tgt := 86) hx hb dX12_readThing_82 (by decide) ?_
  exact t_X12_readThing_b86 l G ad av  a1 a2 (1 : Int32) μ h p e s m below meth c A ls H locs cx hr hlk hA (lv_sub hl [0, 1, 2] rfl) hw
theorem p_X12_readThing_ex : ∃ f : Mem → Option (Int32 × Mem), ∀  (μ : Mem), f  μ = bd (p_X12_here μ) (fun r2 μ1 => bv (μ1.1 0 4) (fun v3 => bd (p_X12_beginsNumber μ1) (fun r5 μ4 => (if r5 = (0 : Int32) then (if (s_X12_isVarLetter r2) = (0 : Int32) then (if (s_X12_isFunctionLetter r2) = (0 : Int32) then (if (s_X12_signOf r2) = (-1 : Int32) then (if r2 = (40 : Int32) then p_X12_readThing_b81  r2 v3 μ4 else (if r2 = (91 : Int32) then p_X12_readThing_b81  r2 v3 μ4 else (if r2 = (63 : Int32) then p_X12_readThing_b81  r2 v3 μ4 else (if r2 = (33 : Int32) then p_X12_readThing_b81  r2 v3 μ4 else (if r2 = (38 : Int32) then p_X12_readThing_b81  r2 v3 μ4 else (if r2 = (95 : Int32) then p_X12_readThing_b81  r2 v3 μ4 else (if r2 = (58 : Int32) then p_X12_readThing_b81  r2 v3 μ4 else p_X12_readThing_b86  r2 v3 (0 : Int32) μ4))))))) else p_X12_readThing_b81  r2 v3 μ4) else p_X12_readThing_b81  r2 v3 μ4) else p_X12_readThing_b81  r2 v3 μ4) else p_X12_readThing_b81  r2 v3 μ4)))) := ⟨fun  (μ : Mem) => bd (p_X12_here μ) (fun r2 μ1 => bv (μ1.1 0 4) (fun v3 => bd (p_X12_beginsNumber μ1) (fun r5 μ4 => (if r5 = (0 : Int32) then (if (s_X12_isVarLetter r2) = (0 : Int32) then (if (s_X12_isFunctionLetter r2) = (0 : Int32) then (if (s_X12_signOf r2) = (-1 : Int32) then (if r2 = (40 : Int32) then p_X12_readThing_b81  r2 v3 μ4 else (if r2 = (91 : Int32) then p_X12_readThing_b81  r2 v3 μ4 else (if r2 = (63 : Int32) then p_X12_readThing_b81  r2 v3 μ4 else (if r2 = (33 : Int32) then p_X12_readThing_b81  r2 v3 μ4 else (if r2 = (38 : Int32) then p_X12_readThing_b81  r2 v3 μ4 else (if r2 = (95 : Int32) then p_X12_readThing_b81  r2 v3 μ4 else (if r2 = (58 : Int32) then p_X12_readThing_b81  r2 v3 μ4 else p_X12_readThing_b86  r2 v3 (0 : Int32) μ4))))))) else p_X12_readThing_b81  r2 v3 μ4) else p_X12_readThing_b81  r2 v3 μ4) else p_X12_readThing_b81  r2 v3 μ4) else p_X12_readThing_b81  r2 v3 μ4)))), fun _ => rfl⟩
noncomputable def p_X12_readThing : Mem → Option (Int32 × Mem) := Classical.choose p_X12_readThing_ex
theorem p_X12_readThing_eq  (μ : Mem) : p_X12_readThing  μ = bd (p_X12_here μ) (fun r2 μ1 => bv (μ1.1 0 4) (fun v3 => bd (p_X12_beginsNumber μ1) (fun r5 μ4 => (if r5 = (0 : Int32) then (if (s_X12_isVarLetter r2) = (0 : Int32) then (if (s_X12_isFunctionLetter r2) = (0 : Int32) then (if (s_X12_signOf r2) = (-1 : Int32) then (if r2 = (40 : Int32) then p_X12_readThing_b81  r2 v3 μ4 else (if r2 = (91 : Int32) then p_X12_readThing_b81  r2 v3 μ4 else (if r2 = (63 : Int32) then p_X12_readThing_b81  r2 v3 μ4 else (if r2 = (33 : Int32) then p_X12_readThing_b81  r2 v3 μ4 else (if r2 = (38 : Int32) then p_X12_readThing_b81  r2 v3 μ4 else (if r2 = (95 : Int32) then p_X12_readThing_b81  r2 v3 μ4 else (if r2 = (58 : Int32) then p_X12_readThing_b81  r2 v3 μ4 else p_X12_readThing_b86  r2 v3 (0 : Int32) μ4))))))) else p_X12_readThing_b81  r2 v3 μ4) else p_X12_readThing_b81  r2 v3 μ4) else p_X12_readThing_b81  r2 v3 μ4) else p_X12_readThing_b81  r2 v3 μ4)))) := Classical.choose_spec p_X12_readThing_ex  μ
set_option maxHeartbeats 4000000 in
set_option maxRecDepth 100000 in
theorem t_X12_readThing (l : Launch) (G : Gt) (ad : Nat → Nat)  (μ : Mem) {r : Int32} {μz : Mem} (h : p_X12_readThing  μ = some (r, μz)) : Mt l yX12_readThing cX12_readThing 4 (some .boolean) ({ frames := 4, cells := 0, slots := 0, locals := 88 } : Room) G [.ref (ad 0)] (wd 1 G ad μ) (eI 1 G ad r μz) := by
  refine Bk.mt (by decide) rfl (Nat.le_of_ble_eq_true rfl) ?_
  intro p e s m below meth c A ls H locs cx hr hlk hA hl hw
  have hx := cx.1
  have hb := cx.2.1
  have hl : lv_has ls 4 [(0, .ref (ad 0))] := hl
  rw [p_X12_readThing_eq] at h
  refine lv_aload_n hx hb dX12_readThing_0 rfl (lv_at hl 0 rfl) ?_
  obtain ⟨r2, μ1, gr2, h⟩ := bd_some h
  refine g_callVI (As := []) (rest := []) cx hw hA (t_X12_here l G ad μ gr2) shm_0 rfl ml_X12_365 im_X12_here se_X12_here in_X12 co_X12_here rfl hd_X12_here rfl ⟨(Nat.le_of_ble_eq_true rfl), (Nat.le_of_ble_eq_true rfl)⟩ hl.1 rfl (Nat.le_of_ble_eq_true rfl) dX12_readThing_1 ⟨rfl, rfl⟩ (fun H locs hw => ?_)
  refine lv_istore_n (lv' := [(1, .int r2), (0, .ref (ad 0))]) hx hb dX12_readThing_4 rfl hl (by decide) rfl (fun ls hl => ?_)
  refine lv_aload_n hx hb dX12_readThing_5 rfl (lv_at hl 1 rfl) ?_
  refine g_get cx hw inX12 (ci := 11) rfl 4 (by decide) rfl (v := .int (μ1.1 0 4)) shm_0 rfl fl_X12_362 dX12_readThing_6 ?_
  obtain ⟨v3, ev3, h⟩ := bv_ex h
  refine lv_topi (fun y9 z9 => ?_)
  obtain rfl : v3 = y9 := ev3.trans z9.symm
  refine lv_istore_n (lv' := [(2, .int v3), (1, .int r2), (0, .ref (ad 0))]) hx hb dX12_readThing_9 rfl hl (by decide) rfl (fun ls hl => ?_)
  refine lv_aload_n hx hb dX12_readThing_10 rfl (lv_at hl 2 rfl) ?_
  obtain ⟨r5, μ4, gr5, h⟩ := bd_some h
  refine g_callVI (As := []) (rest := []) cx hw hA (t_X12_beginsNumber l G ad μ1 gr5) shm_0 rfl ml_X12_399 im_X12_beginsNumber se_X12_beginsNumber in_X12 co_X12_beginsNumber rfl hd_X12_beginsNumber rfl ⟨(Nat.le_of_ble_eq_true rfl), (Nat.le_of_ble_eq_true rfl)⟩ hl.1 rfl (Nat.le_of_ble_eq_true rfl) dX12_readThing_11 ⟨rfl, rfl⟩ (fun H locs hw => ?_)
  refine lv_if_ne (tgt := 81) hx hb dX12_readThing_14 (by decide) (fun c6 => ?_) (fun c6 => ?_)
  · rw [if_neg c6] at h
    exact t_X12_readThing_b81 l G ad _  r2 v3 μ4 h p e s m below meth c A ls H locs cx hr hlk hA (lv_sub hl [2, 1, 0] rfl) hw
  · rw [if_pos c6] at h
    refine lv_iload_n hx hb dX12_readThing_17 rfl (lv_at hl 1 rfl) ?_
    refine s_callI (As := [.int r2]) (rest := []) cx hw hA (t_X12_isVarLetter l G r2) ml_X12_403 st_X12_isVarLetter in_X12 co_X12_isVarLetter hd_X12_isVarLetter rfl ⟨(Nat.le_of_ble_eq_true rfl), (Nat.le_of_ble_eq_true rfl)⟩ hl.1 rfl (Nat.le_of_ble_eq_true rfl) dX12_readThing_18 rfl (fun H locs hw => ?_)
    refine lv_if_ne (tgt := 81) hx hb dX12_readThing_21 (by decide) (fun c91 => ?_) (fun c91 => ?_)
    · rw [if_neg c91] at h
      exact t_X12_readThing_b81 l G ad _  r2 v3 μ4 h p e s m below meth c A ls H locs cx hr hlk hA (lv_sub hl [2, 1, 0] rfl) hw
    · rw [if_pos c91] at h
      refine lv_iload_n hx hb dX12_readThing_24 rfl (lv_at hl 1 rfl) ?_
      refine s_callI (As := [.int r2]) (rest := []) cx hw hA (t_X12_isFunctionLetter l G r2) ml_X12_406 st_X12_isFunctionLetter in_X12 co_X12_isFunctionLetter hd_X12_isFunctionLetter rfl ⟨(Nat.le_of_ble_eq_true rfl), (Nat.le_of_ble_eq_true rfl)⟩ hl.1 rfl (Nat.le_of_ble_eq_true rfl) dX12_readThing_25 rfl (fun H locs hw => ?_)
      refine lv_if_ne (tgt := 81) hx hb dX12_readThing_28 (by decide) (fun c92 => ?_) (fun c92 => ?_)
      · rw [if_neg c92] at h
        exact t_X12_readThing_b81 l G ad _  r2 v3 μ4 h p e s m below meth c A ls H locs cx hr hlk hA (lv_sub hl [2, 1, 0] rfl) hw
      · rw [if_pos c92] at h
        refine lv_iload_n hx hb dX12_readThing_31 rfl (lv_at hl 1 rfl) ?_
        refine s_callI (As := [.int r2]) (rest := []) cx hw hA (t_X12_signOf l G r2) ml_X12_409 st_X12_signOf in_X12 co_X12_signOf hd_X12_signOf rfl ⟨(Nat.le_of_ble_eq_true rfl), (Nat.le_of_ble_eq_true rfl)⟩ hl.1 rfl (Nat.le_of_ble_eq_true rfl) dX12_readThing_32 rfl (fun H locs hw => ?_)
        refine lv_iconst (v := (-1)) hx hb dX12_readThing_35 (by decide) ?_
        refine lv_icmp_ne (tgt := 81) hx hb dX12_readThing_36 (by decide) (fun c93 => ?_) (fun c93 => ?_)
        · rw [if_neg c93] at h
          exact t_X12_readThing_b81 l G ad _  r2 v3 μ4 h p e s m below meth c A ls H locs cx hr hlk hA (lv_sub hl [2, 1, 0] rfl) hw
        · rw [if_pos c93] at h
          refine lv_iload_n hx hb dX12_readThing_39 rfl (lv_at hl 1 rfl) ?_
          refine lv_bipush (v := 40) hx hb dX12_readThing_40 (by decide) ?_
          refine lv_icmp_eq (tgt := 81) hx hb dX12_readThing_42 (by decide) (fun c94 => ?_) (fun c94 => ?_)
          · rw [if_pos c94] at h
            exact t_X12_readThing_b81 l G ad _  r2 v3 μ4 h p e s m below meth c A ls H locs cx hr hlk hA (lv_sub hl [2, 1, 0] rfl) hw
          · rw [if_neg c94] at h
            refine lv_iload_n hx hb dX12_readThing_45 rfl (lv_at hl 1 rfl) ?_
            refine lv_bipush (v := 91) hx hb dX12_readThing_46 (by decide) ?_
            refine lv_icmp_eq (tgt := 81) hx hb dX12_readThing_48 (by decide) (fun c95 => ?_) (fun c95 => ?_)
            · rw [if_pos c95] at h
              exact t_X12_readThing_b81 l G ad _  r2 v3 μ4 h p e s m below meth c A ls H locs cx hr hlk hA (lv_sub hl [2, 1, 0] rfl) hw
            · rw [if_neg c95] at h
              refine lv_iload_n hx hb dX12_readThing_51 rfl (lv_at hl 1 rfl) ?_
              refine lv_bipush (v := 63) hx hb dX12_readThing_52 (by decide) ?_
              refine lv_icmp_eq (tgt := 81) hx hb dX12_readThing_54 (by decide) (fun c96 => ?_) (fun c96 => ?_)
              · rw [if_pos c96] at h
                exact t_X12_readThing_b81 l G ad _  r2 v3 μ4 h p e s m below meth c A ls H locs cx hr hlk hA (lv_sub hl [2, 1, 0] rfl) hw
              · rw [if_neg c96] at h
                refine lv_iload_n hx hb dX12_readThing_57 rfl (lv_at hl 1 rfl) ?_
                refine lv_bipush (v := 33) hx hb dX12_readThing_58 (by decide) ?_
                refine lv_icmp_eq (tgt := 81) hx hb dX12_readThing_60 (by decide) (fun c97 => ?_) (fun c97 => ?_)
                · rw [if_pos c97] at h
                  exact t_X12_readThing_b81 l G ad _  r2 v3 μ4 h p e s m below meth c A ls H locs cx hr hlk hA (lv_sub hl [2, 1, 0] rfl) hw
                · rw [if_neg c97] at h
                  refine lv_iload_n hx hb dX12_readThing_63 rfl (lv_at hl 1 rfl) ?_
                  refine lv_bipush (v := 38) hx hb dX12_readThing_64 (by decide) ?_
                  refine lv_icmp_eq (tgt := 81) hx hb dX12_readThing_66 (by decide) (fun c98 => ?_) (fun c98 => ?_)
                  · rw [if_pos c98] at h
                    exact t_X12_readThing_b81 l G ad _  r2 v3 μ4 h p e s m below meth c A ls H locs cx hr hlk hA (lv_sub hl [2, 1, 0] rfl) hw
                  · rw [if_neg c98] at h
                    refine lv_iload_n hx hb dX12_readThing_69 rfl (lv_at hl 1 rfl) ?_
                    refine lv_bipush (v := 95) hx hb dX12_readThing_70 (by decide) ?_
                    refine lv_icmp_eq (tgt := 81) hx hb dX12_readThing_72 (by decide) (fun c99 => ?_) (fun c99 => ?_)
                    · rw [if_pos c99] at h
                      exact t_X12_readThing_b81 l G ad _  r2 v3 μ4 h p e s m below meth c A ls H locs cx hr hlk hA (lv_sub hl [2, 1, 0] rfl) hw
                    · rw [if_neg c99] at h
                      refine lv_iload_n hx hb dX12_readThing_75 rfl (lv_at hl 1 rfl) ?_
                      refine lv_bipush (v := 58) hx hb dX12_readThing_76 (by decide) ?_
                      refine lv_icmp_ne (tgt := 85) hx hb dX12_readThing_78 (by decide) (fun c100 => ?_) (fun c100 => ?_)
                      · rw [if_neg c100] at h
                        refine lv_iconst (v := 0) hx hb dX12_readThing_85 (by decide) ?_
                        exact t_X12_readThing_b86 l G ad _  r2 v3 (0 : Int32) μ4 h p e s m below meth c A ls H locs cx hr hlk hA (lv_sub hl [2, 1, 0] rfl) hw
                      · rw [if_pos c100] at h
                        exact t_X12_readThing_b81 l G ad _  r2 v3 μ4 h p e s m below meth c A ls H locs cx hr hlk hA (lv_sub hl [2, 1, 0] rfl) hw

theorem p_X12_goesOn_ex : ∃ f : Int32 → Int32 → Mem → Option (Int32 × Mem), ∀ (a1 : Int32) (a2 : Int32) (μ : Mem), f a1 a2 μ = (if a2 = (5 : Int32) then bd (p_X12_here μ) (fun r12 μ11 => (if (s_X12_isSign r12) = (0 : Int32) then bd (p_X12_fails (μ11.1 0 4) μ11) (fun r19 μ18 => gd (isB r19) (some (r19, μ18))) else bd (p_X12_here μ11) (fun r15 μ14 => gd (inb a1 800) (bv (sF μ14 17 a1.toNatClampNeg r15) (fun μ16 => bv (sF μ16 0 4 ((μ16.1 0 4) + (1 : Int32))) (fun μ17 => some ((1 : Int32), μ17))))))) else (if a2 = (11 : Int32) then gd (inb a1 800) (bv (μ.1 17 a1.toNatClampNeg) (fun v6 => gd (inb v6 14) (gd (inb v6 14) (bv (sF μ 21 v6.toNatClampNeg ((μ.1 21 v6.toNatClampNeg) + (1 : Int32))) (fun μ7 => bd (p_X12_takes (44 : Int32) μ7) (fun r9 μ8 => gd (isB r9) (some (r9, μ8)))))))) else bd (p_X12_takes (44 : Int32) μ) (fun r4 μ3 => gd (isB r4) (some (r4, μ3))))) := ⟨fun (a1 : Int32) (a2 : Int32) (μ : Mem) => (if a2 = (5 : Int32) then bd (p_X12_here μ) (fun r12 μ11 => (if (s_X12_isSign r12) = (0 : Int32) then bd (p_X12_fails (μ11.1 0 4) μ11) (fun r19 μ18 => gd (isB r19) (some (r19, μ18))) else bd (p_X12_here μ11) (fun r15 μ14 => gd (inb a1 800) (bv (sF μ14 17 a1.toNatClampNeg r15) (fun μ16 => bv (sF μ16 0 4 ((μ16.1 0 4) + (1 : Int32))) (fun μ17 => some ((1 : Int32), μ17))))))) else (if a2 = (11 : Int32) then gd (inb a1 800) (bv (μ.1 17 a1.toNatClampNeg) (fun v6 => gd (inb v6 14) (gd (inb v6 14) (bv (sF μ 21 v6.toNatClampNeg ((μ.1 21 v6.toNatClampNeg) + (1 : Int32))) (fun μ7 => bd (p_X12_takes (44 : Int32) μ7) (fun r9 μ8 => gd (isB r9) (some (r9, μ8)))))))) else bd (p_X12_takes (44 : Int32) μ) (fun r4 μ3 => gd (isB r4) (some (r4, μ3))))), fun _ _ _ => rfl⟩
noncomputable def p_X12_goesOn : Int32 → Int32 → Mem → Option (Int32 × Mem) := Classical.choose p_X12_goesOn_ex
theorem p_X12_goesOn_eq (a1 : Int32) (a2 : Int32) (μ : Mem) : p_X12_goesOn a1 a2 μ = (if a2 = (5 : Int32) then bd (p_X12_here μ) (fun r12 μ11 => (if (s_X12_isSign r12) = (0 : Int32) then bd (p_X12_fails (μ11.1 0 4) μ11) (fun r19 μ18 => gd (isB r19) (some (r19, μ18))) else bd (p_X12_here μ11) (fun r15 μ14 => gd (inb a1 800) (bv (sF μ14 17 a1.toNatClampNeg r15) (fun μ16 => bv (sF μ16 0 4 ((μ16.1 0 4) + (1 : Int32))) (fun μ17 => some ((1 : Int32), μ17))))))) else (if a2 = (11 : Int32) then gd (inb a1 800) (bv (μ.1 17 a1.toNatClampNeg) (fun v6 => gd (inb v6 14) (gd (inb v6 14) (bv (sF μ 21 v6.toNatClampNeg ((μ.1 21 v6.toNatClampNeg) + (1 : Int32))) (fun μ7 => bd (p_X12_takes (44 : Int32) μ7) (fun r9 μ8 => gd (isB r9) (some (r9, μ8)))))))) else bd (p_X12_takes (44 : Int32) μ) (fun r4 μ3 => gd (isB r4) (some (r4, μ3))))) := Classical.choose_spec p_X12_goesOn_ex a1 a2 μ
set_option maxHeartbeats 4000000 in
set_option maxRecDepth 100000 in
theorem t_X12_goesOn (l : Launch) (G : Gt) (ad : Nat → Nat) (a1 : Int32) (a2 : Int32) (μ : Mem) {r : Int32} {μz : Mem} (h : p_X12_goesOn a1 a2 μ = some (r, μz)) : Mt l yX12_goesOn cX12_goesOn 3 (some .boolean) ({ frames := 2, cells := 0, slots := 0, locals := 42 } : Room) G [.ref (ad 0), .int a1, .int a2] (wd 1 G ad μ) (eI 1 G ad r μz) := by
  refine Bk.mt (by decide) rfl (Nat.le_of_ble_eq_true rfl) ?_
  intro p e s m below meth c A ls H locs cx hr hlk hA hl hw
  have hx := cx.1
  have hb := cx.2.1
  have hl : lv_has ls 3 [(0, .ref (ad 0)), (1, .int a1), (2, .int a2)] := hl
  rw [p_X12_goesOn_eq] at h
  refine lv_iload_n hx hb dX12_goesOn_0 rfl (lv_at hl 2 rfl) ?_
  refine lv_iconst (v := 5) hx hb dX12_goesOn_1 (by decide) ?_
  refine lv_icmp_ne (tgt := 46) hx hb dX12_goesOn_2 (by decide) (fun c1 => ?_) (fun c1 => ?_)
  · rw [if_neg c1] at h
    refine lv_iload_n hx hb dX12_goesOn_46 rfl (lv_at hl 2 rfl) ?_
    refine lv_bipush (v := 11) hx hb dX12_goesOn_47 (by decide) ?_
    refine lv_icmp_ne (tgt := 67) hx hb dX12_goesOn_49 (by decide) (fun c2 => ?_) (fun c2 => ?_)
    · rw [if_neg c2] at h
      refine lv_aload_n hx hb dX12_goesOn_67 rfl (lv_at hl 0 rfl) ?_
      refine lv_bipush (v := 44) hx hb dX12_goesOn_68 (by decide) ?_
      obtain ⟨r4, μ3, gr4, h⟩ := bd_some h
      refine g_callVI (As := [.int 44]) (rest := []) cx hw hA (t_X12_takes l G ad (44 : Int32) μ gr4) shm_0 rfl ml_X12_422 im_X12_takes se_X12_takes in_X12 co_X12_takes rfl hd_X12_takes rfl ⟨(Nat.le_of_ble_eq_true rfl), (Nat.le_of_ble_eq_true rfl)⟩ hl.1 rfl (Nat.le_of_ble_eq_true rfl) dX12_goesOn_70 ⟨rfl, rfl⟩ (fun H locs hw => ?_)
      obtain ⟨c5, h⟩ := gd_some h
      exact g_zret cx hr hlk (isB_n c5) hw h dX12_goesOn_73
    · rw [if_pos c2] at h
      refine lv_aload_n hx hb dX12_goesOn_52 rfl (lv_at hl 0 rfl) ?_
      refine g_get cx hw inX12 (ci := 11) rfl 31 (by decide) rfl (v := .ref (ad 21)) shm_0 rfl fl_X12_75 dX12_goesOn_53 ?_
      refine lv_aload_n hx hb dX12_goesOn_56 rfl (lv_at hl 0 rfl) ?_
      refine g_get cx hw inX12 (ci := 11) rfl 25 (by decide) rfl (v := .ref (ad 17)) shm_0 rfl fl_X12_63 dX12_goesOn_57 ?_
      refine lv_iload_n hx hb dX12_goesOn_60 rfl (lv_at hl 1 rfl) ?_
      refine g_iald cx hw shm_17 h dX12_goesOn_61 (fun h => ?_)
      obtain ⟨v6, ev6, h⟩ := bv_ex h
      refine lv_topi (fun y9 z9 => ?_)
      obtain rfl : v6 = y9 := ev6.trans z9.symm
      refine lv_dup2_11 hx hb dX12_goesOn_62 rfl rfl ?_
      refine g_iald cx hw shm_21 h dX12_goesOn_63 (fun h => ?_)
      refine lv_iconst (v := 1) hx hb dX12_goesOn_64 (by decide) ?_
      refine lv_iadd hx hb dX12_goesOn_65 ?_
      refine g_iast cx hw shm_21 h dX12_goesOn_66 (fun μ7 H locs h hw => ?_)
      refine lv_aload_n hx hb dX12_goesOn_67 rfl (lv_at hl 0 rfl) ?_
      refine lv_bipush (v := 44) hx hb dX12_goesOn_68 (by decide) ?_
      obtain ⟨r9, μ8, gr9, h⟩ := bd_some h
      refine g_callVI (As := [.int 44]) (rest := []) cx hw hA (t_X12_takes l G ad (44 : Int32) μ7 gr9) shm_0 rfl ml_X12_422 im_X12_takes se_X12_takes in_X12 co_X12_takes rfl hd_X12_takes rfl ⟨(Nat.le_of_ble_eq_true rfl), (Nat.le_of_ble_eq_true rfl)⟩ hl.1 rfl (Nat.le_of_ble_eq_true rfl) dX12_goesOn_70 ⟨rfl, rfl⟩ (fun H locs hw => ?_)
      obtain ⟨c10, h⟩ := gd_some h
      exact g_zret cx hr hlk (isB_n c10) hw h dX12_goesOn_73
  · rw [if_pos c1] at h
    refine lv_aload_n hx hb dX12_goesOn_5 rfl (lv_at hl 0 rfl) ?_
    obtain ⟨r12, μ11, gr12, h⟩ := bd_some h
    refine g_callVI (As := []) (rest := []) cx hw hA (t_X12_here l G ad μ gr12) shm_0 rfl ml_X12_365 im_X12_here se_X12_here in_X12 co_X12_here rfl hd_X12_here rfl ⟨(Nat.le_of_ble_eq_true rfl), (Nat.le_of_ble_eq_true rfl)⟩ hl.1 rfl (Nat.le_of_ble_eq_true rfl) dX12_goesOn_6 ⟨rfl, rfl⟩ (fun H locs hw => ?_)
    refine s_callI (As := [.int r12]) (rest := []) cx hw hA (t_X12_isSign l G r12) ml_X12_345 st_X12_isSign in_X12 co_X12_isSign hd_X12_isSign rfl ⟨(Nat.le_of_ble_eq_true rfl), (Nat.le_of_ble_eq_true rfl)⟩ hl.1 rfl (Nat.le_of_ble_eq_true rfl) dX12_goesOn_9 rfl (fun H locs hw => ?_)
    refine lv_if_ne (tgt := 24) hx hb dX12_goesOn_12 (by decide) (fun c13 => ?_) (fun c13 => ?_)
    · rw [if_neg c13] at h
      refine lv_aload_n hx hb dX12_goesOn_24 rfl (lv_at hl 0 rfl) ?_
      refine g_get cx hw inX12 (ci := 11) rfl 25 (by decide) rfl (v := .ref (ad 17)) shm_0 rfl fl_X12_63 dX12_goesOn_25 ?_
      refine lv_iload_n hx hb dX12_goesOn_28 rfl (lv_at hl 1 rfl) ?_
      refine lv_aload_n hx hb dX12_goesOn_29 rfl (lv_at hl 0 rfl) ?_
      obtain ⟨r15, μ14, gr15, h⟩ := bd_some h
      refine g_callVI (As := []) (rest := [.int a1, .ref (ad 17)]) cx hw hA (t_X12_here l G ad μ11 gr15) shm_0 rfl ml_X12_365 im_X12_here se_X12_here in_X12 co_X12_here rfl hd_X12_here rfl ⟨(Nat.le_of_ble_eq_true rfl), (Nat.le_of_ble_eq_true rfl)⟩ hl.1 rfl (Nat.le_of_ble_eq_true rfl) dX12_goesOn_30 ⟨rfl, rfl⟩ (fun H locs hw => ?_)
      refine g_iast cx hw shm_17 h dX12_goesOn_33 (fun μ16 H locs h hw => ?_)
      refine lv_aload_n hx hb dX12_goesOn_34 rfl (lv_at hl 0 rfl) ?_
      refine lv_dup hx hb dX12_goesOn_35 rfl ?_
      refine g_get cx hw inX12 (ci := 11) rfl 4 (by decide) rfl (v := .int (μ16.1 0 4)) shm_0 rfl fl_X12_362 dX12_goesOn_36 ?_
      refine lv_iconst (v := 1) hx hb dX12_goesOn_39 (by decide) ?_
      refine lv_iadd hx hb dX12_goesOn_40 ?_
      refine g_put cx hw inX12 (ci := 11) rfl tyX12_ok nmX12 4 (by decide) rfl rfl rfl rfl shm_0 h fl_X12_362 dX12_goesOn_41 (fun μ17 H locs h hw => ?_)
      refine lv_iconst (v := 1) hx hb dX12_goesOn_44 (by decide) ?_
      exact g_zret cx hr hlk rfl hw h dX12_goesOn_45
    · rw [if_pos c13] at h
      refine lv_aload_n hx hb dX12_goesOn_15 rfl (lv_at hl 0 rfl) ?_
      refine lv_aload_n hx hb dX12_goesOn_16 rfl (lv_at hl 0 rfl) ?_
      refine g_get cx hw inX12 (ci := 11) rfl 4 (by decide) rfl (v := .int (μ11.1 0 4)) shm_0 rfl fl_X12_362 dX12_goesOn_17 ?_
      obtain ⟨r19, μ18, gr19, h⟩ := bd_some h
      refine g_callVI (As := [.int (μ11.1 0 4)]) (rest := []) cx hw hA (t_X12_fails l G ad (μ11.1 0 4) μ11 gr19) shm_0 rfl ml_X12_369 im_X12_fails se_X12_fails in_X12 co_X12_fails rfl hd_X12_fails rfl ⟨(Nat.le_of_ble_eq_true rfl), (Nat.le_of_ble_eq_true rfl)⟩ hl.1 rfl (Nat.le_of_ble_eq_true rfl) dX12_goesOn_20 ⟨rfl, rfl⟩ (fun H locs hw => ?_)
      obtain ⟨c20, h⟩ := gd_some h
      exact g_zret cx hr hlk (isB_n c20) hw h dX12_goesOn_23
