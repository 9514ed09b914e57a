theorem p_X1_aboutOutput_ex : ∃ f : Nat → Int32 → Int32 → Mem → Option (Int32 × Mem), ∀ (a0 : Nat) (a1 : Int32) (a2 : Int32) (μ : Mem), f a0 a1 a2 μ = (if a1 < (0 : Int32) then some ((-1 : Int32), μ) else bd (p_X1_keptCount a0 μ) (fun r3 μ2 => (if r3 ≤ a1 then some ((-1 : Int32), μ2) else (if a2 < (0 : Int32) then some ((-1 : Int32), μ2) else (if a2 ≤ (1 : Int32) then (if a2 = (0 : Int32) then gd (inb a1 60) (some ((s_X0_kind (μ2.2.1 (a0 + 1) a1.toNatClampNeg)), μ2)) else gd (inb a1 60) (some ((s_X0_bits (μ2.2.1 (a0 + 1) a1.toNatClampNeg)), μ2))) else some ((-1 : Int32), μ2)))))) := ⟨fun (a0 : Nat) (a1 : Int32) (a2 : Int32) (μ : Mem) => (if a1 < (0 : Int32) then some ((-1 : Int32), μ) else bd (p_X1_keptCount a0 μ) (fun r3 μ2 => (if r3 ≤ a1 then some ((-1 : Int32), μ2) else (if a2 < (0 : Int32) then some ((-1 : Int32), μ2) else (if a2 ≤ (1 : Int32) then (if a2 = (0 : Int32) then gd (inb a1 60) (some ((s_X0_kind (μ2.2.1 (a0 + 1) a1.toNatClampNeg)), μ2)) else gd (inb a1 60) (some ((s_X0_bits (μ2.2.1 (a0 + 1) a1.toNatClampNeg)), μ2))) else some ((-1 : Int32), μ2)))))), fun _ _ _ _ => rfl⟩
noncomputable def p_X1_aboutOutput : Nat → Int32 → Int32 → Mem → Option (Int32 × Mem) := Classical.choose p_X1_aboutOutput_ex
theorem p_X1_aboutOutput_eq (a0 : Nat) (a1 : Int32) (a2 : Int32) (μ : Mem) : p_X1_aboutOutput a0 a1 a2 μ = (if a1 < (0 : Int32) then some ((-1 : Int32), μ) else bd (p_X1_keptCount a0 μ) (fun r3 μ2 => (if r3 ≤ a1 then some ((-1 : Int32), μ2) else (if a2 < (0 : Int32) then some ((-1 : Int32), μ2) else (if a2 ≤ (1 : Int32) then (if a2 = (0 : Int32) then gd (inb a1 60) (some ((s_X0_kind (μ2.2.1 (a0 + 1) a1.toNatClampNeg)), μ2)) else gd (inb a1 60) (some ((s_X0_bits (μ2.2.1 (a0 + 1) a1.toNatClampNeg)), μ2))) else some ((-1 : Int32), μ2)))))) := Classical.choose_spec p_X1_aboutOutput_ex a0 a1 a2 μ
set_option maxHeartbeats 4000000 in
set_option maxRecDepth 100000 in
theorem t_X1_aboutOutput (l : Launch) (G : Gt) (ad : Nat → Nat) (a0 : Nat) (q0 : sh 0 a0 = (0, 0)) (a1 : Int32) (a2 : Int32) (μ : Mem) {r : Int32} {μz : Mem} (h : p_X1_aboutOutput a0 a1 a2 μ = some (r, μz)) : Mt l yX1_aboutOutput cX1_aboutOutput 3 (some .int) ({ frames := 2, cells := 0, slots := 0, locals := 44 } : Room) G [.ref (ad a0), .int a1, .int a2] (wd 0 G ad μ) (eI 0 G ad r μz) := by
  refine Bk.mt (by decide) rfl (Nat.le_of_ble_eq_true rfl) ?_
  intro p e s m below meth c A ls H locs cx hr hlk hA hl hw
  have hx := cx.1
  have hb := cx.2.1
  have hl : lv_has ls 3 [(0, .ref (ad a0)), (1, .int a1), (2, .int a2)] := hl
  rw [p_X1_aboutOutput_eq] at h
  refine lv_iload_n hx hb dX1_aboutOutput_0 rfl (lv_at hl 1 rfl) ?_
  refine lv_if_lt (tgt := 21) hx hb dX1_aboutOutput_1 (by decide) (fun c1 => ?_) (fun c1 => ?_)
  · rw [if_pos c1] at h
    refine lv_iconst (v := (-1)) hx hb dX1_aboutOutput_21 (by decide) ?_
    exact g_iret cx hr hlk hw h dX1_aboutOutput_22
  · rw [if_neg c1] at h
    refine lv_iload_n hx hb dX1_aboutOutput_4 rfl (lv_at hl 1 rfl) ?_
    refine lv_aload_n hx hb dX1_aboutOutput_5 rfl (lv_at hl 0 rfl) ?_
    obtain ⟨r3, μ2, gr3, h⟩ := bd_some h
    refine g_callVI (As := []) (rest := [.int a1]) cx hw hA (t_X1_keptCount l G ad a0 q0 μ gr3) q0 rfl ml_X1_94 im_X1_keptCount se_X1_keptCount in_X1 co_X1_keptCount rfl hd_X1_keptCount rfl ⟨(Nat.le_of_ble_eq_true rfl), (Nat.le_of_ble_eq_true rfl)⟩ hl.1 rfl (Nat.le_of_ble_eq_true rfl) dX1_aboutOutput_6 ⟨rfl, rfl⟩ (fun H locs hw => ?_)
    refine lv_icmp_ge (tgt := 21) hx hb dX1_aboutOutput_9 (by decide) (fun c4 => ?_) (fun c4 => ?_)
    · rw [if_pos c4] at h
      refine lv_iconst (v := (-1)) hx hb dX1_aboutOutput_21 (by decide) ?_
      exact g_iret cx hr hlk hw h dX1_aboutOutput_22
    · rw [if_neg c4] at h
      refine lv_iload_n hx hb dX1_aboutOutput_12 rfl (lv_at hl 2 rfl) ?_
      refine lv_if_lt (tgt := 21) hx hb dX1_aboutOutput_13 (by decide) (fun c5 => ?_) (fun c5 => ?_)
      · rw [if_pos c5] at h
        refine lv_iconst (v := (-1)) hx hb dX1_aboutOutput_21 (by decide) ?_
        exact g_iret cx hr hlk hw h dX1_aboutOutput_22
      · rw [if_neg c5] at h
        refine lv_iload_n hx hb dX1_aboutOutput_16 rfl (lv_at hl 2 rfl) ?_
        refine lv_iconst (v := 1) hx hb dX1_aboutOutput_17 (by decide) ?_
        refine lv_icmp_le (tgt := 23) hx hb dX1_aboutOutput_18 (by decide) (fun c6 => ?_) (fun c6 => ?_)
        · rw [if_pos c6] at h
          refine lv_iload_n hx hb dX1_aboutOutput_23 rfl (lv_at hl 2 rfl) ?_
          refine lv_if_ne (tgt := 39) hx hb dX1_aboutOutput_24 (by decide) (fun c7 => ?_) (fun c7 => ?_)
          · rw [if_neg c7] at h
            refine lv_aload_n hx hb dX1_aboutOutput_39 rfl (lv_at hl 0 rfl) ?_
            refine g_get cx hw inX1 (ci := 0) rfl 7 (by decide) rfl (v := .ref (ad (a0 + 1))) q0 rfl fl_X1_11 dX1_aboutOutput_40 ?_
            refine lv_iload_n hx hb dX1_aboutOutput_43 rfl (lv_at hl 1 rfl) ?_
            refine g_lald cx hw (rl_X1_7 q0) h dX1_aboutOutput_44 (fun h => ?_)
            refine s_callI (As := [.long (μ2.2.1 (a0 + 1) a1.toNatClampNeg)]) (rest := []) cx hw hA (t_X0_bits l G (μ2.2.1 (a0 + 1) a1.toNatClampNeg)) ml_X1_78 st_X0_bits in_X0 co_X0_bits hd_X0_bits rfl ⟨(Nat.le_of_ble_eq_true rfl), (Nat.le_of_ble_eq_true rfl)⟩ hl.1 rfl (Nat.le_of_ble_eq_true rfl) dX1_aboutOutput_45 rfl (fun H locs hw => ?_)
            exact g_iret cx hr hlk hw h dX1_aboutOutput_48
          · rw [if_pos c7] at h
            refine lv_aload_n hx hb dX1_aboutOutput_27 rfl (lv_at hl 0 rfl) ?_
            refine g_get cx hw inX1 (ci := 0) rfl 7 (by decide) rfl (v := .ref (ad (a0 + 1))) q0 rfl fl_X1_11 dX1_aboutOutput_28 ?_
            refine lv_iload_n hx hb dX1_aboutOutput_31 rfl (lv_at hl 1 rfl) ?_
            refine g_lald cx hw (rl_X1_7 q0) h dX1_aboutOutput_32 (fun h => ?_)
            refine s_callI (As := [.long (μ2.2.1 (a0 + 1) a1.toNatClampNeg)]) (rest := []) cx hw hA (t_X0_kind l G (μ2.2.1 (a0 + 1) a1.toNatClampNeg)) ml_X1_98 st_X0_kind in_X0 co_X0_kind hd_X0_kind rfl ⟨(Nat.le_of_ble_eq_true rfl), (Nat.le_of_ble_eq_true rfl)⟩ hl.1 rfl (Nat.le_of_ble_eq_true rfl) dX1_aboutOutput_33 rfl (fun H locs hw => ?_)
            refine lv_goto (tgt := 48) hx hb dX1_aboutOutput_36 (by decide) ?_
            exact g_iret cx hr hlk hw h dX1_aboutOutput_48
        · rw [if_neg c6] at h
          refine lv_iconst (v := (-1)) hx hb dX1_aboutOutput_21 (by decide) ?_
          exact g_iret cx hr hlk hw h dX1_aboutOutput_22

theorem p_X11_output_ex : ∃ f : Int32 → Int32 → Mem → Option (Int32 × Mem), ∀ (a1 : Int32) (a2 : Int32) (μ : Mem), f a1 a2 μ = bd (p_X1_aboutOutput 119 a1 a2 μ) (fun r2 μ1 => some (r2, μ1)) := ⟨fun (a1 : Int32) (a2 : Int32) (μ : Mem) => bd (p_X1_aboutOutput 119 a1 a2 μ) (fun r2 μ1 => some (r2, μ1)), fun _ _ _ => rfl⟩
noncomputable def p_X11_output : Int32 → Int32 → Mem → Option (Int32 × Mem) := Classical.choose p_X11_output_ex
theorem p_X11_output_eq (a1 : Int32) (a2 : Int32) (μ : Mem) : p_X11_output a1 a2 μ = bd (p_X1_aboutOutput 119 a1 a2 μ) (fun r2 μ1 => some (r2, μ1)) := Classical.choose_spec p_X11_output_ex a1 a2 μ
set_option maxHeartbeats 4000000 in
set_option maxRecDepth 100000 in
theorem t_X11_output (l : Launch) (G : Gt) (ad : Nat → Nat) (a1 : Int32) (a2 : Int32) (μ : Mem) {r : Int32} {μz : Mem} (h : p_X11_output a1 a2 μ = some (r, μz)) : Mt l yX11_output cX11_output 3 (some .int) ({ frames := 3, cells := 0, slots := 0, locals := 66 } : Room) G [.ref (ad 0), .int a1, .int a2] (wd 0 G ad μ) (eI 0 G ad r μz) := by
  refine Bk.mt (by decide) rfl (Nat.le_of_ble_eq_true rfl) ?_
  intro p e s m below meth c A ls H locs cx hr hlk hA hl hw
  have hx := cx.1
  have hb := cx.2.1
  have hl : lv_has ls 3 [(0, .ref (ad 0)), (1, .int a1), (2, .int a2)] := hl
  rw [p_X11_output_eq] at h
  refine lv_aload_n hx hb dX11_output_0 rfl (lv_at hl 0 rfl) ?_
  refine g_get cx hw inX11 (ci := 10) rfl 15 (by decide) rfl (v := .ref (ad 119)) shx_0 rfl fl_X11_74 dX11_output_1 ?_
  refine lv_iload_n hx hb dX11_output_4 rfl (lv_at hl 1 rfl) ?_
  refine lv_iload_n hx hb dX11_output_5 rfl (lv_at hl 2 rfl) ?_
  obtain ⟨r2, μ1, gr2, h⟩ := bd_some h
  refine g_callVI (As := [.int a1, .int a2]) (rest := []) cx hw hA (t_X1_aboutOutput l G ad 119 shx_119 a1 a2 μ gr2) shx_119 rfl ml_X11_227 im_X1_aboutOutput se_X1_aboutOutput in_X1 co_X1_aboutOutput rfl hd_X1_aboutOutput rfl ⟨(Nat.le_of_ble_eq_true rfl), (Nat.le_of_ble_eq_true rfl)⟩ hl.1 rfl (Nat.le_of_ble_eq_true rfl) dX11_output_6 ⟨rfl, rfl⟩ (fun H locs hw => ?_)
  exact g_iret cx hr hlk hw h dX11_output_9

theorem p_X11_place_ex : ∃ f : Int32 → Mem → Option (Int32 × Mem), ∀ (a1 : Int32) (μ : Mem), f a1 μ = bd (p_X1_placeBits 119 a1 μ) (fun r2 μ1 => some (r2, μ1)) := ⟨fun (a1 : Int32) (μ : Mem) => bd (p_X1_placeBits 119 a1 μ) (fun r2 μ1 => some (r2, μ1)), fun _ _ => rfl⟩
noncomputable def p_X11_place : Int32 → Mem → Option (Int32 × Mem) := Classical.choose p_X11_place_ex
theorem p_X11_place_eq (a1 : Int32) (μ : Mem) : p_X11_place a1 μ = bd (p_X1_placeBits 119 a1 μ) (fun r2 μ1 => some (r2, μ1)) := Classical.choose_spec p_X11_place_ex a1 μ
set_option maxHeartbeats 4000000 in
set_option maxRecDepth 100000 in
theorem t_X11_place (l : Launch) (G : Gt) (ad : Nat → Nat) (a1 : Int32) (μ : Mem) {r : Int32} {μz : Mem} (h : p_X11_place a1 μ = some (r, μz)) : Mt l yX11_place cX11_place 2 (some .int) ({ frames := 1, cells := 0, slots := 0, locals := 21 } : Room) G [.ref (ad 0), .int a1] (wd 0 G ad μ) (eI 0 G ad r μz) := by
  refine Bk.mt (by decide) rfl (Nat.le_of_ble_eq_true rfl) ?_
  intro p e s m below meth c A ls H locs cx hr hlk hA hl hw
  have hx := cx.1
  have hb := cx.2.1
  have hl : lv_has ls 2 [(0, .ref (ad 0)), (1, .int a1)] := hl
  rw [p_X11_place_eq] at h
  refine lv_aload_n hx hb dX11_place_0 rfl (lv_at hl 0 rfl) ?_
  refine g_get cx hw inX11 (ci := 10) rfl 15 (by decide) rfl (v := .ref (ad 119)) shx_0 rfl fl_X11_74 dX11_place_1 ?_
  refine lv_iload_n hx hb dX11_place_4 rfl (lv_at hl 1 rfl) ?_
  obtain ⟨r2, μ1, gr2, h⟩ := bd_some h
  refine g_callVI (As := [.int a1]) (rest := []) cx hw hA (t_X1_placeBits l G ad 119 shx_119 a1 μ gr2) shx_119 rfl ml_X11_230 im_X1_placeBits se_X1_placeBits in_X1 co_X1_placeBits rfl hd_X1_placeBits rfl ⟨(Nat.le_of_ble_eq_true rfl), (Nat.le_of_ble_eq_true rfl)⟩ hl.1 rfl (Nat.le_of_ble_eq_true rfl) dX11_place_5 ⟨rfl, rfl⟩ (fun H locs hw => ?_)
  exact g_iret cx hr hlk hw h dX11_place_8

theorem p_X9_add_ex : ∃ f : Int32 → Mem → Option Mem, ∀ (a1 : Int32) (μ : Mem), f a1 μ = (if (40000 : Int32) ≤ (μ.1 159 1) then some μ else gd (inb (μ.1 159 1) 40000) (bv (sF μ 160 (μ.1 159 1).toNatClampNeg (vp_nar .byte (a1.toInt8.toInt32))) (fun μ2 => bv (sF μ2 159 1 ((μ2.1 159 1) + (1 : Int32))) (fun μ3 => some μ3)))) := ⟨fun (a1 : Int32) (μ : Mem) => (if (40000 : Int32) ≤ (μ.1 159 1) then some μ else gd (inb (μ.1 159 1) 40000) (bv (sF μ 160 (μ.1 159 1).toNatClampNeg (vp_nar .byte (a1.toInt8.toInt32))) (fun μ2 => bv (sF μ2 159 1 ((μ2.1 159 1) + (1 : Int32))) (fun μ3 => some μ3)))), fun _ _ => rfl⟩
noncomputable def p_X9_add : Int32 → Mem → Option Mem := Classical.choose p_X9_add_ex
theorem p_X9_add_eq (a1 : Int32) (μ : Mem) : p_X9_add a1 μ = (if (40000 : Int32) ≤ (μ.1 159 1) then some μ else gd (inb (μ.1 159 1) 40000) (bv (sF μ 160 (μ.1 159 1).toNatClampNeg (vp_nar .byte (a1.toInt8.toInt32))) (fun μ2 => bv (sF μ2 159 1 ((μ2.1 159 1) + (1 : Int32))) (fun μ3 => some μ3)))) := Classical.choose_spec p_X9_add_ex a1 μ
set_option maxHeartbeats 4000000 in
set_option maxRecDepth 100000 in
theorem t_X9_add (l : Launch) (G : Gt) (ad : Nat → Nat) (a1 : Int32) (μ : Mem) {μz : Mem} (h : p_X9_add a1 μ = some μz) : Mt l yX9_add cX9_add 2 none ({ frames := 0, cells := 0, slots := 0, locals := 0 } : Room) G [.ref (ad 159), .int a1] (wd 0 G ad μ) (eV 0 G ad μz) := by
  refine Bk.mt (by decide) rfl (Nat.le_of_ble_eq_true rfl) ?_
  intro p e s m below meth c A ls H locs cx hr hlk hA hl hw
  have hx := cx.1
  have hb := cx.2.1
  have hl : lv_has ls 2 [(0, .ref (ad 159)), (1, .int a1)] := hl
  rw [p_X9_add_eq] at h
  refine lv_aload_n hx hb dX9_add_0 rfl (lv_at hl 0 rfl) ?_
  refine g_get cx hw inX9 (ci := 8) rfl 1 (by decide) rfl (v := .int (μ.1 159 1)) shx_159 rfl fl_X9_16 dX9_add_1 ?_
  refine lv_ldc hx hb cx.2.2.2.1 (cx.2.2.2.2.1 _ cs_X9_11) dX9_add_4 ?_
  refine lv_icmp_ge (tgt := 30) hx hb dX9_add_6 (by decide) (fun c1 => ?_) (fun c1 => ?_)
  · rw [if_pos c1] at h
    exact g_vret cx hr hlk hw h dX9_add_30
  · rw [if_neg c1] at h
    refine lv_aload_n hx hb dX9_add_9 rfl (lv_at hl 0 rfl) ?_
    refine g_get cx hw inX9 (ci := 8) rfl 0 (by decide) rfl (v := .ref (ad 160)) shx_159 rfl fl_X9_12 dX9_add_10 ?_
    refine lv_aload_n hx hb dX9_add_13 rfl (lv_at hl 0 rfl) ?_
    refine g_get cx hw inX9 (ci := 8) rfl 1 (by decide) rfl (v := .int (μ.1 159 1)) shx_159 rfl fl_X9_16 dX9_add_14 ?_
    refine lv_iload_n hx hb dX9_add_17 rfl (lv_at hl 1 rfl) ?_
    refine lv_i2b hx hb dX9_add_18 rfl ?_
    refine g_bast cx hw shx_160 h dX9_add_19 (fun μ2 H locs h hw => ?_)
    refine lv_aload_n hx hb dX9_add_20 rfl (lv_at hl 0 rfl) ?_
    refine lv_dup hx hb dX9_add_21 rfl ?_
    refine g_get cx hw inX9 (ci := 8) rfl 1 (by decide) rfl (v := .int (μ2.1 159 1)) shx_159 rfl fl_X9_16 dX9_add_22 ?_
    refine lv_iconst (v := 1) hx hb dX9_add_25 (by decide) ?_
    refine lv_iadd hx hb dX9_add_26 ?_
    refine g_put cx hw inX9 (ci := 8) rfl tyX9_ok nmX9 1 (by decide) rfl rfl rfl rfl shx_159 h fl_X9_16 dX9_add_27 (fun μ3 H locs h hw => ?_)
    exact g_vret cx hr hlk hw h dX9_add_30

theorem p_X9_addInt_b59_ex : ∃ f : Nat → Int64 → Int64 → Int32 → Mem → Option Mem, (∀ (a2 : Int64) (a4 : Int64) (a6 : Int32) (μ : Mem), f  0 a2 a4 a6 μ = none) ∧ (∀ (n : Nat) (a2 : Int64) (a4 : Int64) (a6 : Int32) (μ : Mem), f  (n + 1) a2 a4 a6 μ = (if (10 : Int32) < a6 then some μ else (if (lg_cmp a4 (0 : Int64)) ≤ (0 : Int32) then some μ else gd (!(a4 == 0)) (bw (p_X9_add ((48 : Int32) + (((a2 / a4) - (a2 / a4) / (10 : Int64) * (10 : Int64)).toInt32)) μ) (fun μ7 => bv (a4 / (10 : Int64)) (fun v9 => bv (a6 + 1) (fun v10 => f n a2 v9 v10 μ7))))))) := ⟨fun n => Nat.rec (fun (a2 : Int64) (a4 : Int64) (a6 : Int32) (μ : Mem) => none) (fun _ ih => fun (a2 : Int64) (a4 : Int64) (a6 : Int32) (μ : Mem) => (if (10 : Int32) < a6 then some μ else (if (lg_cmp a4 (0 : Int64)) ≤ (0 : Int32) then some μ else gd (!(a4 == 0)) (bw (p_X9_add ((48 : Int32) + (((a2 / a4) - (a2 / a4) / (10 : Int64) * (10 : Int64)).toInt32)) μ) (fun μ7 => bv (a4 / (10 : Int64)) (fun v9 => bv (a6 + 1) (fun v10 => ih a2 v9 v10 μ7))))))) n, fun  _ _ _ _ => rfl, fun  _ _ _ _ _ => rfl⟩
noncomputable def p_X9_addInt_b59 : Nat → Int64 → Int64 → Int32 → Mem → Option Mem := Classical.choose p_X9_addInt_b59_ex
theorem p_X9_addInt_b59_z (a2 : Int64) (a4 : Int64) (a6 : Int32) (μ : Mem) : p_X9_addInt_b59  0 a2 a4 a6 μ = none := (Classical.choose_spec p_X9_addInt_b59_ex).1  a2 a4 a6 μ
theorem p_X9_addInt_b59_s (n : Nat) (a2 : Int64) (a4 : Int64) (a6 : Int32) (μ : Mem) : p_X9_addInt_b59  (n + 1) a2 a4 a6 μ = (if (10 : Int32) < a6 then some μ else (if (lg_cmp a4 (0 : Int64)) ≤ (0 : Int32) then some μ else gd (!(a4 == 0)) (bw (p_X9_add ((48 : Int32) + (((a2 / a4) - (a2 / a4) / (10 : Int64) * (10 : Int64)).toInt32)) μ) (fun μ7 => bv (a4 / (10 : Int64)) (fun v9 => bv (a6 + 1) (fun v10 => p_X9_addInt_b59  n a2 v9 v10 μ7)))))) := (Classical.choose_spec p_X9_addInt_b59_ex).2  n a2 a4 a6 μ
set_option maxHeartbeats 4000000 in
set_option maxRecDepth 100000 in
theorem t_X9_addInt_b59 (l : Launch) (G : Gt) (ad : Nat → Nat) (av : List Value) {μz : Mem} : ∀ (n : Nat) (a2 : Int64) (a4 : Int64) (a6 : Int32) (μ : Mem), p_X9_addInt_b59  n a2 a4 a6 μ = some μz → Bk l cX9_addInt 7 RX9 none ({ frames := 1, cells := 0, slots := 0, locals := 21 } : Room) G av (eV 0 G ad μz) (wd 0 G ad μ) 59 [(0, .ref (ad 159)), (2, .long a2), (4, .long a4), (6, .int a6)] [] := by
  intro n
  induction n with
  | zero => intro a2 a4 a6 μ h; rw [p_X9_addInt_b59_z] at h; cases h
  | succ n ih =>
    intro a2 a4 a6 μ h p e s m below meth c A ls H locs cx hr hlk hA hl hw
    have hx := cx.1
    have hb := cx.2.1
    rw [p_X9_addInt_b59_s] at h
    refine lv_iload hx hb dX9_addInt_59 (lv_at hl 3 rfl) ?_
    refine lv_bipush (v := 10) hx hb dX9_addInt_61 (by decide) ?_
    refine lv_icmp_gt (tgt := 103) hx hb dX9_addInt_63 (by decide) (fun c4 => ?_) (fun c4 => ?_)
    · rw [if_pos c4] at h
      exact g_vret cx hr hlk hw h dX9_addInt_103
    · rw [if_neg c4] at h
      refine lv_lload hx hb dX9_addInt_66 (lv_at hl 2 rfl) ?_
      refine lv_lconst (v := 0) hx hb dX9_addInt_68 (by decide) ?_
      refine W.lcmp hx hb dX9_addInt_69 ?_
      refine lv_if_le (tgt := 103) hx hb dX9_addInt_70 (by decide) (fun c5 => ?_) (fun c5 => ?_)
      · rw [if_pos c5] at h
        exact g_vret cx hr hlk hw h dX9_addInt_103
      · rw [if_neg c5] at h
        refine lv_aload_n hx hb dX9_addInt_73 rfl (lv_at hl 0 rfl) ?_
        refine lv_bipush (v := 48) hx hb dX9_addInt_74 (by decide) ?_
        refine lv_lload_n hx hb dX9_addInt_76 rfl (lv_at hl 1 rfl) ?_
        refine lv_lload hx hb dX9_addInt_77 (lv_at hl 2 rfl) ?_
        obtain ⟨c6, h⟩ := gd_some h
        refine lv_ldiv hx hb dX9_addInt_79 (nz_of c6) ?_
        refine lv_ldc2 hx hb cx.2.2.2.1 (cx.2.2.2.2.1 _ cs_X9_46) dX9_addInt_80 ?_
        refine lv_lrem hx hb dX9_addInt_83 (by decide) ?_
        refine lv_l2i hx hb dX9_addInt_84 rfl ?_
        refine lv_iadd hx hb dX9_addInt_85 ?_
        obtain ⟨μ7, gμ7, h⟩ := bw_some h
        refine g_callVV (As := [.int ((48 : Int32) + (((a2 / a4) - (a2 / a4) / (10 : Int64) * (10 : Int64)).toInt32))]) (rest := []) cx hw hA (t_X9_add l G ad ((48 : Int32) + (((a2 / a4) - (a2 / a4) / (10 : Int64) * (10 : Int64)).toInt32)) μ gμ7) shx_159 rfl ml_X9_34 im_X9_add se_X9_add in_X9 co_X9_add rfl hd_X9_add rfl ⟨(Nat.le_of_ble_eq_true rfl), (Nat.le_of_ble_eq_true rfl)⟩ hl.1 rfl (Nat.le_of_ble_eq_true rfl) dX9_addInt_86 ⟨rfl, rfl⟩ (fun H locs hw => ?_)
        refine lv_lload hx hb dX9_addInt_89 (lv_at hl 2 rfl) ?_
        refine lv_ldc2 hx hb cx.2.2.2.1 (cx.2.2.2.2.1 _ cs_X9_46) dX9_addInt_91 ?_
        refine lv_ldiv hx hb dX9_addInt_94 (by decide) ?_
        obtain ⟨v9, ev9, h⟩ := bv_ex h
        refine lv_topl (fun y9 z9 => ?_)
        obtain rfl : v9 = y9 := ev9.trans z9.symm
        refine lv_lstore (lv' := [(4, .long v9), (0, .ref (ad 159)), (2, .long a2), (6, .int a6)]) hx hb dX9_addInt_95 hl (by decide) rfl (fun ls hl => ?_)
        obtain ⟨v10, ev10, h⟩ := bv_ex h
        refine lv_iinc (v := v10) (lv' := [(6, .int v10), (4, .long v9), (0, .ref (ad 159)), (2, .long a2)]) hx hb dX9_addInt_97 hl (k := 3) rfl (by rw [ev10]; rfl) (by decide) rfl (fun ls hl => ?_)
        refine lv_goto (tgt := 59) hx hb dX9_addInt_100 (by decide) ?_
        exact ih a2 v9 v10 μ7 h p e s m below meth c A ls H locs cx hr hlk hA (lv_sub hl [2, 3, 1, 0] rfl) hw
theorem p_X9_addInt_b56_ex : ∃ f : Int64 → Int64 → Mem → Option Mem, ∀ (a2 : Int64) (a4 : Int64) (μ : Mem), f a2 a4 μ = p_X9_addInt_b59  FUEL a2 a4 (0 : Int32) μ := ⟨fun (a2 : Int64) (a4 : Int64) (μ : Mem) => p_X9_addInt_b59  FUEL a2 a4 (0 : Int32) μ, fun _ _ _ => rfl⟩
noncomputable def p_X9_addInt_b56 : Int64 → Int64 → Mem → Option Mem := Classical.choose p_X9_addInt_b56_ex
theorem p_X9_addInt_b56_eq (a2 : Int64) (a4 : Int64) (μ : Mem) : p_X9_addInt_b56 a2 a4 μ = p_X9_addInt_b59  FUEL a2 a4 (0 : Int32) μ := Classical.choose_spec p_X9_addInt_b56_ex a2 a4 μ
set_option maxHeartbeats 4000000 in
set_option maxRecDepth 100000 in
theorem t_X9_addInt_b56 (l : Launch) (G : Gt) (ad : Nat → Nat) (av : List Value) {μz : Mem} (a2 : Int64) (a4 : Int64) (μ : Mem) (h : p_X9_addInt_b56  a2 a4 μ = some μz) : Bk l cX9_addInt 7 RX9 none ({ frames := 1, cells := 0, slots := 0, locals := 21 } : Room) G av (eV 0 G ad μz) (wd 0 G ad μ) 56 [(0, .ref (ad 159)), (2, .long a2), (4, .long a4)] [] := by
  intro p e s m below meth c A ls H locs cx hr hlk hA hl hw
  have hx := cx.1
  have hb := cx.2.1
  rw [p_X9_addInt_b56_eq] at h
  refine lv_iconst (v := 0) hx hb dX9_addInt_56 (by decide) ?_
  refine lv_istore (lv' := [(6, .int 0), (0, .ref (ad 159)), (2, .long a2), (4, .long a4)]) hx hb dX9_addInt_57 hl (by decide) rfl (fun ls hl => ?_)
  exact t_X9_addInt_b59 l G ad av  FUEL a2 a4 (0 : Int32) μ h p e s m below meth c A ls H locs cx hr hlk hA (lv_sub hl [1, 2, 3, 0] rfl) hw
theorem p_X9_addInt_b24_ex : ∃ f : Nat → Int64 → Int64 → Int32 → Mem → Option Mem, (∀ (a2 : Int64) (a4 : Int64) (a6 : Int32) (μ : Mem), f  0 a2 a4 a6 μ = none) ∧ (∀ (n : Nat) (a2 : Int64) (a4 : Int64) (a6 : Int32) (μ : Mem), f  (n + 1) a2 a4 a6 μ = (if (10 : Int32) ≤ a6 then p_X9_addInt_b56  a2 a4 μ else (if (0 : Int32) < (lg_cmp (a4 * (10 : Int64)) a2) then p_X9_addInt_b56  a2 a4 μ else bv (a4 * (10 : Int64)) (fun v12 => bv (a6 + 1) (fun v13 => f n a2 v12 v13 μ))))) := ⟨fun n => Nat.rec (fun (a2 : Int64) (a4 : Int64) (a6 : Int32) (μ : Mem) => none) (fun _ ih => fun (a2 : Int64) (a4 : Int64) (a6 : Int32) (μ : Mem) => (if (10 : Int32) ≤ a6 then p_X9_addInt_b56  a2 a4 μ else (if (0 : Int32) < (lg_cmp (a4 * (10 : Int64)) a2) then p_X9_addInt_b56  a2 a4 μ else bv (a4 * (10 : Int64)) (fun v12 => bv (a6 + 1) (fun v13 => ih a2 v12 v13 μ))))) n, fun  _ _ _ _ => rfl, fun  _ _ _ _ _ => rfl⟩
noncomputable def p_X9_addInt_b24 : Nat → Int64 → Int64 → Int32 → Mem → Option Mem := Classical.choose p_X9_addInt_b24_ex
theorem p_X9_addInt_b24_z (a2 : Int64) (a4 : Int64) (a6 : Int32) (μ : Mem) : p_X9_addInt_b24  0 a2 a4 a6 μ = none := (Classical.choose_spec p_X9_addInt_b24_ex).1  a2 a4 a6 μ
theorem p_X9_addInt_b24_s (n : Nat) (a2 : Int64) (a4 : Int64) (a6 : Int32) (μ : Mem) : p_X9_addInt_b24  (n + 1) a2 a4 a6 μ = (if (10 : Int32) ≤ a6 then p_X9_addInt_b56  a2 a4 μ else (if (0 : Int32) < (lg_cmp (a4 * (10 : Int64)) a2) then p_X9_addInt_b56  a2 a4 μ else bv (a4 * (10 : Int64)) (fun v12 => bv (a6 + 1) (fun v13 => p_X9_addInt_b24  n a2 v12 v13 μ)))) := (Classical.choose_spec p_X9_addInt_b24_ex).2  n a2 a4 a6 μ
set_option maxHeartbeats 4000000 in
set_option maxRecDepth 100000 in
theorem t_X9_addInt_b24 (l : Launch) (G : Gt) (ad : Nat → Nat) (av : List Value) {μz : Mem} : ∀ (n : Nat) (a2 : Int64) (a4 : Int64) (a6 : Int32) (μ : Mem), p_X9_addInt_b24  n a2 a4 a6 μ = some μz → Bk l cX9_addInt 7 RX9 none ({ frames := 1, cells := 0, slots := 0, locals := 21 } : Room) G av (eV 0 G ad μz) (wd 0 G ad μ) 24 [(0, .ref (ad 159)), (2, .long a2), (4, .long a4), (6, .int a6)] [] := by
  intro n
  induction n with
  | zero => intro a2 a4 a6 μ h; rw [p_X9_addInt_b24_z] at h; cases h
  | succ n ih =>
    intro a2 a4 a6 μ h p e s m below meth c A ls H locs cx hr hlk hA hl hw
    have hx := cx.1
    have hb := cx.2.1
    rw [p_X9_addInt_b24_s] at h
    refine lv_iload hx hb dX9_addInt_24 (lv_at hl 3 rfl) ?_
    refine lv_bipush (v := 10) hx hb dX9_addInt_26 (by decide) ?_
    refine lv_icmp_ge (tgt := 56) hx hb dX9_addInt_28 (by decide) (fun c3 => ?_) (fun c3 => ?_)
    · rw [if_pos c3] at h
      exact t_X9_addInt_b56 l G ad av  a2 a4 μ h p e s m below meth c A ls H locs cx hr hlk hA (lv_sub hl [0, 1, 2] rfl) hw
    · rw [if_neg c3] at h
      refine lv_lload hx hb dX9_addInt_31 (lv_at hl 2 rfl) ?_
      refine lv_ldc2 hx hb cx.2.2.2.1 (cx.2.2.2.2.1 _ cs_X9_46) dX9_addInt_33 ?_
      refine lv_lmul hx hb dX9_addInt_36 ?_
      refine lv_lload_n hx hb dX9_addInt_37 rfl (lv_at hl 1 rfl) ?_
      refine W.lcmp hx hb dX9_addInt_38 ?_
      refine lv_if_gt (tgt := 56) hx hb dX9_addInt_39 (by decide) (fun c11 => ?_) (fun c11 => ?_)
      · rw [if_pos c11] at h
        exact t_X9_addInt_b56 l G ad av  a2 a4 μ h p e s m below meth c A ls H locs cx hr hlk hA (lv_sub hl [0, 1, 2] rfl) hw
      · rw [if_neg c11] at h
        refine lv_lload hx hb dX9_addInt_42 (lv_at hl 2 rfl) ?_
        refine lv_ldc2 hx hb cx.2.2.2.1 (cx.2.2.2.2.1 _ cs_X9_46) dX9_addInt_44 ?_
        refine lv_lmul hx hb dX9_addInt_47 ?_
        obtain ⟨v12, ev12, h⟩ := bv_ex h
        refine lv_topl (fun y9 z9 => ?_)
        obtain rfl : v12 = y9 := ev12.trans z9.symm
        refine lv_lstore (lv' := [(4, .long v12), (0, .ref (ad 159)), (2, .long a2), (6, .int a6)]) hx hb dX9_addInt_48 hl (by decide) rfl (fun ls hl => ?_)
        obtain ⟨v13, ev13, h⟩ := bv_ex h
        refine lv_iinc (v := v13) (lv' := [(6, .int v13), (4, .long v12), (0, .ref (ad 159)), (2, .long a2)]) hx hb dX9_addInt_50 hl (k := 3) rfl (by rw [ev13]; rfl) (by decide) rfl (fun ls hl => ?_)
        refine lv_goto (tgt := 24) hx hb dX9_addInt_53 (by decide) ?_
        exact ih a2 v12 v13 μ h p e s m below meth c A ls H locs cx hr hlk hA (lv_sub hl [2, 3, 1, 0] rfl) hw
theorem p_X9_addInt_b18_ex : ∃ f : Int64 → Mem → Option Mem, ∀ (a2 : Int64) (μ : Mem), f a2 μ = p_X9_addInt_b24  FUEL a2 (1 : Int64) (0 : Int32) μ := ⟨fun (a2 : Int64) (μ : Mem) => p_X9_addInt_b24  FUEL a2 (1 : Int64) (0 : Int32) μ, fun _ _ => rfl⟩
noncomputable def p_X9_addInt_b18 : Int64 → Mem → Option Mem := Classical.choose p_X9_addInt_b18_ex
theorem p_X9_addInt_b18_eq (a2 : Int64) (μ : Mem) : p_X9_addInt_b18 a2 μ = p_X9_addInt_b24  FUEL a2 (1 : Int64) (0 : Int32) μ := Classical.choose_spec p_X9_addInt_b18_ex a2 μ
set_option maxHeartbeats 4000000 in
set_option maxRecDepth 100000 in
theorem t_X9_addInt_b18 (l : Launch) (G : Gt) (ad : Nat → Nat) (av : List Value) {μz : Mem} (a2 : Int64) (μ : Mem) (h : p_X9_addInt_b18  a2 μ = some μz) : Bk l cX9_addInt 7 RX9 none ({ frames := 1, cells := 0, slots := 0, locals := 21 } : Room) G av (eV 0 G ad μz) (wd 0 G ad μ) 18 [(0, .ref (ad 159)), (2, .long a2)] [] := by
  intro p e s m below meth c A ls H locs cx hr hlk hA hl hw
  have hx := cx.1
  have hb := cx.2.1
  rw [p_X9_addInt_b18_eq] at h
  refine lv_lconst (v := 1) hx hb dX9_addInt_18 (by decide) ?_
  refine lv_lstore (lv' := [(4, .long 1), (0, .ref (ad 159)), (2, .long a2)]) hx hb dX9_addInt_19 hl (by decide) rfl (fun ls hl => ?_)
  refine lv_iconst (v := 0) hx hb dX9_addInt_21 (by decide) ?_
  refine lv_istore (lv' := [(6, .int 0), (4, .long 1), (0, .ref (ad 159)), (2, .long a2)]) hx hb dX9_addInt_22 hl (by decide) rfl (fun ls hl => ?_)
  exact t_X9_addInt_b24 l G ad av  FUEL a2 (1 : Int64) (0 : Int32) μ h p e s m below meth c A ls H locs cx hr hlk hA (lv_sub hl [2, 3, 1, 0] rfl) hw
theorem p_X9_addInt_ex : ∃ f : Int32 → Mem → Option Mem, ∀ (a1 : Int32) (μ : Mem), f a1 μ = bv (a1.toInt64) (fun v1 => (if (0 : Int32) ≤ (lg_cmp v1 (0 : Int64)) then p_X9_addInt_b18  v1 μ else bw (p_X9_add (45 : Int32) μ) (fun μ14 => bv (-v1) (fun v16 => p_X9_addInt_b18  v16 μ14)))) := ⟨fun (a1 : Int32) (μ : Mem) => bv (a1.toInt64) (fun v1 => (if (0 : Int32) ≤ (lg_cmp v1 (0 : Int64)) then p_X9_addInt_b18  v1 μ else bw (p_X9_add (45 : Int32) μ) (fun μ14 => bv (-v1) (fun v16 => p_X9_addInt_b18  v16 μ14)))), fun _ _ => rfl⟩
noncomputable def p_X9_addInt : Int32 → Mem → Option Mem := Classical.choose p_X9_addInt_ex
theorem p_X9_addInt_eq (a1 : Int32) (μ : Mem) : p_X9_addInt a1 μ = bv (a1.toInt64) (fun v1 => (if (0 : Int32) ≤ (lg_cmp v1 (0 : Int64)) then p_X9_addInt_b18  v1 μ else bw (p_X9_add (45 : Int32) μ) (fun μ14 => bv (-v1) (fun v16 => p_X9_addInt_b18  v16 μ14)))) := Classical.choose_spec p_X9_addInt_ex a1 μ
set_option maxHeartbeats 4000000 in
set_option maxRecDepth 100000 in
theorem t_X9_addInt (l : Launch) (G : Gt) (ad : Nat → Nat) (a1 : Int32) (μ : Mem) {μz : Mem} (h : p_X9_addInt a1 μ = some μz) : Mt l yX9_addInt cX9_addInt 7 none ({ frames := 1, cells := 0, slots := 0, locals := 21 } : Room) G [.ref (ad 159), .int a1] (wd 0 G ad μ) (eV 0 G ad μz) := by
  refine Bk.mt (by decide) rfl (Nat.le_of_ble_eq_true rfl) ?_
  intro p e s m below meth c A ls H locs cx hr hlk hA hl hw
  have hx := cx.1
  have hb := cx.2.1
  have hl : lv_has ls 7 [(0, .ref (ad 159)), (1, .int a1)] := hl
  rw [p_X9_addInt_eq] at h
  refine lv_iload_n hx hb dX9_addInt_0 rfl (lv_at hl 1 rfl) ?_
  refine lv_i2l hx hb dX9_addInt_1 rfl ?_
  obtain ⟨v1, ev1, h⟩ := bv_ex h
  refine lv_topl (fun y9 z9 => ?_)
  obtain rfl : v1 = y9 := ev1.trans z9.symm
  refine lv_lstore_n (lv' := [(2, .long v1), (0, .ref (ad 159)), (1, .int a1)]) hx hb dX9_addInt_2 rfl hl (by decide) rfl (fun ls hl => ?_)
  refine lv_lload_n hx hb dX9_addInt_3 rfl (lv_at hl 0 rfl) ?_
  refine lv_lconst (v := 0) hx hb dX9_addInt_4 (by decide) ?_
  refine W.lcmp hx hb dX9_addInt_5 ?_
  refine lv_if_ge (tgt := 18) hx hb dX9_addInt_6 (by decide) (fun c2 => ?_) (fun c2 => ?_)
  · rw [if_pos c2] at h
    exact t_X9_addInt_b18 l G ad _  v1 μ h p e s m below meth c A ls H locs cx hr hlk hA (lv_sub hl [1, 0] rfl) hw
  · rw [if_neg c2] at h
    refine lv_aload_n hx hb dX9_addInt_9 rfl (lv_at hl 1 rfl) ?_
    refine lv_bipush (v := 45) hx hb dX9_addInt_10 (by decide) ?_
    obtain ⟨μ14, gμ14, h⟩ := bw_some h
    refine g_callVV (As := [.int 45]) (rest := []) cx hw hA (t_X9_add l G ad (45 : Int32) μ gμ14) shx_159 rfl ml_X9_34 im_X9_add se_X9_add in_X9 co_X9_add rfl hd_X9_add rfl ⟨(Nat.le_of_ble_eq_true rfl), (Nat.le_of_ble_eq_true rfl)⟩ hl.1 rfl (Nat.le_of_ble_eq_true rfl) dX9_addInt_12 ⟨rfl, rfl⟩ (fun H locs hw => ?_)
    refine lv_lload_n hx hb dX9_addInt_15 rfl (lv_at hl 0 rfl) ?_
    refine lv_lneg hx hb dX9_addInt_16 ?_
    obtain ⟨v16, ev16, h⟩ := bv_ex h
    refine lv_topl (fun y9 z9 => ?_)
    obtain rfl : v16 = y9 := ev16.trans z9.symm
    refine lv_lstore_n (lv' := [(2, .long v16), (0, .ref (ad 159)), (1, .int a1)]) hx hb dX9_addInt_17 rfl hl (by decide) rfl (fun ls hl => ?_)
    exact t_X9_addInt_b18 l G ad _  v16 μ14 h p e s m below meth c A ls H locs cx hr hlk hA (lv_sub hl [1, 0] rfl) hw

theorem p_X9_addSymbol_ex : ∃ f : Int64 → Mem → Option Mem, ∀ (a1 : Int64) (μ : Mem), f a1 μ = bv (s_X0_kind a1) (fun v1 => (if v1 = (4 : Int32) then bw (p_X9_add (42 : Int32) μ) (fun μ15 => some μ15) else (if v1 = (1 : Int32) then bw (p_X9_add (102 : Int32) μ) (fun μ11 => bw (p_X9_addInt (s_X0_bits a1) μ11) (fun μ13 => some μ13)) else (if v1 = (3 : Int32) then bw (p_X9_add (114 : Int32) μ) (fun μ7 => bw (p_X9_addInt (s_X0_bits a1) μ7) (fun μ9 => some μ9)) else bw (p_X9_addInt (s_X0_bits a1) μ) (fun μ5 => some μ5))))) := ⟨fun (a1 : Int64) (μ : Mem) => bv (s_X0_kind a1) (fun v1 => (if v1 = (4 : Int32) then bw (p_X9_add (42 : Int32) μ) (fun μ15 => some μ15) else (if v1 = (1 : Int32) then bw (p_X9_add (102 : Int32) μ) (fun μ11 => bw (p_X9_addInt (s_X0_bits a1) μ11) (fun μ13 => some μ13)) else (if v1 = (3 : Int32) then bw (p_X9_add (114 : Int32) μ) (fun μ7 => bw (p_X9_addInt (s_X0_bits a1) μ7) (fun μ9 => some μ9)) else bw (p_X9_addInt (s_X0_bits a1) μ) (fun μ5 => some μ5))))), fun _ _ => rfl⟩
noncomputable def p_X9_addSymbol : Int64 → Mem → Option Mem := Classical.choose p_X9_addSymbol_ex
theorem p_X9_addSymbol_eq (a1 : Int64) (μ : Mem) : p_X9_addSymbol a1 μ = bv (s_X0_kind a1) (fun v1 => (if v1 = (4 : Int32) then bw (p_X9_add (42 : Int32) μ) (fun μ15 => some μ15) else (if v1 = (1 : Int32) then bw (p_X9_add (102 : Int32) μ) (fun μ11 => bw (p_X9_addInt (s_X0_bits a1) μ11) (fun μ13 => some μ13)) else (if v1 = (3 : Int32) then bw (p_X9_add (114 : Int32) μ) (fun μ7 => bw (p_X9_addInt (s_X0_bits a1) μ7) (fun μ9 => some μ9)) else bw (p_X9_addInt (s_X0_bits a1) μ) (fun μ5 => some μ5))))) := Classical.choose_spec p_X9_addSymbol_ex a1 μ
set_option maxHeartbeats 4000000 in
set_option maxRecDepth 100000 in
theorem t_X9_addSymbol (l : Launch) (G : Gt) (ad : Nat → Nat) (a1 : Int64) (μ : Mem) {μz : Mem} (h : p_X9_addSymbol a1 μ = some μz) : Mt l yX9_addSymbol cX9_addSymbol 4 none ({ frames := 2, cells := 0, slots := 0, locals := 47 } : Room) G [.ref (ad 159), .long a1] (wd 0 G ad μ) (eV 0 G ad μz) := by
  refine Bk.mt (by decide) rfl (Nat.le_of_ble_eq_true rfl) ?_
  intro p e s m below meth c A ls H locs cx hr hlk hA hl hw
  have hx := cx.1
  have hb := cx.2.1
  have hl : lv_has ls 4 [(0, .ref (ad 159)), (1, .long a1)] := hl
  rw [p_X9_addSymbol_eq] at h
  refine lv_lload_n hx hb dX9_addSymbol_0 rfl (lv_at hl 1 rfl) ?_
  refine s_callI (As := [.long a1]) (rest := []) cx hw hA (t_X0_kind l G a1) ml_X9_48 st_X0_kind in_X0 co_X0_kind hd_X0_kind rfl ⟨(Nat.le_of_ble_eq_true rfl), (Nat.le_of_ble_eq_true rfl)⟩ hl.1 rfl (Nat.le_of_ble_eq_true rfl) dX9_addSymbol_1 rfl (fun H locs hw => ?_)
  obtain ⟨v1, ev1, h⟩ := bv_ex h
  refine lv_topi (fun y9 z9 => ?_)
  obtain rfl : v1 = y9 := ev1.trans z9.symm
  refine lv_istore_n (lv' := [(3, .int v1), (0, .ref (ad 159)), (1, .long a1)]) hx hb dX9_addSymbol_4 rfl hl (by decide) rfl (fun ls hl => ?_)
  refine lv_iload_n hx hb dX9_addSymbol_5 rfl (lv_at hl 0 rfl) ?_
  refine lv_iconst (v := 4) hx hb dX9_addSymbol_6 (by decide) ?_
  refine lv_icmp_ne (tgt := 17) hx hb dX9_addSymbol_7 (by decide) (fun c2 => ?_) (fun c2 => ?_)
  · rw [if_neg c2] at h
    refine lv_iload_n hx hb dX9_addSymbol_17 rfl (lv_at hl 0 rfl) ?_
    refine lv_iconst (v := 1) hx hb dX9_addSymbol_18 (by decide) ?_
    refine lv_icmp_ne (tgt := 31) hx hb dX9_addSymbol_19 (by decide) (fun c3 => ?_) (fun c3 => ?_)
    · rw [if_neg c3] at h
      refine lv_iload_n hx hb dX9_addSymbol_31 rfl (lv_at hl 0 rfl) ?_
      refine lv_iconst (v := 3) hx hb dX9_addSymbol_32 (by decide) ?_
      refine lv_icmp_ne (tgt := 42) hx hb dX9_addSymbol_33 (by decide) (fun c4 => ?_) (fun c4 => ?_)
      · rw [if_neg c4] at h
        refine lv_aload_n hx hb dX9_addSymbol_42 rfl (lv_at hl 1 rfl) ?_
        refine lv_lload_n hx hb dX9_addSymbol_43 rfl (lv_at hl 2 rfl) ?_
        refine s_callI (As := [.long a1]) (rest := [.ref (ad 159)]) cx hw hA (t_X0_bits l G a1) ml_X9_54 st_X0_bits in_X0 co_X0_bits hd_X0_bits rfl ⟨(Nat.le_of_ble_eq_true rfl), (Nat.le_of_ble_eq_true rfl)⟩ hl.1 rfl (Nat.le_of_ble_eq_true rfl) dX9_addSymbol_44 rfl (fun H locs hw => ?_)
        obtain ⟨μ5, gμ5, h⟩ := bw_some h
        refine g_callVV (As := [.int (s_X0_bits a1)]) (rest := []) cx hw hA (t_X9_addInt l G ad (s_X0_bits a1) μ gμ5) shx_159 rfl ml_X9_57 im_X9_addInt se_X9_addInt in_X9 co_X9_addInt rfl hd_X9_addInt rfl ⟨(Nat.le_of_ble_eq_true rfl), (Nat.le_of_ble_eq_true rfl)⟩ hl.1 rfl (Nat.le_of_ble_eq_true rfl) dX9_addSymbol_47 ⟨rfl, rfl⟩ (fun H locs hw => ?_)
        exact g_vret cx hr hlk hw h dX9_addSymbol_50
      · rw [if_pos c4] at h
        refine lv_aload_n hx hb dX9_addSymbol_36 rfl (lv_at hl 1 rfl) ?_
        refine lv_bipush (v := 114) hx hb dX9_addSymbol_37 (by decide) ?_
        obtain ⟨μ7, gμ7, h⟩ := bw_some h
        refine g_callVV (As := [.int 114]) (rest := []) cx hw hA (t_X9_add l G ad (114 : Int32) μ gμ7) shx_159 rfl ml_X9_34 im_X9_add se_X9_add in_X9 co_X9_add rfl hd_X9_add rfl ⟨(Nat.le_of_ble_eq_true rfl), (Nat.le_of_ble_eq_true rfl)⟩ hl.1 rfl (Nat.le_of_ble_eq_true rfl) dX9_addSymbol_39 ⟨rfl, rfl⟩ (fun H locs hw => ?_)
        refine lv_aload_n hx hb dX9_addSymbol_42 rfl (lv_at hl 1 rfl) ?_
        refine lv_lload_n hx hb dX9_addSymbol_43 rfl (lv_at hl 2 rfl) ?_
        refine s_callI (As := [.long a1]) (rest := [.ref (ad 159)]) cx hw hA (t_X0_bits l G a1) ml_X9_54 st_X0_bits in_X0 co_X0_bits hd_X0_bits rfl ⟨(Nat.le_of_ble_eq_true rfl), (Nat.le_of_ble_eq_true rfl)⟩ hl.1 rfl (Nat.le_of_ble_eq_true rfl) dX9_addSymbol_44 rfl (fun H locs hw => ?_)
        obtain ⟨μ9, gμ9, h⟩ := bw_some h
        refine g_callVV (As := [.int (s_X0_bits a1)]) (rest := []) cx hw hA (t_X9_addInt l G ad (s_X0_bits a1) μ7 gμ9) shx_159 rfl ml_X9_57 im_X9_addInt se_X9_addInt in_X9 co_X9_addInt rfl hd_X9_addInt rfl ⟨(Nat.le_of_ble_eq_true rfl), (Nat.le_of_ble_eq_true rfl)⟩ hl.1 rfl (Nat.le_of_ble_eq_true rfl) dX9_addSymbol_47 ⟨rfl, rfl⟩ (fun H locs hw => ?_)
        exact g_vret cx hr hlk hw h dX9_addSymbol_50
    · rw [if_pos c3] at h
      refine lv_aload_n hx hb dX9_addSymbol_22 rfl (lv_at hl 1 rfl) ?_
      refine lv_bipush (v := 102) hx hb dX9_addSymbol_23 (by decide) ?_
      obtain ⟨μ11, gμ11, h⟩ := bw_some h
      refine g_callVV (As := [.int 102]) (rest := []) cx hw hA (t_X9_add l G ad (102 : Int32) μ gμ11) shx_159 rfl ml_X9_34 im_X9_add se_X9_add in_X9 co_X9_add rfl hd_X9_add rfl ⟨(Nat.le_of_ble_eq_true rfl), (Nat.le_of_ble_eq_true rfl)⟩ hl.1 rfl (Nat.le_of_ble_eq_true rfl) dX9_addSymbol_25 ⟨rfl, rfl⟩ (fun H locs hw => ?_)
      refine lv_goto (tgt := 42) hx hb dX9_addSymbol_28 (by decide) ?_
      refine lv_aload_n hx hb dX9_addSymbol_42 rfl (lv_at hl 1 rfl) ?_
      refine lv_lload_n hx hb dX9_addSymbol_43 rfl (lv_at hl 2 rfl) ?_
      refine s_callI (As := [.long a1]) (rest := [.ref (ad 159)]) cx hw hA (t_X0_bits l G a1) ml_X9_54 st_X0_bits in_X0 co_X0_bits hd_X0_bits rfl ⟨(Nat.le_of_ble_eq_true rfl), (Nat.le_of_ble_eq_true rfl)⟩ hl.1 rfl (Nat.le_of_ble_eq_true rfl) dX9_addSymbol_44 rfl (fun H locs hw => ?_)
      obtain ⟨μ13, gμ13, h⟩ := bw_some h
      refine g_callVV (As := [.int (s_X0_bits a1)]) (rest := []) cx hw hA (t_X9_addInt l G ad (s_X0_bits a1) μ11 gμ13) shx_159 rfl ml_X9_57 im_X9_addInt se_X9_addInt in_X9 co_X9_addInt rfl hd_X9_addInt rfl ⟨(Nat.le_of_ble_eq_true rfl), (Nat.le_of_ble_eq_true rfl)⟩ hl.1 rfl (Nat.le_of_ble_eq_true rfl) dX9_addSymbol_47 ⟨rfl, rfl⟩ (fun H locs hw => ?_)
      exact g_vret cx hr hlk hw h dX9_addSymbol_50
  · rw [if_pos c2] at h
    refine lv_aload_n hx hb dX9_addSymbol_10 rfl (lv_at hl 1 rfl) ?_
    refine lv_bipush (v := 42) hx hb dX9_addSymbol_11 (by decide) ?_
    obtain ⟨μ15, gμ15, h⟩ := bw_some h
    refine g_callVV (As := [.int 42]) (rest := []) cx hw hA (t_X9_add l G ad (42 : Int32) μ gμ15) shx_159 rfl ml_X9_34 im_X9_add se_X9_add in_X9 co_X9_add rfl hd_X9_add rfl ⟨(Nat.le_of_ble_eq_true rfl), (Nat.le_of_ble_eq_true rfl)⟩ hl.1 rfl (Nat.le_of_ble_eq_true rfl) dX9_addSymbol_13 ⟨rfl, rfl⟩ (fun H locs hw => ?_)
    exact g_vret cx hr hlk hw h dX9_addSymbol_16

theorem p_X9_addPart_ex : ∃ f : (Nat → Int32 → Int32 → Mem → Option (Int32 × Mem)) → Nat → Int32 → Int32 → Mem → Option (Int32 × Mem), ∀ (RE : Nat → Int32 → Int32 → Mem → Option (Int32 × Mem)) (a1 : Nat) (a2 : Int32) (a3 : Int32) (μ : Mem), f  RE a1 a2 a3 μ = (if a2 < (0 : Int32) then some (a2, μ) else (if (μ.1 a1 2) ≤ a2 then some (a2, μ) else (if a3 ≤ (45 : Int32) then gd (inb a2 ((sh 0 (a1 + 1)).2)) ((if (lg_cmp (μ.2.1 (a1 + 1) a2.toNatClampNeg) (8589934592 : Int64)) = (0 : Int32) then bw (p_X9_add (91 : Int32) μ) (fun μ5 => bd (RE a1 (a2 + (1 : Int32)) (a3 + (1 : Int32)) μ5) (fun r8 μ7 => bw (p_X9_add (44 : Int32) μ7) (fun μ9 => bd (RE a1 r8 (a3 + (1 : Int32)) μ9) (fun r12 μ11 => bw (p_X9_add (93 : Int32) μ11) (fun μ13 => some (r12, μ13)))))) else gd (inb a2 ((sh 0 (a1 + 1)).2)) (bw (p_X9_addSymbol (μ.2.1 (a1 + 1) a2.toNatClampNeg) μ) (fun μ15 => some ((a2 + (1 : Int32)), μ15))))) else some (a2, μ)))) := ⟨fun (RE : Nat → Int32 → Int32 → Mem → Option (Int32 × Mem)) (a1 : Nat) (a2 : Int32) (a3 : Int32) (μ : Mem) => (if a2 < (0 : Int32) then some (a2, μ) else (if (μ.1 a1 2) ≤ a2 then some (a2, μ) else (if a3 ≤ (45 : Int32) then gd (inb a2 ((sh 0 (a1 + 1)).2)) ((if (lg_cmp (μ.2.1 (a1 + 1) a2.toNatClampNeg) (8589934592 : Int64)) = (0 : Int32) then bw (p_X9_add (91 : Int32) μ) (fun μ5 => bd (RE a1 (a2 + (1 : Int32)) (a3 + (1 : Int32)) μ5) (fun r8 μ7 => bw (p_X9_add (44 : Int32) μ7) (fun μ9 => bd (RE a1 r8 (a3 + (1 : Int32)) μ9) (fun r12 μ11 => bw (p_X9_add (93 : Int32) μ11) (fun μ13 => some (r12, μ13)))))) else gd (inb a2 ((sh 0 (a1 + 1)).2)) (bw (p_X9_addSymbol (μ.2.1 (a1 + 1) a2.toNatClampNeg) μ) (fun μ15 => some ((a2 + (1 : Int32)), μ15))))) else some (a2, μ)))), fun _ _ _ _ _ => rfl⟩
noncomputable def p_X9_addPart : (Nat → Int32 → Int32 → Mem → Option (Int32 × Mem)) → Nat → Int32 → Int32 → Mem → Option (Int32 × Mem) := Classical.choose p_X9_addPart_ex
theorem p_X9_addPart_eq (RE : Nat → Int32 → Int32 → Mem → Option (Int32 × Mem)) (a1 : Nat) (a2 : Int32) (a3 : Int32) (μ : Mem) : p_X9_addPart  RE a1 a2 a3 μ = (if a2 < (0 : Int32) then some (a2, μ) else (if (μ.1 a1 2) ≤ a2 then some (a2, μ) else (if a3 ≤ (45 : Int32) then gd (inb a2 ((sh 0 (a1 + 1)).2)) ((if (lg_cmp (μ.2.1 (a1 + 1) a2.toNatClampNeg) (8589934592 : Int64)) = (0 : Int32) then bw (p_X9_add (91 : Int32) μ) (fun μ5 => bd (RE a1 (a2 + (1 : Int32)) (a3 + (1 : Int32)) μ5) (fun r8 μ7 => bw (p_X9_add (44 : Int32) μ7) (fun μ9 => bd (RE a1 r8 (a3 + (1 : Int32)) μ9) (fun r12 μ11 => bw (p_X9_add (93 : Int32) μ11) (fun μ13 => some (r12, μ13)))))) else gd (inb a2 ((sh 0 (a1 + 1)).2)) (bw (p_X9_addSymbol (μ.2.1 (a1 + 1) a2.toNatClampNeg) μ) (fun μ15 => some ((a2 + (1 : Int32)), μ15))))) else some (a2, μ)))) := Classical.choose_spec p_X9_addPart_ex  RE a1 a2 a3 μ
set_option maxHeartbeats 4000000 in
set_option maxRecDepth 100000 in
theorem t_X9_addPart (l : Launch) (G : Gt) (ad : Nat → Nat) {fE lE : Nat} (RE : Nat → Int32 → Int32 → Mem → Option (Int32 × Mem)) (hRE : ∀ (z1 : Nat) (w1 : sh 0 z1 = (0, 1)) (z2 : Int32) (z3 : Int32) (μ1 : Mem) (r2 : Int32) (μ2 : Mem), RE z1 z2 z3 μ1 = some (r2, μ2) → Mt l yX9_addPart cX9_addPart 6 (some .int) ({ frames := fE, cells := 0, slots := 0, locals := lE } : Room) G [.ref (ad 159), .ref (ad z1), .int z2, .int z3] (wd 0 G ad μ1) (eI 0 G ad r2 μ2)) (a1 : Nat) (q1 : sh 0 a1 = (0, 1)) (a2 : Int32) (a3 : Int32) (μ : Mem) {r : Int32} {μz : Mem} (h : p_X9_addPart RE a1 a2 a3 μ = some (r, μz)) : Mt l yX9_addPart cX9_addPart 6 (some .int) ({ frames := fE + 3, cells := 0, slots := 0, locals := lE + 70 } : Room) G [.ref (ad 159), .ref (ad a1), .int a2, .int a3] (wd 0 G ad μ) (eI 0 G ad r μz) := by
  refine Bk.mt (by decide) rfl (Nat.le_of_ble_eq_true rfl) ?_
  intro p e s m below meth c A ls H locs cx hr hlk hA hl hw
  have hx := cx.1
  have hb := cx.2.1
  have hl : lv_has ls 6 [(0, .ref (ad 159)), (1, .ref (ad a1)), (2, .int a2), (3, .int a3)] := hl
  rw [p_X9_addPart_eq] at h
  refine lv_iload_n hx hb dX9_addPart_0 rfl (lv_at hl 2 rfl) ?_
  refine lv_if_lt (tgt := 18) hx hb dX9_addPart_1 (by decide) (fun c1 => ?_) (fun c1 => ?_)
  · rw [if_pos c1] at h
    refine lv_iload_n hx hb dX9_addPart_18 rfl (lv_at hl 2 rfl) ?_
    exact g_iret cx hr hlk hw h dX9_addPart_19
  · rw [if_neg c1] at h
    refine lv_iload_n hx hb dX9_addPart_4 rfl (lv_at hl 2 rfl) ?_
    refine lv_aload_n hx hb dX9_addPart_5 rfl (lv_at hl 1 rfl) ?_
    refine g_get cx hw inX2 (ci := 1) rfl 2 (by decide) rfl (v := .int (μ.1 a1 2)) q1 rfl fl_X9_65 dX9_addPart_6 ?_
    refine lv_icmp_ge (tgt := 18) hx hb dX9_addPart_9 (by decide) (fun c2 => ?_) (fun c2 => ?_)
    · rw [if_pos c2] at h
      refine lv_iload_n hx hb dX9_addPart_18 rfl (lv_at hl 2 rfl) ?_
      exact g_iret cx hr hlk hw h dX9_addPart_19
    · rw [if_neg c2] at h
      refine lv_iload_n hx hb dX9_addPart_12 rfl (lv_at hl 3 rfl) ?_
      refine lv_bipush (v := 45) hx hb dX9_addPart_13 (by decide) ?_
      refine lv_icmp_le (tgt := 20) hx hb dX9_addPart_15 (by decide) (fun c3 => ?_) (fun c3 => ?_)
      · rw [if_pos c3] at h
        refine lv_aload_n hx hb dX9_addPart_20 rfl (lv_at hl 1 rfl) ?_
        refine g_get cx hw inX2 (ci := 1) rfl 0 (by decide) rfl (v := .ref (ad (a1 + 1))) q1 rfl fl_X9_71 dX9_addPart_21 ?_
        refine lv_iload_n hx hb dX9_addPart_24 rfl (lv_at hl 2 rfl) ?_
        refine g_lald cx hw (rl_X2_0 q1) h dX9_addPart_25 (fun h => ?_)
        refine lv_ldc2 hx hb cx.2.2.2.1 (cx.2.2.2.2.1 _ cs_X9_75) dX9_addPart_26 ?_
        refine W.lcmp hx hb dX9_addPart_29 ?_
        refine lv_if_eq (tgt := 47) hx hb dX9_addPart_30 (by decide) (fun c4 => ?_) (fun c4 => ?_)
        · rw [if_pos c4] at h
          refine lv_aload_n hx hb dX9_addPart_47 rfl (lv_at hl 0 rfl) ?_
          refine lv_bipush (v := 91) hx hb dX9_addPart_48 (by decide) ?_
          obtain ⟨μ5, gμ5, h⟩ := bw_some h
          refine g_callVV (As := [.int 91]) (rest := []) cx hw hA (t_X9_add l G ad (91 : Int32) μ gμ5) shx_159 rfl ml_X9_34 im_X9_add se_X9_add in_X9 co_X9_add rfl hd_X9_add rfl ⟨(by dsimp only; omega), (by dsimp only; omega)⟩ hl.1 rfl (Nat.le_of_ble_eq_true rfl) dX9_addPart_50 ⟨rfl, rfl⟩ (fun H locs hw => ?_)
          refine lv_aload_n hx hb dX9_addPart_53 rfl (lv_at hl 0 rfl) ?_
          refine lv_aload_n hx hb dX9_addPart_54 rfl (lv_at hl 1 rfl) ?_
          refine lv_iload_n hx hb dX9_addPart_55 rfl (lv_at hl 2 rfl) ?_
          refine lv_iconst (v := 1) hx hb dX9_addPart_56 (by decide) ?_
          refine lv_iadd hx hb dX9_addPart_57 ?_
          refine lv_iload_n hx hb dX9_addPart_58 rfl (lv_at hl 3 rfl) ?_
          refine lv_iconst (v := 1) hx hb dX9_addPart_59 (by decide) ?_
          refine lv_iadd hx hb dX9_addPart_60 ?_
          obtain ⟨r8, μ7, gr8, h⟩ := bd_some h
          refine g_callVI (As := [.ref (ad a1), .int (a2 + (1 : Int32)), .int (a3 + (1 : Int32))]) (rest := []) cx hw hA (hRE a1 q1 (a2 + (1 : Int32)) (a3 + (1 : Int32)) μ5 _ _ gr8) shx_159 rfl ml_X9_20 im_X9_addPart se_X9_addPart in_X9 co_X9_addPart rfl hd_X9_addPart rfl ⟨(by dsimp only; omega), (by dsimp only; omega)⟩ hl.1 rfl (Nat.le_of_ble_eq_true rfl) dX9_addPart_61 ⟨rfl, rfl⟩ (fun H locs hw => ?_)
          refine lv_istore (lv' := [(4, .int r8), (0, .ref (ad 159)), (1, .ref (ad a1)), (2, .int a2), (3, .int a3)]) hx hb dX9_addPart_64 hl (by decide) rfl (fun ls hl => ?_)
          refine lv_aload_n hx hb dX9_addPart_66 rfl (lv_at hl 1 rfl) ?_
          refine lv_bipush (v := 44) hx hb dX9_addPart_67 (by decide) ?_
          obtain ⟨μ9, gμ9, h⟩ := bw_some h
          refine g_callVV (As := [.int 44]) (rest := []) cx hw hA (t_X9_add l G ad (44 : Int32) μ7 gμ9) shx_159 rfl ml_X9_34 im_X9_add se_X9_add in_X9 co_X9_add rfl hd_X9_add rfl ⟨(by dsimp only; omega), (by dsimp only; omega)⟩ hl.1 rfl (Nat.le_of_ble_eq_true rfl) dX9_addPart_69 ⟨rfl, rfl⟩ (fun H locs hw => ?_)
          refine lv_aload_n hx hb dX9_addPart_72 rfl (lv_at hl 1 rfl) ?_
          refine lv_aload_n hx hb dX9_addPart_73 rfl (lv_at hl 2 rfl) ?_
          refine lv_iload hx hb dX9_addPart_74 (lv_at hl 0 rfl) ?_
          refine lv_iload_n hx hb dX9_addPart_76 rfl (lv_at hl 4 rfl) ?_
          refine lv_iconst (v := 1) hx hb dX9_addPart_77 (by decide) ?_
          refine lv_iadd hx hb dX9_addPart_78 ?_
          obtain ⟨r12, μ11, gr12, h⟩ := bd_some h
          refine g_callVI (As := [.ref (ad a1), .int r8, .int (a3 + (1 : Int32))]) (rest := []) cx hw hA (hRE a1 q1 r8 (a3 + (1 : Int32)) μ9 _ _ gr12) shx_159 rfl ml_X9_20 im_X9_addPart se_X9_addPart in_X9 co_X9_addPart rfl hd_X9_addPart rfl ⟨(by dsimp only; omega), (by dsimp only; omega)⟩ hl.1 rfl (Nat.le_of_ble_eq_true rfl) dX9_addPart_79 ⟨rfl, rfl⟩ (fun H locs hw => ?_)
          refine lv_istore (lv' := [(5, .int r12), (4, .int r8), (0, .ref (ad 159)), (1, .ref (ad a1)), (2, .int a2), (3, .int a3)]) hx hb dX9_addPart_82 hl (by decide) rfl (fun ls hl => ?_)
          refine lv_aload_n hx hb dX9_addPart_84 rfl (lv_at hl 2 rfl) ?_
          refine lv_bipush (v := 93) hx hb dX9_addPart_85 (by decide) ?_
          obtain ⟨μ13, gμ13, h⟩ := bw_some h
          refine g_callVV (As := [.int 93]) (rest := []) cx hw hA (t_X9_add l G ad (93 : Int32) μ11 gμ13) shx_159 rfl ml_X9_34 im_X9_add se_X9_add in_X9 co_X9_add rfl hd_X9_add rfl ⟨(by dsimp only; omega), (by dsimp only; omega)⟩ hl.1 rfl (Nat.le_of_ble_eq_true rfl) dX9_addPart_87 ⟨rfl, rfl⟩ (fun H locs hw => ?_)
          refine lv_iload hx hb dX9_addPart_90 (lv_at hl 0 rfl) ?_
          exact g_iret cx hr hlk hw h dX9_addPart_92
        · rw [if_neg c4] at h
          refine lv_aload_n hx hb dX9_addPart_33 rfl (lv_at hl 0 rfl) ?_
          refine lv_aload_n hx hb dX9_addPart_34 rfl (lv_at hl 1 rfl) ?_
          refine g_get cx hw inX2 (ci := 1) rfl 0 (by decide) rfl (v := .ref (ad (a1 + 1))) q1 rfl fl_X9_71 dX9_addPart_35 ?_
          refine lv_iload_n hx hb dX9_addPart_38 rfl (lv_at hl 2 rfl) ?_
          refine g_lald cx hw (rl_X2_0 q1) h dX9_addPart_39 (fun h => ?_)
          obtain ⟨μ15, gμ15, h⟩ := bw_some h
          refine g_callVV (As := [.long (μ.2.1 (a1 + 1) a2.toNatClampNeg)]) (rest := []) cx hw hA (t_X9_addSymbol l G ad (μ.2.1 (a1 + 1) a2.toNatClampNeg) μ gμ15) shx_159 rfl ml_X9_77 im_X9_addSymbol se_X9_addSymbol in_X9 co_X9_addSymbol rfl hd_X9_addSymbol rfl ⟨(by dsimp only; omega), (by dsimp only; omega)⟩ hl.1 rfl (Nat.le_of_ble_eq_true rfl) dX9_addPart_40 ⟨rfl, rfl⟩ (fun H locs hw => ?_)
          refine lv_iload_n hx hb dX9_addPart_43 rfl (lv_at hl 2 rfl) ?_
          refine lv_iconst (v := 1) hx hb dX9_addPart_44 (by decide) ?_
          refine lv_iadd hx hb dX9_addPart_45 ?_
          exact g_iret cx hr hlk hw h dX9_addPart_46
      · rw [if_neg c3] at h
        refine lv_iload_n hx hb dX9_addPart_18 rfl (lv_at hl 2 rfl) ?_
        exact g_iret cx hr hlk hw h dX9_addPart_19
theorem pr_X9_addPart_ex : ∃ f : Nat → Nat → Int32 → Int32 → Mem → Option (Int32 × Mem), (∀ (a1 : Nat) (a2 : Int32) (a3 : Int32) μ, f 0 a1 a2 a3 μ = none) ∧ (∀ n (a1 : Nat) (a2 : Int32) (a3 : Int32) μ, f (n + 1) a1 a2 a3 μ = p_X9_addPart (f n) a1 a2 a3 μ) := ⟨fun n => Nat.rec (fun (a1 : Nat) (a2 : Int32) (a3 : Int32) _ => none) (fun _ ih => fun (a1 : Nat) (a2 : Int32) (a3 : Int32) μ => p_X9_addPart ih a1 a2 a3 μ) n, fun _ _ _ _ => rfl, fun _ _ _ _ _ => rfl⟩
noncomputable def pr_X9_addPart : Nat → Nat → Int32 → Int32 → Mem → Option (Int32 × Mem) := Classical.choose pr_X9_addPart_ex
theorem pr_X9_addPart_z (a1 : Nat) (a2 : Int32) (a3 : Int32) (μ : Mem) : pr_X9_addPart 0 a1 a2 a3 μ = none := (Classical.choose_spec pr_X9_addPart_ex).1 a1 a2 a3 μ
theorem pr_X9_addPart_s (n : Nat) (a1 : Nat) (a2 : Int32) (a3 : Int32) (μ : Mem) : pr_X9_addPart (n + 1) a1 a2 a3 μ = p_X9_addPart (pr_X9_addPart n) a1 a2 a3 μ := (Classical.choose_spec pr_X9_addPart_ex).2 n a1 a2 a3 μ
theorem tpr_X9_addPart (l : Launch) (G : Gt) (ad : Nat → Nat) : ∀ (n : Nat) (a1 : Nat) (q1 : sh 0 a1 = (0, 1)) (a2 : Int32) (a3 : Int32) (μ : Mem) {r : Int32} {μz : Mem}, pr_X9_addPart n a1 a2 a3 μ = some (r, μz) → Mt l yX9_addPart cX9_addPart 6 (some .int) ({ frames := n * 3, cells := 0, slots := 0, locals := n * 70 } : Room) G [.ref (ad 159), .ref (ad a1), .int a2, .int a3] (wd 0 G ad μ) (eI 0 G ad r μz) := by
  intro n
  induction n with
  | zero => intro a1 q1 a2 a3 μ r μz h; rw [pr_X9_addPart_z] at h; cases h
  | succ n ih =>
    intro a1 q1 a2 a3 μ r μz h
    rw [pr_X9_addPart_s] at h
    have e1 : (n + 1) * 3 = n * 3 + 3 := Nat.succ_mul n 3
    have e2 : (n + 1) * 70 = n * 70 + 70 := Nat.succ_mul n 70
    rw [e1, e2]
    exact t_X9_addPart l G ad (pr_X9_addPart n) (fun a1 q1 a2 a3 μ1 r2 μ2 hh => ih a1 q1 a2 a3 μ1 hh) a1 q1 a2 a3 μ h

theorem p_X9_writeValue_ex : ∃ f : Nat → Mem → Option (Int32 × Mem), ∀ (a1 : Nat) (μ : Mem), f a1 μ = bv (sF μ 159 1 (0 : Int32)) (fun μ1 => bd (pr_X9_addPart 50 a1 (0 : Int32) (0 : Int32) μ1) (fun r3 μ2 => some ((μ2.1 159 1), μ2))) := ⟨fun (a1 : Nat) (μ : Mem) => bv (sF μ 159 1 (0 : Int32)) (fun μ1 => bd (pr_X9_addPart 50 a1 (0 : Int32) (0 : Int32) μ1) (fun r3 μ2 => some ((μ2.1 159 1), μ2))), fun _ _ => rfl⟩
noncomputable def p_X9_writeValue : Nat → Mem → Option (Int32 × Mem) := Classical.choose p_X9_writeValue_ex
theorem p_X9_writeValue_eq (a1 : Nat) (μ : Mem) : p_X9_writeValue a1 μ = bv (sF μ 159 1 (0 : Int32)) (fun μ1 => bd (pr_X9_addPart 50 a1 (0 : Int32) (0 : Int32) μ1) (fun r3 μ2 => some ((μ2.1 159 1), μ2))) := Classical.choose_spec p_X9_writeValue_ex a1 μ
set_option maxHeartbeats 4000000 in
set_option maxRecDepth 100000 in
theorem t_X9_writeValue (l : Launch) (G : Gt) (ad : Nat → Nat) (a1 : Nat) (q1 : sh 0 a1 = (0, 1)) (μ : Mem) {r : Int32} {μz : Mem} (h : p_X9_writeValue a1 μ = some (r, μz)) : Mt l yX9_writeValue cX9_writeValue 2 (some .int) ({ frames := 151, cells := 0, slots := 0, locals := 3525 } : Room) G [.ref (ad 159), .ref (ad a1)] (wd 0 G ad μ) (eI 0 G ad r μz) := by
  refine Bk.mt (by decide) rfl (Nat.le_of_ble_eq_true rfl) ?_
  intro p e s m below meth c A ls H locs cx hr hlk hA hl hw
  have hx := cx.1
  have hb := cx.2.1
  have hl : lv_has ls 2 [(0, .ref (ad 159)), (1, .ref (ad a1))] := hl
  rw [p_X9_writeValue_eq] at h
  refine lv_aload_n hx hb dX9_writeValue_0 rfl (lv_at hl 0 rfl) ?_
  refine lv_iconst (v := 0) hx hb dX9_writeValue_1 (by decide) ?_
  refine g_put cx hw inX9 (ci := 8) rfl tyX9_ok nmX9 1 (by decide) rfl rfl rfl rfl shx_159 h fl_X9_16 dX9_writeValue_2 (fun μ1 H locs h hw => ?_)
  refine lv_aload_n hx hb dX9_writeValue_5 rfl (lv_at hl 0 rfl) ?_
  refine lv_aload_n hx hb dX9_writeValue_6 rfl (lv_at hl 1 rfl) ?_
  refine lv_iconst (v := 0) hx hb dX9_writeValue_7 (by decide) ?_
  refine lv_iconst (v := 0) hx hb dX9_writeValue_8 (by decide) ?_
  obtain ⟨r3, μ2, gr3, h⟩ := bd_some h
  refine g_callVI (As := [.ref (ad a1), .int 0, .int 0]) (rest := []) cx hw hA (tpr_X9_addPart l G ad 50 a1 q1 (0 : Int32) (0 : Int32) μ1 gr3) shx_159 rfl ml_X9_20 im_X9_addPart se_X9_addPart in_X9 co_X9_addPart rfl hd_X9_addPart rfl ⟨(Nat.le_of_ble_eq_true rfl), (Nat.le_of_ble_eq_true rfl)⟩ hl.1 rfl (Nat.le_of_ble_eq_true rfl) dX9_writeValue_9 ⟨rfl, rfl⟩ (fun H locs hw => ?_)
  refine lv_pop hx hb dX9_writeValue_12 rfl ?_
  refine lv_aload_n hx hb dX9_writeValue_13 rfl (lv_at hl 0 rfl) ?_
  refine g_get cx hw inX9 (ci := 8) rfl 1 (by decide) rfl (v := .int (μ2.1 159 1)) shx_159 rfl fl_X9_16 dX9_writeValue_14 ?_
  exact g_iret cx hr hlk hw h dX9_writeValue_17

theorem p_X11_value_ex : ∃ f : Mem → Option (Int32 × Mem), ∀  (μ : Mem), f  μ = (if (μ.1 156 2) = (0 : Int32) then some ((-1 : Int32), μ) else bd (p_X9_writeValue 156 μ) (fun r3 μ2 => some (r3, μ2))) := ⟨fun  (μ : Mem) => (if (μ.1 156 2) = (0 : Int32) then some ((-1 : Int32), μ) else bd (p_X9_writeValue 156 μ) (fun r3 μ2 => some (r3, μ2))), fun _ => rfl⟩
noncomputable def p_X11_value : Mem → Option (Int32 × Mem) := Classical.choose p_X11_value_ex
theorem p_X11_value_eq  (μ : Mem) : p_X11_value  μ = (if (μ.1 156 2) = (0 : Int32) then some ((-1 : Int32), μ) else bd (p_X9_writeValue 156 μ) (fun r3 μ2 => some (r3, μ2))) := Classical.choose_spec p_X11_value_ex  μ
set_option maxHeartbeats 4000000 in
set_option maxRecDepth 100000 in
theorem t_X11_value (l : Launch) (G : Gt) (ad : Nat → Nat)  (μ : Mem) {r : Int32} {μz : Mem} (h : p_X11_value  μ = some (r, μz)) : Mt l yX11_value cX11_value 1 (some .int) ({ frames := 152, cells := 0, slots := 0, locals := 3546 } : Room) G [.ref (ad 0)] (wd 0 G ad μ) (eI 0 G ad r μz) := by
  refine Bk.mt (by decide) rfl (Nat.le_of_ble_eq_true rfl) ?_
  intro p e s m below meth c A ls H locs cx hr hlk hA hl hw
  have hx := cx.1
  have hb := cx.2.1
  have hl : lv_has ls 1 [(0, .ref (ad 0))] := hl
  rw [p_X11_value_eq] at h
  refine lv_aload_n hx hb dX11_value_0 rfl (lv_at hl 0 rfl) ?_
  refine g_get cx hw inX11 (ci := 10) rfl 18 (by decide) rfl (v := .ref (ad 156)) shx_0 rfl fl_X11_111 dX11_value_1 ?_
  refine g_get cx hw inX2 (ci := 1) rfl 2 (by decide) rfl (v := .int (μ.1 156 2)) shx_156 rfl fl_X11_233 dX11_value_4 ?_
  refine lv_if_ne (tgt := 12) hx hb dX11_value_7 (by decide) (fun c1 => ?_) (fun c1 => ?_)
  · rw [if_neg c1] at h
    refine lv_aload_n hx hb dX11_value_12 rfl (lv_at hl 0 rfl) ?_
    refine g_get cx hw inX11 (ci := 10) rfl 19 (by decide) rfl (v := .ref (ad 159)) shx_0 rfl fl_X11_117 dX11_value_13 ?_
    refine lv_aload_n hx hb dX11_value_16 rfl (lv_at hl 0 rfl) ?_
    refine g_get cx hw inX11 (ci := 10) rfl 18 (by decide) rfl (v := .ref (ad 156)) shx_0 rfl fl_X11_111 dX11_value_17 ?_
    obtain ⟨r3, μ2, gr3, h⟩ := bd_some h
    refine g_callVI (As := [.ref (ad 156)]) (rest := []) cx hw hA (t_X9_writeValue l G ad 156 shx_156 μ gr3) shx_159 rfl ml_X11_234 im_X9_writeValue se_X9_writeValue in_X9 co_X9_writeValue rfl hd_X9_writeValue rfl ⟨(Nat.le_of_ble_eq_true rfl), (Nat.le_of_ble_eq_true rfl)⟩ hl.1 rfl (Nat.le_of_ble_eq_true rfl) dX11_value_20 ⟨rfl, rfl⟩ (fun H locs hw => ?_)
    exact g_iret cx hr hlk hw h dX11_value_23
  · rw [if_pos c1] at h
    refine lv_iconst (v := (-1)) hx hb dX11_value_10 (by decide) ?_
    exact g_iret cx hr hlk hw h dX11_value_11

theorem p_X9_addPatterns_b40_ex : ∃ f : (Nat → Int32 → Mem → Option Mem) → Nat → Int32 → Mem → Option Mem, ∀ (K22 : Nat → Int32 → Mem → Option Mem) (a1 : Nat) (a2 : Int32) (μ : Mem), f K22 a1 a2 μ = bd (pr_X9_addPart 50 a1 a2 (0 : Int32) μ) (fun r10 μ9 => bv (imax r10 (a2 + (1 : Int32))) (fun v11 => K22 a1 v11 μ9)) := ⟨fun (K22 : Nat → Int32 → Mem → Option Mem) (a1 : Nat) (a2 : Int32) (μ : Mem) => bd (pr_X9_addPart 50 a1 a2 (0 : Int32) μ) (fun r10 μ9 => bv (imax r10 (a2 + (1 : Int32))) (fun v11 => K22 a1 v11 μ9)), fun _ _ _ _ => rfl⟩
noncomputable def p_X9_addPatterns_b40 : (Nat → Int32 → Mem → Option Mem) → Nat → Int32 → Mem → Option Mem := Classical.choose p_X9_addPatterns_b40_ex
theorem p_X9_addPatterns_b40_eq (K22 : Nat → Int32 → Mem → Option Mem) (a1 : Nat) (a2 : Int32) (μ : Mem) : p_X9_addPatterns_b40 K22 a1 a2 μ = bd (pr_X9_addPart 50 a1 a2 (0 : Int32) μ) (fun r10 μ9 => bv (imax r10 (a2 + (1 : Int32))) (fun v11 => K22 a1 v11 μ9)) := Classical.choose_spec p_X9_addPatterns_b40_ex K22 a1 a2 μ
set_option maxHeartbeats 4000000 in
set_option maxRecDepth 100000 in
theorem t_X9_addPatterns_b40 (l : Launch) (G : Gt) (ad : Nat → Nat) (av : List Value) {μz : Mem} (K22 : Nat → Int32 → Mem → Option Mem) (hK22 : ∀ (z1 : Nat) (w1 : sh 0 z1 = (0, 1)) (z2 : Int32) (μ1 : Mem), K22 z1 z2 μ1 = some μz → Bk l cX9_addPatterns 3 RX9 none ({ frames := 151, cells := 0, slots := 0, locals := 3525 } : Room) G av (eV 0 G ad μz) (wd 0 G ad μ1) 22 [(0, .ref (ad 159)), (1, .ref (ad z1)), (2, .int z2)] []) (a1 : Nat) (q1 : sh 0 a1 = (0, 1)) (a2 : Int32) (μ : Mem) (h : p_X9_addPatterns_b40 K22 a1 a2 μ = some μz) : Bk l cX9_addPatterns 3 RX9 none ({ frames := 151, cells := 0, slots := 0, locals := 3525 } : Room) G av (eV 0 G ad μz) (wd 0 G ad μ) 40 [(0, .ref (ad 159)), (1, .ref (ad a1)), (2, .int a2)] [] := by
  intro p e s m below meth c A ls H locs cx hr hlk hA hl hw
  have hx := cx.1
  have hb := cx.2.1
  rw [p_X9_addPatterns_b40_eq] at h
  refine lv_aload_n hx hb dX9_addPatterns_40 rfl (lv_at hl 0 rfl) ?_
  refine lv_aload_n hx hb dX9_addPatterns_41 rfl (lv_at hl 1 rfl) ?_
  refine lv_iload_n hx hb dX9_addPatterns_42 rfl (lv_at hl 2 rfl) ?_
  refine lv_iconst (v := 0) hx hb dX9_addPatterns_43 (by decide) ?_
  obtain ⟨r10, μ9, gr10, h⟩ := bd_some h
  refine g_callVI (As := [.ref (ad a1), .int a2, .int 0]) (rest := []) cx hw hA (tpr_X9_addPart l G ad 50 a1 q1 a2 (0 : Int32) μ gr10) shx_159 rfl ml_X9_20 im_X9_addPart se_X9_addPart in_X9 co_X9_addPart rfl hd_X9_addPart rfl ⟨(Nat.le_of_ble_eq_true rfl), (Nat.le_of_ble_eq_true rfl)⟩ hl.1 rfl (Nat.le_of_ble_eq_true rfl) dX9_addPatterns_44 ⟨rfl, rfl⟩ (fun H locs hw => ?_)
  refine lv_iload_n hx hb dX9_addPatterns_47 rfl (lv_at hl 2 rfl) ?_
  refine lv_iconst (v := 1) hx hb dX9_addPatterns_48 (by decide) ?_
  refine lv_iadd hx hb dX9_addPatterns_49 ?_
  refine r_mmax (v := (imax r10 (a2 + (1 : Int32)))) cx ml_X9_66 hl.1 (Nat.le_of_ble_eq_true rfl) (Nat.le_of_ble_eq_true rfl) (Nat.le_of_ble_eq_true rfl) (Nat.le_of_ble_eq_true rfl) rfl dX9_addPatterns_50 ?_
  obtain ⟨v11, ev11, h⟩ := bv_ex h
  refine lv_topi (fun y9 z9 => ?_)
  obtain rfl : v11 = y9 := ev11.trans z9.symm
  refine lv_istore_n (lv' := [(2, .int v11), (0, .ref (ad 159)), (1, .ref (ad a1))]) hx hb dX9_addPatterns_53 rfl hl (by decide) rfl (fun ls hl => ?_)
  refine lv_goto (tgt := 22) hx hb dX9_addPatterns_54 (by decide) ?_
  exact hK22 a1 q1 v11 μ9 h p e s m below meth c A ls H locs cx hr hlk hA (lv_sub hl [1, 2, 0] rfl) hw
theorem p_X9_addPatterns_b22_ex : ∃ f : Nat → Nat → Int32 → Mem → Option Mem, (∀ (a1 : Nat) (a2 : Int32) (μ : Mem), f  0 a1 a2 μ = none) ∧ (∀ (n : Nat) (a1 : Nat) (a2 : Int32) (μ : Mem), f  (n + 1) a1 a2 μ = (if (μ.1 a1 2) ≤ a2 then bw (p_X9_add (41 : Int32) μ) (fun μ6 => some μ6) else (if a2 ≤ (0 : Int32) then p_X9_addPatterns_b40 (f n) a1 a2 μ else bw (p_X9_add (44 : Int32) μ) (fun μ12 => p_X9_addPatterns_b40 (f n) a1 a2 μ12)))) := ⟨fun n => Nat.rec (fun (a1 : Nat) (a2 : Int32) (μ : Mem) => none) (fun _ ih => fun (a1 : Nat) (a2 : Int32) (μ : Mem) => (if (μ.1 a1 2) ≤ a2 then bw (p_X9_add (41 : Int32) μ) (fun μ6 => some μ6) else (if a2 ≤ (0 : Int32) then p_X9_addPatterns_b40 (ih) a1 a2 μ else bw (p_X9_add (44 : Int32) μ) (fun μ12 => p_X9_addPatterns_b40 (ih) a1 a2 μ12)))) n, fun  _ _ _ => rfl, fun  _ _ _ _ => rfl⟩
noncomputable def p_X9_addPatterns_b22 : Nat → Nat → Int32 → Mem → Option Mem := Classical.choose p_X9_addPatterns_b22_ex
theorem p_X9_addPatterns_b22_z (a1 : Nat) (a2 : Int32) (μ : Mem) : p_X9_addPatterns_b22  0 a1 a2 μ = none := (Classical.choose_spec p_X9_addPatterns_b22_ex).1  a1 a2 μ
theorem p_X9_addPatterns_b22_s (n : Nat) (a1 : Nat) (a2 : Int32) (μ : Mem) : p_X9_addPatterns_b22  (n + 1) a1 a2 μ = (if (μ.1 a1 2) ≤ a2 then bw (p_X9_add (41 : Int32) μ) (fun μ6 => some μ6) else (if a2 ≤ (0 : Int32) then p_X9_addPatterns_b40 (p_X9_addPatterns_b22  n) a1 a2 μ else bw (p_X9_add (44 : Int32) μ) (fun μ12 => p_X9_addPatterns_b40 (p_X9_addPatterns_b22  n) a1 a2 μ12))) := (Classical.choose_spec p_X9_addPatterns_b22_ex).2  n a1 a2 μ
set_option maxHeartbeats 4000000 in
set_option maxRecDepth 100000 in
theorem t_X9_addPatterns_b22 (l : Launch) (G : Gt) (ad : Nat → Nat) (av : List Value) {μz : Mem} : ∀ (n : Nat) (a1 : Nat) (q1 : sh 0 a1 = (0, 1)) (a2 : Int32) (μ : Mem), p_X9_addPatterns_b22  n a1 a2 μ = some μz → Bk l cX9_addPatterns 3 RX9 none ({ frames := 151, cells := 0, slots := 0, locals := 3525 } : Room) G av (eV 0 G ad μz) (wd 0 G ad μ) 22 [(0, .ref (ad 159)), (1, .ref (ad a1)), (2, .int a2)] [] := by
  intro n
  induction n with
  | zero => intro a1 q1 a2 μ h; rw [p_X9_addPatterns_b22_z] at h; cases h
  | succ n ih =>
    intro a1 q1 a2 μ h p e s m below meth c A ls H locs cx hr hlk hA hl hw
    have hx := cx.1
    have hb := cx.2.1
    rw [p_X9_addPatterns_b22_s] at h
    refine lv_iload_n hx hb dX9_addPatterns_22 rfl (lv_at hl 2 rfl) ?_
    refine lv_aload_n hx hb dX9_addPatterns_23 rfl (lv_at hl 1 rfl) ?_
    refine g_get cx hw inX2 (ci := 1) rfl 2 (by decide) rfl (v := .int (μ.1 a1 2)) q1 rfl fl_X9_65 dX9_addPatterns_24 ?_
    refine lv_icmp_ge (tgt := 57) hx hb dX9_addPatterns_27 (by decide) (fun c5 => ?_) (fun c5 => ?_)
    · rw [if_pos c5] at h
      refine lv_aload_n hx hb dX9_addPatterns_57 rfl (lv_at hl 0 rfl) ?_
      refine lv_bipush (v := 41) hx hb dX9_addPatterns_58 (by decide) ?_
      obtain ⟨μ6, gμ6, h⟩ := bw_some h
      refine g_callVV (As := [.int 41]) (rest := []) cx hw hA (t_X9_add l G ad (41 : Int32) μ gμ6) shx_159 rfl ml_X9_34 im_X9_add se_X9_add in_X9 co_X9_add rfl hd_X9_add rfl ⟨(Nat.le_of_ble_eq_true rfl), (Nat.le_of_ble_eq_true rfl)⟩ hl.1 rfl (Nat.le_of_ble_eq_true rfl) dX9_addPatterns_60 ⟨rfl, rfl⟩ (fun H locs hw => ?_)
      exact g_vret cx hr hlk hw h dX9_addPatterns_63
    · rw [if_neg c5] at h
      refine lv_iload_n hx hb dX9_addPatterns_30 rfl (lv_at hl 2 rfl) ?_
      refine lv_if_le (tgt := 40) hx hb dX9_addPatterns_31 (by decide) (fun c8 => ?_) (fun c8 => ?_)
      · rw [if_pos c8] at h
        exact t_X9_addPatterns_b40 l G ad av _ ih a1 q1 a2 μ h p e s m below meth c A ls H locs cx hr hlk hA (lv_sub hl [0, 1, 2] rfl) hw
      · rw [if_neg c8] at h
        refine lv_aload_n hx hb dX9_addPatterns_34 rfl (lv_at hl 0 rfl) ?_
        refine lv_bipush (v := 44) hx hb dX9_addPatterns_35 (by decide) ?_
        obtain ⟨μ12, gμ12, h⟩ := bw_some h
        refine g_callVV (As := [.int 44]) (rest := []) cx hw hA (t_X9_add l G ad (44 : Int32) μ gμ12) shx_159 rfl ml_X9_34 im_X9_add se_X9_add in_X9 co_X9_add rfl hd_X9_add rfl ⟨(Nat.le_of_ble_eq_true rfl), (Nat.le_of_ble_eq_true rfl)⟩ hl.1 rfl (Nat.le_of_ble_eq_true rfl) dX9_addPatterns_37 ⟨rfl, rfl⟩ (fun H locs hw => ?_)
        exact t_X9_addPatterns_b40 l G ad av _ ih a1 q1 a2 μ12 h p e s m below meth c A ls H locs cx hr hlk hA (lv_sub hl [0, 1, 2] rfl) hw
theorem p_X9_addPatterns_ex : ∃ f : Nat → Mem → Option Mem, ∀ (a1 : Nat) (μ : Mem), f a1 μ = bw (p_X9_add ((97 : Int32) + ((μ.1 a1 3) / (6 : Int32))) μ) (fun μ1 => bw (p_X9_add (40 : Int32) μ1) (fun μ3 => p_X9_addPatterns_b22  FUEL a1 (0 : Int32) μ3)) := ⟨fun (a1 : Nat) (μ : Mem) => bw (p_X9_add ((97 : Int32) + ((μ.1 a1 3) / (6 : Int32))) μ) (fun μ1 => bw (p_X9_add (40 : Int32) μ1) (fun μ3 => p_X9_addPatterns_b22  FUEL a1 (0 : Int32) μ3)), fun _ _ => rfl⟩
noncomputable def p_X9_addPatterns : Nat → Mem → Option Mem := Classical.choose p_X9_addPatterns_ex
theorem p_X9_addPatterns_eq (a1 : Nat) (μ : Mem) : p_X9_addPatterns a1 μ = bw (p_X9_add ((97 : Int32) + ((μ.1 a1 3) / (6 : Int32))) μ) (fun μ1 => bw (p_X9_add (40 : Int32) μ1) (fun μ3 => p_X9_addPatterns_b22  FUEL a1 (0 : Int32) μ3)) := Classical.choose_spec p_X9_addPatterns_ex a1 μ
set_option maxHeartbeats 4000000 in
set_option maxRecDepth 100000 in
theorem t_X9_addPatterns (l : Launch) (G : Gt) (ad : Nat → Nat) (a1 : Nat) (q1 : sh 0 a1 = (0, 1)) (μ : Mem) {μz : Mem} (h : p_X9_addPatterns a1 μ = some μz) : Mt l yX9_addPatterns cX9_addPatterns 3 none ({ frames := 151, cells := 0, slots := 0, locals := 3525 } : Room) G [.ref (ad 159), .ref (ad a1)] (wd 0 G ad μ) (eV 0 G ad μz) := by
  refine Bk.mt (by decide) rfl (Nat.le_of_ble_eq_true rfl) ?_
  intro p e s m below meth c A ls H locs cx hr hlk hA hl hw
  have hx := cx.1
  have hb := cx.2.1
  have hl : lv_has ls 3 [(0, .ref (ad 159)), (1, .ref (ad a1))] := hl
  rw [p_X9_addPatterns_eq] at h
  refine lv_aload_n hx hb dX9_addPatterns_0 rfl (lv_at hl 0 rfl) ?_
  refine lv_bipush (v := 97) hx hb dX9_addPatterns_1 (by decide) ?_
  refine lv_aload_n hx hb dX9_addPatterns_3 rfl (lv_at hl 1 rfl) ?_
  refine g_get cx hw inX2 (ci := 1) rfl 3 (by decide) rfl (v := .int (μ.1 a1 3)) q1 rfl fl_X9_60 dX9_addPatterns_4 ?_
  refine lv_bipush (v := 6) hx hb dX9_addPatterns_7 (by decide) ?_
  refine lv_idiv hx hb dX9_addPatterns_9 (by decide) ?_
  refine lv_iadd hx hb dX9_addPatterns_10 ?_
  obtain ⟨μ1, gμ1, h⟩ := bw_some h
  refine g_callVV (As := [.int ((97 : Int32) + ((μ.1 a1 3) / (6 : Int32)))]) (rest := []) cx hw hA (t_X9_add l G ad ((97 : Int32) + ((μ.1 a1 3) / (6 : Int32))) μ gμ1) shx_159 rfl ml_X9_34 im_X9_add se_X9_add in_X9 co_X9_add rfl hd_X9_add rfl ⟨(Nat.le_of_ble_eq_true rfl), (Nat.le_of_ble_eq_true rfl)⟩ hl.1 rfl (Nat.le_of_ble_eq_true rfl) dX9_addPatterns_11 ⟨rfl, rfl⟩ (fun H locs hw => ?_)
  refine lv_aload_n hx hb dX9_addPatterns_14 rfl (lv_at hl 0 rfl) ?_
  refine lv_bipush (v := 40) hx hb dX9_addPatterns_15 (by decide) ?_
  obtain ⟨μ3, gμ3, h⟩ := bw_some h
  refine g_callVV (As := [.int 40]) (rest := []) cx hw hA (t_X9_add l G ad (40 : Int32) μ1 gμ3) shx_159 rfl ml_X9_34 im_X9_add se_X9_add in_X9 co_X9_add rfl hd_X9_add rfl ⟨(Nat.le_of_ble_eq_true rfl), (Nat.le_of_ble_eq_true rfl)⟩ hl.1 rfl (Nat.le_of_ble_eq_true rfl) dX9_addPatterns_17 ⟨rfl, rfl⟩ (fun H locs hw => ?_)
  refine lv_iconst (v := 0) hx hb dX9_addPatterns_20 (by decide) ?_
  refine lv_istore_n (lv' := [(2, .int 0), (0, .ref (ad 159)), (1, .ref (ad a1))]) hx hb dX9_addPatterns_21 rfl hl (by decide) rfl (fun ls hl => ?_)
  exact t_X9_addPatterns_b22 l G ad _  FUEL a1 q1 (0 : Int32) μ3 h p e s m below meth c A ls H locs cx hr hlk hA (lv_sub hl [1, 2, 0] rfl) hw

theorem p_X9_addTwo_ex : ∃ f : Int32 → Int32 → Int32 → Int32 → Mem → Option Mem, ∀ (a2 : Int32) (a3 : Int32) (a4 : Int32) (a5 : Int32) (μ : Mem), f a2 a3 a4 a5 μ = bw (p_X9_add a3 μ) (fun μ1 => bd (p_X5_operand a2 (0 : Int32) μ1) (fun r4 μ3 => bw (p_X9_addSymbol r4 μ3) (fun μ5 => bw (p_X9_add a4 μ5) (fun μ7 => bd (p_X5_operand a2 (1 : Int32) μ7) (fun r10 μ9 => bw (p_X9_addSymbol r10 μ9) (fun μ11 => bw (p_X9_add a5 μ11) (fun μ13 => some μ13))))))) := ⟨fun (a2 : Int32) (a3 : Int32) (a4 : Int32) (a5 : Int32) (μ : Mem) => bw (p_X9_add a3 μ) (fun μ1 => bd (p_X5_operand a2 (0 : Int32) μ1) (fun r4 μ3 => bw (p_X9_addSymbol r4 μ3) (fun μ5 => bw (p_X9_add a4 μ5) (fun μ7 => bd (p_X5_operand a2 (1 : Int32) μ7) (fun r10 μ9 => bw (p_X9_addSymbol r10 μ9) (fun μ11 => bw (p_X9_add a5 μ11) (fun μ13 => some μ13))))))), fun _ _ _ _ _ => rfl⟩
noncomputable def p_X9_addTwo : Int32 → Int32 → Int32 → Int32 → Mem → Option Mem := Classical.choose p_X9_addTwo_ex
theorem p_X9_addTwo_eq (a2 : Int32) (a3 : Int32) (a4 : Int32) (a5 : Int32) (μ : Mem) : p_X9_addTwo a2 a3 a4 a5 μ = bw (p_X9_add a3 μ) (fun μ1 => bd (p_X5_operand a2 (0 : Int32) μ1) (fun r4 μ3 => bw (p_X9_addSymbol r4 μ3) (fun μ5 => bw (p_X9_add a4 μ5) (fun μ7 => bd (p_X5_operand a2 (1 : Int32) μ7) (fun r10 μ9 => bw (p_X9_addSymbol r10 μ9) (fun μ11 => bw (p_X9_add a5 μ11) (fun μ13 => some μ13))))))) := Classical.choose_spec p_X9_addTwo_ex a2 a3 a4 a5 μ
set_option maxHeartbeats 4000000 in
set_option maxRecDepth 100000 in
theorem t_X9_addTwo (l : Launch) (G : Gt) (ad : Nat → Nat) (a2 : Int32) (a3 : Int32) (a4 : Int32) (a5 : Int32) (μ : Mem) {μz : Mem} (h : p_X9_addTwo a2 a3 a4 a5 μ = some μz) : Mt l yX9_addTwo cX9_addTwo 6 none ({ frames := 3, cells := 0, slots := 0, locals := 70 } : Room) G [.ref (ad 159), .ref (ad 39), .int a2, .int a3, .int a4, .int a5] (wd 0 G ad μ) (eV 0 G ad μz) := by
  refine Bk.mt (by decide) rfl (Nat.le_of_ble_eq_true rfl) ?_
  intro p e s m below meth c A ls H locs cx hr hlk hA hl hw
  have hx := cx.1
  have hb := cx.2.1
  have hl : lv_has ls 6 [(0, .ref (ad 159)), (1, .ref (ad 39)), (2, .int a2), (3, .int a3), (4, .int a4), (5, .int a5)] := hl
  rw [p_X9_addTwo_eq] at h
  refine lv_aload_n hx hb dX9_addTwo_0 rfl (lv_at hl 0 rfl) ?_
  refine lv_iload_n hx hb dX9_addTwo_1 rfl (lv_at hl 3 rfl) ?_
  obtain ⟨μ1, gμ1, h⟩ := bw_some h
  refine g_callVV (As := [.int a3]) (rest := []) cx hw hA (t_X9_add l G ad a3 μ gμ1) shx_159 rfl ml_X9_34 im_X9_add se_X9_add in_X9 co_X9_add rfl hd_X9_add rfl ⟨(Nat.le_of_ble_eq_true rfl), (Nat.le_of_ble_eq_true rfl)⟩ hl.1 rfl (Nat.le_of_ble_eq_true rfl) dX9_addTwo_2 ⟨rfl, rfl⟩ (fun H locs hw => ?_)
  refine lv_aload_n hx hb dX9_addTwo_5 rfl (lv_at hl 0 rfl) ?_
  refine lv_aload_n hx hb dX9_addTwo_6 rfl (lv_at hl 1 rfl) ?_
  refine lv_iload_n hx hb dX9_addTwo_7 rfl (lv_at hl 2 rfl) ?_
  refine lv_iconst (v := 0) hx hb dX9_addTwo_8 (by decide) ?_
  obtain ⟨r4, μ3, gr4, h⟩ := bd_some h
  refine g_callVL (As := [.int a2, .int 0]) (rest := [.ref (ad 159)]) cx hw hA (t_X5_operand l G ad a2 (0 : Int32) μ1 gr4) shx_39 rfl ml_X9_106 im_X5_operand se_X5_operand in_X5 co_X5_operand rfl hd_X5_operand rfl ⟨(Nat.le_of_ble_eq_true rfl), (Nat.le_of_ble_eq_true rfl)⟩ hl.1 rfl (Nat.le_of_ble_eq_true rfl) dX9_addTwo_9 ⟨rfl, rfl⟩ (fun H locs hw => ?_)
  obtain ⟨μ5, gμ5, h⟩ := bw_some h
  refine g_callVV (As := [.long r4]) (rest := []) cx hw hA (t_X9_addSymbol l G ad r4 μ3 gμ5) shx_159 rfl ml_X9_77 im_X9_addSymbol se_X9_addSymbol in_X9 co_X9_addSymbol rfl hd_X9_addSymbol rfl ⟨(Nat.le_of_ble_eq_true rfl), (Nat.le_of_ble_eq_true rfl)⟩ hl.1 rfl (Nat.le_of_ble_eq_true rfl) dX9_addTwo_12 ⟨rfl, rfl⟩ (fun H locs hw => ?_)
  refine lv_aload_n hx hb dX9_addTwo_15 rfl (lv_at hl 0 rfl) ?_
  refine lv_iload hx hb dX9_addTwo_16 (lv_at hl 4 rfl) ?_
  obtain ⟨μ7, gμ7, h⟩ := bw_some h
  refine g_callVV (As := [.int a4]) (rest := []) cx hw hA (t_X9_add l G ad a4 μ5 gμ7) shx_159 rfl ml_X9_34 im_X9_add se_X9_add in_X9 co_X9_add rfl hd_X9_add rfl ⟨(Nat.le_of_ble_eq_true rfl), (Nat.le_of_ble_eq_true rfl)⟩ hl.1 rfl (Nat.le_of_ble_eq_true rfl) dX9_addTwo_18 ⟨rfl, rfl⟩ (fun H locs hw => ?_)
  refine lv_aload_n hx hb dX9_addTwo_21 rfl (lv_at hl 0 rfl) ?_
  refine lv_aload_n hx hb dX9_addTwo_22 rfl (lv_at hl 1 rfl) ?_
  refine lv_iload_n hx hb dX9_addTwo_23 rfl (lv_at hl 2 rfl) ?_
  refine lv_iconst (v := 1) hx hb dX9_addTwo_24 (by decide) ?_
  obtain ⟨r10, μ9, gr10, h⟩ := bd_some h
  refine g_callVL (As := [.int a2, .int 1]) (rest := [.ref (ad 159)]) cx hw hA (t_X5_operand l G ad a2 (1 : Int32) μ7 gr10) shx_39 rfl ml_X9_106 im_X5_operand se_X5_operand in_X5 co_X5_operand rfl hd_X5_operand rfl ⟨(Nat.le_of_ble_eq_true rfl), (Nat.le_of_ble_eq_true rfl)⟩ hl.1 rfl (Nat.le_of_ble_eq_true rfl) dX9_addTwo_25 ⟨rfl, rfl⟩ (fun H locs hw => ?_)
  obtain ⟨μ11, gμ11, h⟩ := bw_some h
  refine g_callVV (As := [.long r10]) (rest := []) cx hw hA (t_X9_addSymbol l G ad r10 μ9 gμ11) shx_159 rfl ml_X9_77 im_X9_addSymbol se_X9_addSymbol in_X9 co_X9_addSymbol rfl hd_X9_addSymbol rfl ⟨(Nat.le_of_ble_eq_true rfl), (Nat.le_of_ble_eq_true rfl)⟩ hl.1 rfl (Nat.le_of_ble_eq_true rfl) dX9_addTwo_28 ⟨rfl, rfl⟩ (fun H locs hw => ?_)
  refine lv_aload_n hx hb dX9_addTwo_31 rfl (lv_at hl 0 rfl) ?_
  refine lv_iload hx hb dX9_addTwo_32 (lv_at hl 5 rfl) ?_
  obtain ⟨μ13, gμ13, h⟩ := bw_some h
  refine g_callVV (As := [.int a5]) (rest := []) cx hw hA (t_X9_add l G ad a5 μ11 gμ13) shx_159 rfl ml_X9_34 im_X9_add se_X9_add in_X9 co_X9_add rfl hd_X9_add rfl ⟨(Nat.le_of_ble_eq_true rfl), (Nat.le_of_ble_eq_true rfl)⟩ hl.1 rfl (Nat.le_of_ble_eq_true rfl) dX9_addTwo_34 ⟨rfl, rfl⟩ (fun H locs hw => ?_)
  exact g_vret cx hr hlk hw h dX9_addTwo_37

theorem p_X9_addCall_b50_ex : ∃ f : (Int32 → Int32 → Int32 → Mem → Option Mem) → Int32 → Int32 → Int32 → Mem → Option Mem, ∀ (K33 : Int32 → Int32 → Int32 → Mem → Option Mem) (a2 : Int32) (a3 : Int32) (a4 : Int32) (μ : Mem), f K33 a2 a3 a4 μ = bd (p_X5_operand a2 ((2 : Int32) + a4) μ) (fun r16 μ15 => bw (p_X9_addSymbol r16 μ15) (fun μ17 => bv (a4 + 1) (fun v19 => K33 a2 a3 v19 μ17))) := ⟨fun (K33 : Int32 → Int32 → Int32 → Mem → Option Mem) (a2 : Int32) (a3 : Int32) (a4 : Int32) (μ : Mem) => bd (p_X5_operand a2 ((2 : Int32) + a4) μ) (fun r16 μ15 => bw (p_X9_addSymbol r16 μ15) (fun μ17 => bv (a4 + 1) (fun v19 => K33 a2 a3 v19 μ17))), fun _ _ _ _ _ => rfl⟩
noncomputable def p_X9_addCall_b50 : (Int32 → Int32 → Int32 → Mem → Option Mem) → Int32 → Int32 → Int32 → Mem → Option Mem := Classical.choose p_X9_addCall_b50_ex
theorem p_X9_addCall_b50_eq (K33 : Int32 → Int32 → Int32 → Mem → Option Mem) (a2 : Int32) (a3 : Int32) (a4 : Int32) (μ : Mem) : p_X9_addCall_b50 K33 a2 a3 a4 μ = bd (p_X5_operand a2 ((2 : Int32) + a4) μ) (fun r16 μ15 => bw (p_X9_addSymbol r16 μ15) (fun μ17 => bv (a4 + 1) (fun v19 => K33 a2 a3 v19 μ17))) := Classical.choose_spec p_X9_addCall_b50_ex K33 a2 a3 a4 μ
set_option maxHeartbeats 4000000 in
set_option maxRecDepth 100000 in
theorem t_X9_addCall_b50 (l : Launch) (G : Gt) (ad : Nat → Nat) (av : List Value) {μz : Mem} (K33 : Int32 → Int32 → Int32 → Mem → Option Mem) (hK33 : ∀ (z2 : Int32) (z3 : Int32) (z4 : Int32) (μ1 : Mem), K33 z2 z3 z4 μ1 = some μz → Bk l cX9_addCall 5 RX9 none ({ frames := 3, cells := 0, slots := 0, locals := 70 } : Room) G av (eV 0 G ad μz) (wd 0 G ad μ1) 33 [(0, .ref (ad 159)), (1, .ref (ad 39)), (2, .int z2), (3, .int z3), (4, .int z4)] []) (a2 : Int32) (a3 : Int32) (a4 : Int32) (μ : Mem) (h : p_X9_addCall_b50 K33 a2 a3 a4 μ = some μz) : Bk l cX9_addCall 5 RX9 none ({ frames := 3, cells := 0, slots := 0, locals := 70 } : Room) G av (eV 0 G ad μz) (wd 0 G ad μ) 50 [(0, .ref (ad 159)), (1, .ref (ad 39)), (2, .int a2), (3, .int a3), (4, .int a4)] [] := by
  intro p e s m below meth c A ls H locs cx hr hlk hA hl hw
  have hx := cx.1
  have hb := cx.2.1
  rw [p_X9_addCall_b50_eq] at h
  refine lv_aload_n hx hb dX9_addCall_50 rfl (lv_at hl 0 rfl) ?_
  refine lv_aload_n hx hb dX9_addCall_51 rfl (lv_at hl 1 rfl) ?_
  refine lv_iload_n hx hb dX9_addCall_52 rfl (lv_at hl 2 rfl) ?_
  refine lv_iconst (v := 2) hx hb dX9_addCall_53 (by decide) ?_
  refine lv_iload hx hb dX9_addCall_54 (lv_at hl 4 rfl) ?_
  refine lv_iadd hx hb dX9_addCall_56 ?_
  obtain ⟨r16, μ15, gr16, h⟩ := bd_some h
  refine g_callVL (As := [.int a2, .int ((2 : Int32) + a4)]) (rest := [.ref (ad 159)]) cx hw hA (t_X5_operand l G ad a2 ((2 : Int32) + a4) μ gr16) shx_39 rfl ml_X9_106 im_X5_operand se_X5_operand in_X5 co_X5_operand rfl hd_X5_operand rfl ⟨(Nat.le_of_ble_eq_true rfl), (Nat.le_of_ble_eq_true rfl)⟩ hl.1 rfl (Nat.le_of_ble_eq_true rfl) dX9_addCall_57 ⟨rfl, rfl⟩ (fun H locs hw => ?_)
  obtain ⟨μ17, gμ17, h⟩ := bw_some h
  refine g_callVV (As := [.long r16]) (rest := []) cx hw hA (t_X9_addSymbol l G ad r16 μ15 gμ17) shx_159 rfl ml_X9_77 im_X9_addSymbol se_X9_addSymbol in_X9 co_X9_addSymbol rfl hd_X9_addSymbol rfl ⟨(Nat.le_of_ble_eq_true rfl), (Nat.le_of_ble_eq_true rfl)⟩ hl.1 rfl (Nat.le_of_ble_eq_true rfl) dX9_addCall_60 ⟨rfl, rfl⟩ (fun H locs hw => ?_)
  obtain ⟨v19, ev19, h⟩ := bv_ex h
  refine lv_iinc (v := v19) (lv' := [(4, .int v19), (0, .ref (ad 159)), (1, .ref (ad 39)), (2, .int a2), (3, .int a3)]) hx hb dX9_addCall_63 hl (k := 4) rfl (by rw [ev19]; rfl) (by decide) rfl (fun ls hl => ?_)
  refine lv_goto (tgt := 33) hx hb dX9_addCall_66 (by decide) ?_
  exact hK33 a2 a3 v19 μ17 h p e s m below meth c A ls H locs cx hr hlk hA (lv_sub hl [1, 2, 3, 4, 0] rfl) hw
theorem p_X9_addCall_b33_ex : ∃ f : Nat → Int32 → Int32 → Int32 → Mem → Option Mem, (∀ (a2 : Int32) (a3 : Int32) (a4 : Int32) (μ : Mem), f  0 a2 a3 a4 μ = none) ∧ (∀ (n : Nat) (a2 : Int32) (a3 : Int32) (a4 : Int32) (μ : Mem), f  (n + 1) a2 a3 a4 μ = (if a3 ≤ a4 then bw (p_X9_add (41 : Int32) μ) (fun μ12 => some μ12) else (if a4 ≤ (0 : Int32) then p_X9_addCall_b50 (f n) a2 a3 a4 μ else bw (p_X9_add (44 : Int32) μ) (fun μ20 => p_X9_addCall_b50 (f n) a2 a3 a4 μ20)))) := ⟨fun n => Nat.rec (fun (a2 : Int32) (a3 : Int32) (a4 : Int32) (μ : Mem) => none) (fun _ ih => fun (a2 : Int32) (a3 : Int32) (a4 : Int32) (μ : Mem) => (if a3 ≤ a4 then bw (p_X9_add (41 : Int32) μ) (fun μ12 => some μ12) else (if a4 ≤ (0 : Int32) then p_X9_addCall_b50 (ih) a2 a3 a4 μ else bw (p_X9_add (44 : Int32) μ) (fun μ20 => p_X9_addCall_b50 (ih) a2 a3 a4 μ20)))) n, fun  _ _ _ _ => rfl, fun  _ _ _ _ _ => rfl⟩
noncomputable def p_X9_addCall_b33 : Nat → Int32 → Int32 → Int32 → Mem → Option Mem := Classical.choose p_X9_addCall_b33_ex
theorem p_X9_addCall_b33_z (a2 : Int32) (a3 : Int32) (a4 : Int32) (μ : Mem) : p_X9_addCall_b33  0 a2 a3 a4 μ = none := (Classical.choose_spec p_X9_addCall_b33_ex).1  a2 a3 a4 μ
theorem p_X9_addCall_b33_s (n : Nat) (a2 : Int32) (a3 : Int32) (a4 : Int32) (μ : Mem) : p_X9_addCall_b33  (n + 1) a2 a3 a4 μ = (if a3 ≤ a4 then bw (p_X9_add (41 : Int32) μ) (fun μ12 => some μ12) else (if a4 ≤ (0 : Int32) then p_X9_addCall_b50 (p_X9_addCall_b33  n) a2 a3 a4 μ else bw (p_X9_add (44 : Int32) μ) (fun μ20 => p_X9_addCall_b50 (p_X9_addCall_b33  n) a2 a3 a4 μ20))) := (Classical.choose_spec p_X9_addCall_b33_ex).2  n a2 a3 a4 μ
set_option maxHeartbeats 4000000 in
set_option maxRecDepth 100000 in
theorem t_X9_addCall_b33 (l : Launch) (G : Gt) (ad : Nat → Nat) (av : List Value) {μz : Mem} : ∀ (n : Nat) (a2 : Int32) (a3 : Int32) (a4 : Int32) (μ : Mem), p_X9_addCall_b33  n a2 a3 a4 μ = some μz → Bk l cX9_addCall 5 RX9 none ({ frames := 3, cells := 0, slots := 0, locals := 70 } : Room) G av (eV 0 G ad μz) (wd 0 G ad μ) 33 [(0, .ref (ad 159)), (1, .ref (ad 39)), (2, .int a2), (3, .int a3), (4, .int a4)] [] := by
  intro n
  induction n with
  | zero => intro a2 a3 a4 μ h; rw [p_X9_addCall_b33_z] at h; cases h
  | succ n ih =>
    intro a2 a3 a4 μ h p e s m below meth c A ls H locs cx hr hlk hA hl hw
    have hx := cx.1
    have hb := cx.2.1
    rw [p_X9_addCall_b33_s] at h
    refine lv_iload hx hb dX9_addCall_33 (lv_at hl 4 rfl) ?_
    refine lv_iload_n hx hb dX9_addCall_35 rfl (lv_at hl 3 rfl) ?_
    refine lv_icmp_ge (tgt := 69) hx hb dX9_addCall_36 (by decide) (fun c11 => ?_) (fun c11 => ?_)
    · rw [if_pos c11] at h
      refine lv_aload_n hx hb dX9_addCall_69 rfl (lv_at hl 0 rfl) ?_
      refine lv_bipush (v := 41) hx hb dX9_addCall_70 (by decide) ?_
      obtain ⟨μ12, gμ12, h⟩ := bw_some h
      refine g_callVV (As := [.int 41]) (rest := []) cx hw hA (t_X9_add l G ad (41 : Int32) μ gμ12) shx_159 rfl ml_X9_34 im_X9_add se_X9_add in_X9 co_X9_add rfl hd_X9_add rfl ⟨(Nat.le_of_ble_eq_true rfl), (Nat.le_of_ble_eq_true rfl)⟩ hl.1 rfl (Nat.le_of_ble_eq_true rfl) dX9_addCall_72 ⟨rfl, rfl⟩ (fun H locs hw => ?_)
      exact g_vret cx hr hlk hw h dX9_addCall_75
    · rw [if_neg c11] at h
      refine lv_iload hx hb dX9_addCall_39 (lv_at hl 4 rfl) ?_
      refine lv_if_le (tgt := 50) hx hb dX9_addCall_41 (by decide) (fun c14 => ?_) (fun c14 => ?_)
      · rw [if_pos c14] at h
        exact t_X9_addCall_b50 l G ad av _ ih a2 a3 a4 μ h p e s m below meth c A ls H locs cx hr hlk hA (lv_sub hl [0, 1, 2, 3, 4] rfl) hw
      · rw [if_neg c14] at h
        refine lv_aload_n hx hb dX9_addCall_44 rfl (lv_at hl 0 rfl) ?_
        refine lv_bipush (v := 44) hx hb dX9_addCall_45 (by decide) ?_
        obtain ⟨μ20, gμ20, h⟩ := bw_some h
        refine g_callVV (As := [.int 44]) (rest := []) cx hw hA (t_X9_add l G ad (44 : Int32) μ gμ20) shx_159 rfl ml_X9_34 im_X9_add se_X9_add in_X9 co_X9_add rfl hd_X9_add rfl ⟨(Nat.le_of_ble_eq_true rfl), (Nat.le_of_ble_eq_true rfl)⟩ hl.1 rfl (Nat.le_of_ble_eq_true rfl) dX9_addCall_47 ⟨rfl, rfl⟩ (fun H locs hw => ?_)
        exact t_X9_addCall_b50 l G ad av _ ih a2 a3 a4 μ20 h p e s m below meth c A ls H locs cx hr hlk hA (lv_sub hl [0, 1, 2, 3, 4] rfl) hw
theorem p_X9_addCall_ex : ∃ f : Int32 → Mem → Option Mem, ∀ (a2 : Int32) (μ : Mem), f a2 μ = bw (p_X9_add (99 : Int32) μ) (fun μ1 => bd (p_X5_cell a2 (2 : Int32) μ1) (fun r4 μ3 => bw (p_X9_addInt r4 μ3) (fun μ5 => bw (p_X9_add (40 : Int32) μ5) (fun μ7 => bd (p_X5_cell a2 (7 : Int32) μ7) (fun r10 μ9 => p_X9_addCall_b33  FUEL a2 r10 (0 : Int32) μ9))))) := ⟨fun (a2 : Int32) (μ : Mem) => bw (p_X9_add (99 : Int32) μ) (fun μ1 => bd (p_X5_cell a2 (2 : Int32) μ1) (fun r4 μ3 => bw (p_X9_addInt r4 μ3) (fun μ5 => bw (p_X9_add (40 : Int32) μ5) (fun μ7 => bd (p_X5_cell a2 (7 : Int32) μ7) (fun r10 μ9 => p_X9_addCall_b33  FUEL a2 r10 (0 : Int32) μ9))))), fun _ _ => rfl⟩
noncomputable def p_X9_addCall : Int32 → Mem → Option Mem := Classical.choose p_X9_addCall_ex
theorem p_X9_addCall_eq (a2 : Int32) (μ : Mem) : p_X9_addCall a2 μ = bw (p_X9_add (99 : Int32) μ) (fun μ1 => bd (p_X5_cell a2 (2 : Int32) μ1) (fun r4 μ3 => bw (p_X9_addInt r4 μ3) (fun μ5 => bw (p_X9_add (40 : Int32) μ5) (fun μ7 => bd (p_X5_cell a2 (7 : Int32) μ7) (fun r10 μ9 => p_X9_addCall_b33  FUEL a2 r10 (0 : Int32) μ9))))) := Classical.choose_spec p_X9_addCall_ex a2 μ
set_option maxHeartbeats 4000000 in
set_option maxRecDepth 100000 in
theorem t_X9_addCall (l : Launch) (G : Gt) (ad : Nat → Nat) (a2 : Int32) (μ : Mem) {μz : Mem} (h : p_X9_addCall a2 μ = some μz) : Mt l yX9_addCall cX9_addCall 5 none ({ frames := 3, cells := 0, slots := 0, locals := 70 } : Room) G [.ref (ad 159), .ref (ad 39), .int a2] (wd 0 G ad μ) (eV 0 G ad μz) := by
  refine Bk.mt (by decide) rfl (Nat.le_of_ble_eq_true rfl) ?_
  intro p e s m below meth c A ls H locs cx hr hlk hA hl hw
  have hx := cx.1
  have hb := cx.2.1
  have hl : lv_has ls 5 [(0, .ref (ad 159)), (1, .ref (ad 39)), (2, .int a2)] := hl
  rw [p_X9_addCall_eq] at h
  refine lv_aload_n hx hb dX9_addCall_0 rfl (lv_at hl 0 rfl) ?_
  refine lv_bipush (v := 99) hx hb dX9_addCall_1 (by decide) ?_
  obtain ⟨μ1, gμ1, h⟩ := bw_some h
  refine g_callVV (As := [.int 99]) (rest := []) cx hw hA (t_X9_add l G ad (99 : Int32) μ gμ1) shx_159 rfl ml_X9_34 im_X9_add se_X9_add in_X9 co_X9_add rfl hd_X9_add rfl ⟨(Nat.le_of_ble_eq_true rfl), (Nat.le_of_ble_eq_true rfl)⟩ hl.1 rfl (Nat.le_of_ble_eq_true rfl) dX9_addCall_3 ⟨rfl, rfl⟩ (fun H locs hw => ?_)
  refine lv_aload_n hx hb dX9_addCall_6 rfl (lv_at hl 0 rfl) ?_
  refine lv_aload_n hx hb dX9_addCall_7 rfl (lv_at hl 1 rfl) ?_
  refine lv_iload_n hx hb dX9_addCall_8 rfl (lv_at hl 2 rfl) ?_
  refine lv_iconst (v := 2) hx hb dX9_addCall_9 (by decide) ?_
  obtain ⟨r4, μ3, gr4, h⟩ := bd_some h
  refine g_callVI (As := [.int a2, .int 2]) (rest := [.ref (ad 159)]) cx hw hA (t_X5_cell l G ad a2 (2 : Int32) μ1 gr4) shx_39 rfl ml_X9_88 im_X5_cell se_X5_cell in_X5 co_X5_cell rfl hd_X5_cell rfl ⟨(Nat.le_of_ble_eq_true rfl), (Nat.le_of_ble_eq_true rfl)⟩ hl.1 rfl (Nat.le_of_ble_eq_true rfl) dX9_addCall_10 ⟨rfl, rfl⟩ (fun H locs hw => ?_)
  obtain ⟨μ5, gμ5, h⟩ := bw_some h
  refine g_callVV (As := [.int r4]) (rest := []) cx hw hA (t_X9_addInt l G ad r4 μ3 gμ5) shx_159 rfl ml_X9_57 im_X9_addInt se_X9_addInt in_X9 co_X9_addInt rfl hd_X9_addInt rfl ⟨(Nat.le_of_ble_eq_true rfl), (Nat.le_of_ble_eq_true rfl)⟩ hl.1 rfl (Nat.le_of_ble_eq_true rfl) dX9_addCall_13 ⟨rfl, rfl⟩ (fun H locs hw => ?_)
  refine lv_aload_n hx hb dX9_addCall_16 rfl (lv_at hl 0 rfl) ?_
  refine lv_bipush (v := 40) hx hb dX9_addCall_17 (by decide) ?_
  obtain ⟨μ7, gμ7, h⟩ := bw_some h
  refine g_callVV (As := [.int 40]) (rest := []) cx hw hA (t_X9_add l G ad (40 : Int32) μ5 gμ7) shx_159 rfl ml_X9_34 im_X9_add se_X9_add in_X9 co_X9_add rfl hd_X9_add rfl ⟨(Nat.le_of_ble_eq_true rfl), (Nat.le_of_ble_eq_true rfl)⟩ hl.1 rfl (Nat.le_of_ble_eq_true rfl) dX9_addCall_19 ⟨rfl, rfl⟩ (fun H locs hw => ?_)
  refine lv_aload_n hx hb dX9_addCall_22 rfl (lv_at hl 1 rfl) ?_
  refine lv_iload_n hx hb dX9_addCall_23 rfl (lv_at hl 2 rfl) ?_
  refine lv_bipush (v := 7) hx hb dX9_addCall_24 (by decide) ?_
  obtain ⟨r10, μ9, gr10, h⟩ := bd_some h
  refine g_callVI (As := [.int a2, .int 7]) (rest := []) cx hw hA (t_X5_cell l G ad a2 (7 : Int32) μ7 gr10) shx_39 rfl ml_X9_88 im_X5_cell se_X5_cell in_X5 co_X5_cell rfl hd_X5_cell rfl ⟨(Nat.le_of_ble_eq_true rfl), (Nat.le_of_ble_eq_true rfl)⟩ hl.1 rfl (Nat.le_of_ble_eq_true rfl) dX9_addCall_26 ⟨rfl, rfl⟩ (fun H locs hw => ?_)
  refine lv_istore_n (lv' := [(3, .int r10), (0, .ref (ad 159)), (1, .ref (ad 39)), (2, .int a2)]) hx hb dX9_addCall_29 rfl hl (by decide) rfl (fun ls hl => ?_)
  refine lv_iconst (v := 0) hx hb dX9_addCall_30 (by decide) ?_
  refine lv_istore (lv' := [(4, .int 0), (3, .int r10), (0, .ref (ad 159)), (1, .ref (ad 39)), (2, .int a2)]) hx hb dX9_addCall_31 hl (by decide) rfl (fun ls hl => ?_)
  exact t_X9_addCall_b33 l G ad _  FUEL a2 r10 (0 : Int32) μ9 h p e s m below meth c A ls H locs cx hr hlk hA (lv_sub hl [2, 3, 4, 1, 0] rfl) hw

theorem p_X9_byteAt_ex : ∃ f : Int32 → Mem → Option (Int32 × Mem), ∀ (a1 : Int32) (μ : Mem), f a1 μ = (if a1 < (0 : Int32) then some ((-1 : Int32), μ) else (if (μ.1 159 1) ≤ a1 then some ((-1 : Int32), μ) else gd (inb a1 40000) (some ((μ.1 160 a1.toNatClampNeg), μ)))) := ⟨fun (a1 : Int32) (μ : Mem) => (if a1 < (0 : Int32) then some ((-1 : Int32), μ) else (if (μ.1 159 1) ≤ a1 then some ((-1 : Int32), μ) else gd (inb a1 40000) (some ((μ.1 160 a1.toNatClampNeg), μ)))), fun _ _ => rfl⟩
noncomputable def p_X9_byteAt : Int32 → Mem → Option (Int32 × Mem) := Classical.choose p_X9_byteAt_ex
theorem p_X9_byteAt_eq (a1 : Int32) (μ : Mem) : p_X9_byteAt a1 μ = (if a1 < (0 : Int32) then some ((-1 : Int32), μ) else (if (μ.1 159 1) ≤ a1 then some ((-1 : Int32), μ) else gd (inb a1 40000) (some ((μ.1 160 a1.toNatClampNeg), μ)))) := Classical.choose_spec p_X9_byteAt_ex a1 μ
set_option maxHeartbeats 4000000 in
set_option maxRecDepth 100000 in
theorem t_X9_byteAt (l : Launch) (G : Gt) (ad : Nat → Nat) (a1 : Int32) (μ : Mem) {r : Int32} {μz : Mem} (h : p_X9_byteAt a1 μ = some (r, μz)) : Mt l yX9_byteAt cX9_byteAt 2 (some .int) ({ frames := 0, cells := 0, slots := 0, locals := 0 } : Room) G [.ref (ad 159), .int a1] (wd 0 G ad μ) (eI 0 G ad r μz) := by
  refine Bk.mt (by decide) rfl (Nat.le_of_ble_eq_true rfl) ?_
  intro p e s m below meth c A ls H locs cx hr hlk hA hl hw
  have hx := cx.1
  have hb := cx.2.1
  have hl : lv_has ls 2 [(0, .ref (ad 159)), (1, .int a1)] := hl
  rw [p_X9_byteAt_eq] at h
  refine lv_iload_n hx hb dX9_byteAt_0 rfl (lv_at hl 1 rfl) ?_
  refine lv_if_lt (tgt := 21) hx hb dX9_byteAt_1 (by decide) (fun c1 => ?_) (fun c1 => ?_)
  · rw [if_pos c1] at h
    refine lv_iconst (v := (-1)) hx hb dX9_byteAt_21 (by decide) ?_
    exact g_iret cx hr hlk hw h dX9_byteAt_22
  · rw [if_neg c1] at h
    refine lv_iload_n hx hb dX9_byteAt_4 rfl (lv_at hl 1 rfl) ?_
    refine lv_aload_n hx hb dX9_byteAt_5 rfl (lv_at hl 0 rfl) ?_
    refine g_get cx hw inX9 (ci := 8) rfl 1 (by decide) rfl (v := .int (μ.1 159 1)) shx_159 rfl fl_X9_16 dX9_byteAt_6 ?_
    refine lv_icmp_ge (tgt := 21) hx hb dX9_byteAt_9 (by decide) (fun c2 => ?_) (fun c2 => ?_)
    · rw [if_pos c2] at h
      refine lv_iconst (v := (-1)) hx hb dX9_byteAt_21 (by decide) ?_
      exact g_iret cx hr hlk hw h dX9_byteAt_22
    · rw [if_neg c2] at h
      refine lv_aload_n hx hb dX9_byteAt_12 rfl (lv_at hl 0 rfl) ?_
      refine g_get cx hw inX9 (ci := 8) rfl 0 (by decide) rfl (v := .ref (ad 160)) shx_159 rfl fl_X9_12 dX9_byteAt_13 ?_
      refine lv_iload_n hx hb dX9_byteAt_16 rfl (lv_at hl 1 rfl) ?_
      refine g_bald cx hw shx_160 h dX9_byteAt_17 (fun h => ?_)
      refine lv_goto (tgt := 22) hx hb dX9_byteAt_18 (by decide) ?_
      exact g_iret cx hr hlk hw h dX9_byteAt_22

theorem p_X11_octet_ex : ∃ f : Int32 → Mem → Option (Int32 × Mem), ∀ (a1 : Int32) (μ : Mem), f a1 μ = bd (p_X9_byteAt a1 μ) (fun r2 μ1 => some (r2, μ1)) := ⟨fun (a1 : Int32) (μ : Mem) => bd (p_X9_byteAt a1 μ) (fun r2 μ1 => some (r2, μ1)), fun _ _ => rfl⟩
noncomputable def p_X11_octet : Int32 → Mem → Option (Int32 × Mem) := Classical.choose p_X11_octet_ex
theorem p_X11_octet_eq (a1 : Int32) (μ : Mem) : p_X11_octet a1 μ = bd (p_X9_byteAt a1 μ) (fun r2 μ1 => some (r2, μ1)) := Classical.choose_spec p_X11_octet_ex a1 μ
set_option maxHeartbeats 4000000 in
set_option maxRecDepth 100000 in
theorem t_X11_octet (l : Launch) (G : Gt) (ad : Nat → Nat) (a1 : Int32) (μ : Mem) {r : Int32} {μz : Mem} (h : p_X11_octet a1 μ = some (r, μz)) : Mt l yX11_octet cX11_octet 2 (some .int) ({ frames := 1, cells := 0, slots := 0, locals := 21 } : Room) G [.ref (ad 0), .int a1] (wd 0 G ad μ) (eI 0 G ad r μz) := by
  refine Bk.mt (by decide) rfl (Nat.le_of_ble_eq_true rfl) ?_
  intro p e s m below meth c A ls H locs cx hr hlk hA hl hw
  have hx := cx.1
  have hb := cx.2.1
  have hl : lv_has ls 2 [(0, .ref (ad 0)), (1, .int a1)] := hl
  rw [p_X11_octet_eq] at h
  refine lv_aload_n hx hb dX11_octet_0 rfl (lv_at hl 0 rfl) ?_
  refine g_get cx hw inX11 (ci := 10) rfl 19 (by decide) rfl (v := .ref (ad 159)) shx_0 rfl fl_X11_117 dX11_octet_1 ?_
  refine lv_iload_n hx hb dX11_octet_4 rfl (lv_at hl 1 rfl) ?_
  obtain ⟨r2, μ1, gr2, h⟩ := bd_some h
  refine g_callVI (As := [.int a1]) (rest := []) cx hw hA (t_X9_byteAt l G ad a1 μ gr2) shx_159 rfl ml_X11_242 im_X9_byteAt se_X9_byteAt in_X9 co_X9_byteAt rfl hd_X9_byteAt rfl ⟨(Nat.le_of_ble_eq_true rfl), (Nat.le_of_ble_eq_true rfl)⟩ hl.1 rfl (Nat.le_of_ble_eq_true rfl) dX11_octet_5 ⟨rfl, rfl⟩ (fun H locs hw => ?_)
  exact g_iret cx hr hlk hw h dX11_octet_8

theorem p_X11_runBoth_ex : ∃ f : Mem → Option (Int32 × Mem), ∀  (μ : Mem), f  μ = bd (p_X11_canRun (0 : Int32) μ) (fun r2 μ1 => (if r2 = (0 : Int32) then some ((0 : Int32), μ1) else bd (p_X11_canRun (1 : Int32) μ1) (fun r5 μ4 => (if r5 = (0 : Int32) then some ((0 : Int32), μ4) else bw (p_X7_runTask (sel 2 (μ4.2.2 0 4)) (sel 1 (μ4.2.2 0 6)) (sel 1 (μ4.2.2 0 8)) 125 μ4) (fun μ7 => bw (p_X6_runResidue (sel 1 (μ7.2.2 0 8)) 131 μ7) (fun μ9 => some ((1 : Int32), μ9))))))) := ⟨fun  (μ : Mem) => bd (p_X11_canRun (0 : Int32) μ) (fun r2 μ1 => (if r2 = (0 : Int32) then some ((0 : Int32), μ1) else bd (p_X11_canRun (1 : Int32) μ1) (fun r5 μ4 => (if r5 = (0 : Int32) then some ((0 : Int32), μ4) else bw (p_X7_runTask (sel 2 (μ4.2.2 0 4)) (sel 1 (μ4.2.2 0 6)) (sel 1 (μ4.2.2 0 8)) 125 μ4) (fun μ7 => bw (p_X6_runResidue (sel 1 (μ7.2.2 0 8)) 131 μ7) (fun μ9 => some ((1 : Int32), μ9))))))), fun _ => rfl⟩
noncomputable def p_X11_runBoth : Mem → Option (Int32 × Mem) := Classical.choose p_X11_runBoth_ex
theorem p_X11_runBoth_eq  (μ : Mem) : p_X11_runBoth  μ = bd (p_X11_canRun (0 : Int32) μ) (fun r2 μ1 => (if r2 = (0 : Int32) then some ((0 : Int32), μ1) else bd (p_X11_canRun (1 : Int32) μ1) (fun r5 μ4 => (if r5 = (0 : Int32) then some ((0 : Int32), μ4) else bw (p_X7_runTask (sel 2 (μ4.2.2 0 4)) (sel 1 (μ4.2.2 0 6)) (sel 1 (μ4.2.2 0 8)) 125 μ4) (fun μ7 => bw (p_X6_runResidue (sel 1 (μ7.2.2 0 8)) 131 μ7) (fun μ9 => some ((1 : Int32), μ9))))))) := Classical.choose_spec p_X11_runBoth_ex  μ
set_option maxHeartbeats 4000000 in
set_option maxRecDepth 100000 in
theorem t_X11_runBoth (l : Launch) (G : Gt) (ad : Nat → Nat)  (μ : Mem) {r : Int32} {μz : Mem} (h : p_X11_runBoth  μ = some (r, μz)) : Mt l yX11_runBoth cX11_runBoth 1 (some .boolean) ({ frames := 7, cells := 0, slots := 0, locals := 188 } : Room) G [.ref (ad 0)] (wd 0 G ad μ) (eI 0 G ad r μz) := by
  refine Bk.mt (by decide) rfl (Nat.le_of_ble_eq_true rfl) ?_
  intro p e s m below meth c A ls H locs cx hr hlk hA hl hw
  have hx := cx.1
  have hb := cx.2.1
  have hl : lv_has ls 1 [(0, .ref (ad 0))] := hl
  rw [p_X11_runBoth_eq] at h
  refine lv_aload_n hx hb dX11_runBoth_0 rfl (lv_at hl 0 rfl) ?_
  refine lv_iconst (v := 0) hx hb dX11_runBoth_1 (by decide) ?_
  obtain ⟨r2, μ1, gr2, h⟩ := bd_some h
  refine g_callVI (As := [.int 0]) (rest := []) cx hw hA (t_X11_canRun l G ad (0 : Int32) μ gr2) shx_0 rfl ml_X11_203 im_X11_canRun se_X11_canRun in_X11 co_X11_canRun rfl hd_X11_canRun rfl ⟨(Nat.le_of_ble_eq_true rfl), (Nat.le_of_ble_eq_true rfl)⟩ hl.1 rfl (Nat.le_of_ble_eq_true rfl) dX11_runBoth_2 ⟨rfl, rfl⟩ (fun H locs hw => ?_)
  refine lv_if_eq (tgt := 16) hx hb dX11_runBoth_5 (by decide) (fun c3 => ?_) (fun c3 => ?_)
  · rw [if_pos c3] at h
    refine lv_iconst (v := 0) hx hb dX11_runBoth_16 (by decide) ?_
    exact g_zret cx hr hlk rfl hw h dX11_runBoth_17
  · rw [if_neg c3] at h
    refine lv_aload_n hx hb dX11_runBoth_8 rfl (lv_at hl 0 rfl) ?_
    refine lv_iconst (v := 1) hx hb dX11_runBoth_9 (by decide) ?_
    obtain ⟨r5, μ4, gr5, h⟩ := bd_some h
    refine g_callVI (As := [.int 1]) (rest := []) cx hw hA (t_X11_canRun l G ad (1 : Int32) μ1 gr5) shx_0 rfl ml_X11_203 im_X11_canRun se_X11_canRun in_X11 co_X11_canRun rfl hd_X11_canRun rfl ⟨(Nat.le_of_ble_eq_true rfl), (Nat.le_of_ble_eq_true rfl)⟩ hl.1 rfl (Nat.le_of_ble_eq_true rfl) dX11_runBoth_10 ⟨rfl, rfl⟩ (fun H locs hw => ?_)
    refine lv_if_ne (tgt := 18) hx hb dX11_runBoth_13 (by decide) (fun c6 => ?_) (fun c6 => ?_)
    · rw [if_neg c6] at h
      refine lv_aload_n hx hb dX11_runBoth_18 rfl (lv_at hl 0 rfl) ?_
      refine g_get cx hw inX11 (ci := 10) rfl 13 (by decide) rfl (v := .ref (ad 148)) shx_0 rfl fl_X11_92 dX11_runBoth_19 ?_
      refine lv_aload_n hx hb dX11_runBoth_22 rfl (lv_at hl 0 rfl) ?_
      refine g_get cx hw inX11 (ci := 10) rfl 4 (by decide) rfl (v := .ref (ad (sel 2 (μ4.2.2 0 4)))) shx_0 rfl fl_X11_23 dX11_runBoth_23 ?_
      refine lv_aload_n hx hb dX11_runBoth_26 rfl (lv_at hl 0 rfl) ?_
      refine g_get cx hw inX11 (ci := 10) rfl 6 (by decide) rfl (v := .ref (ad (sel 1 (μ4.2.2 0 6)))) shx_0 rfl fl_X11_44 dX11_runBoth_27 ?_
      refine lv_aload_n hx hb dX11_runBoth_30 rfl (lv_at hl 0 rfl) ?_
      refine g_get cx hw inX11 (ci := 10) rfl 8 (by decide) rfl (v := .ref (ad (sel 1 (μ4.2.2 0 8)))) shx_0 rfl fl_X11_51 dX11_runBoth_31 ?_
      refine lv_aload_n hx hb dX11_runBoth_34 rfl (lv_at hl 0 rfl) ?_
      refine g_get cx hw inX11 (ci := 10) rfl 16 (by decide) rfl (v := .ref (ad 125)) shx_0 rfl fl_X11_105 dX11_runBoth_35 ?_
      obtain ⟨μ7, gμ7, h⟩ := bw_some h
      refine g_callVV (As := [.ref (ad (sel 2 (μ4.2.2 0 4))), .ref (ad (sel 1 (μ4.2.2 0 6))), .ref (ad (sel 1 (μ4.2.2 0 8))), .ref (ad 125)]) (rest := []) cx hw hA (t_X7_runTask l G ad (sel 2 (μ4.2.2 0 4)) (sel_2 _) (sel 1 (μ4.2.2 0 6)) (sel_1 _) (sel 1 (μ4.2.2 0 8)) (sel_1 _) 125 shx_125 μ4 gμ7) shx_148 rfl ml_X11_206 im_X7_runTask se_X7_runTask in_X7 co_X7_runTask rfl hd_X7_runTask rfl ⟨(Nat.le_of_ble_eq_true rfl), (Nat.le_of_ble_eq_true rfl)⟩ hl.1 rfl (Nat.le_of_ble_eq_true rfl) dX11_runBoth_38 ⟨rfl, rfl⟩ (fun H locs hw => ?_)
      refine lv_aload_n hx hb dX11_runBoth_41 rfl (lv_at hl 0 rfl) ?_
      refine g_get cx hw inX11 (ci := 10) rfl 14 (by decide) rfl (v := .ref (ad 151)) shx_0 rfl fl_X11_101 dX11_runBoth_42 ?_
      refine lv_aload_n hx hb dX11_runBoth_45 rfl (lv_at hl 0 rfl) ?_
      refine g_get cx hw inX11 (ci := 10) rfl 12 (by decide) rfl (v := .ref (ad 39)) shx_0 rfl fl_X11_67 dX11_runBoth_46 ?_
      refine lv_aload_n hx hb dX11_runBoth_49 rfl (lv_at hl 0 rfl) ?_
      refine g_get cx hw inX11 (ci := 10) rfl 8 (by decide) rfl (v := .ref (ad (sel 1 (μ7.2.2 0 8)))) shx_0 rfl fl_X11_51 dX11_runBoth_50 ?_
      refine lv_aload_n hx hb dX11_runBoth_53 rfl (lv_at hl 0 rfl) ?_
      refine g_get cx hw inX11 (ci := 10) rfl 17 (by decide) rfl (v := .ref (ad 131)) shx_0 rfl fl_X11_108 dX11_runBoth_54 ?_
      obtain ⟨μ9, gμ9, h⟩ := bw_some h
      refine g_callVV (As := [.ref (ad 39), .ref (ad (sel 1 (μ7.2.2 0 8))), .ref (ad 131)]) (rest := []) cx hw hA (t_X6_runResidue l G ad (sel 1 (μ7.2.2 0 8)) (sel_1 _) 131 shx_131 μ7 gμ9) shx_151 rfl ml_X11_210 im_X6_runResidue se_X6_runResidue in_X6 co_X6_runResidue rfl hd_X6_runResidue rfl ⟨(Nat.le_of_ble_eq_true rfl), (Nat.le_of_ble_eq_true rfl)⟩ hl.1 rfl (Nat.le_of_ble_eq_true rfl) dX11_runBoth_57 ⟨rfl, rfl⟩ (fun H locs hw => ?_)
      refine lv_iconst (v := 1) hx hb dX11_runBoth_60 (by decide) ?_
      exact g_zret cx hr hlk rfl hw h dX11_runBoth_61
    · rw [if_pos c6] at h
      refine lv_iconst (v := 0) hx hb dX11_runBoth_16 (by decide) ?_
      exact g_zret cx hr hlk rfl hw h dX11_runBoth_17

theorem p_X1_isLike_b74_ex : ∃ f : Nat → Nat → Nat → Int32 → Mem → Option (Int32 × Mem), (∀ (a0 : Nat) (a1 : Nat) (a2 : Int32) (μ : Mem), f  0 a0 a1 a2 μ = none) ∧ (∀ (n : Nat) (a0 : Nat) (a1 : Nat) (a2 : Int32) (μ : Mem), f  (n + 1) a0 a1 a2 μ = (if (8 : Int32) ≤ a2 then some ((1 : Int32), μ) else gd (inb a2 8) (gd (inb a2 8) ((if (μ.1 (a0 + 2) a2.toNatClampNeg) = (μ.1 (a1 + 2) a2.toNatClampNeg) then bv (a2 + 1) (fun v15 => f n a0 a1 v15 μ) else some ((0 : Int32), μ)))))) := ⟨fun n => Nat.rec (fun (a0 : Nat) (a1 : Nat) (a2 : Int32) (μ : Mem) => none) (fun _ ih => fun (a0 : Nat) (a1 : Nat) (a2 : Int32) (μ : Mem) => (if (8 : Int32) ≤ a2 then some ((1 : Int32), μ) else gd (inb a2 8) (gd (inb a2 8) ((if (μ.1 (a0 + 2) a2.toNatClampNeg) = (μ.1 (a1 + 2) a2.toNatClampNeg) then bv (a2 + 1) (fun v15 => ih a0 a1 v15 μ) else some ((0 : Int32), μ)))))) n, fun  _ _ _ _ => rfl, fun  _ _ _ _ _ => rfl⟩
noncomputable def p_X1_isLike_b74 : Nat → Nat → Nat → Int32 → Mem → Option (Int32 × Mem) := Classical.choose p_X1_isLike_b74_ex
theorem p_X1_isLike_b74_z (a0 : Nat) (a1 : Nat) (a2 : Int32) (μ : Mem) : p_X1_isLike_b74  0 a0 a1 a2 μ = none := (Classical.choose_spec p_X1_isLike_b74_ex).1  a0 a1 a2 μ
theorem p_X1_isLike_b74_s (n : Nat) (a0 : Nat) (a1 : Nat) (a2 : Int32) (μ : Mem) : p_X1_isLike_b74  (n + 1) a0 a1 a2 μ = (if (8 : Int32) ≤ a2 then some ((1 : Int32), μ) else gd (inb a2 8) (gd (inb a2 8) ((if (μ.1 (a0 + 2) a2.toNatClampNeg) = (μ.1 (a1 + 2) a2.toNatClampNeg) then bv (a2 + 1) (fun v15 => p_X1_isLike_b74  n a0 a1 v15 μ) else some ((0 : Int32), μ))))) := (Classical.choose_spec p_X1_isLike_b74_ex).2  n a0 a1 a2 μ
set_option maxHeartbeats 4000000 in
set_option maxRecDepth 100000 in
theorem t_X1_isLike_b74 (l : Launch) (G : Gt) (ad : Nat → Nat) (av : List Value) {r : Int32} {μz : Mem} : ∀ (n : Nat) (a0 : Nat) (q0 : sh 0 a0 = (0, 0)) (a1 : Nat) (q1 : sh 0 a1 = (0, 0)) (a2 : Int32) (μ : Mem), p_X1_isLike_b74  n a0 a1 a2 μ = some (r, μz) → Bk l cX1_isLike 3 RX1 (some .boolean) ({ frames := 2, cells := 0, slots := 0, locals := 44 } : Room) G av (eI 0 G ad r μz) (wd 0 G ad μ) 74 [(0, .ref (ad a0)), (1, .ref (ad a1)), (2, .int a2)] [] := by
  intro n
  induction n with
  | zero => intro a0 q0 a1 q1 a2 μ h; rw [p_X1_isLike_b74_z] at h; cases h
  | succ n ih =>
    intro a0 q0 a1 q1 a2 μ h p e s m below meth c A ls H locs cx hr hlk hA hl hw
    have hx := cx.1
    have hb := cx.2.1
    rw [p_X1_isLike_b74_s] at h
    refine lv_iload_n hx hb dX1_isLike_74 rfl (lv_at hl 2 rfl) ?_
    refine lv_bipush (v := 8) hx hb dX1_isLike_75 (by decide) ?_
    refine lv_icmp_ge (tgt := 103) hx hb dX1_isLike_77 (by decide) (fun c13 => ?_) (fun c13 => ?_)
    · rw [if_pos c13] at h
      refine lv_iconst (v := 1) hx hb dX1_isLike_103 (by decide) ?_
      exact g_zret cx hr hlk rfl hw h dX1_isLike_104
    · rw [if_neg c13] at h
      refine lv_aload_n hx hb dX1_isLike_80 rfl (lv_at hl 0 rfl) ?_
      refine g_get cx hw inX1 (ci := 0) rfl 8 (by decide) rfl (v := .ref (ad (a0 + 2))) q0 rfl fl_X1_15 dX1_isLike_81 ?_
      refine lv_iload_n hx hb dX1_isLike_84 rfl (lv_at hl 2 rfl) ?_
      refine g_iald cx hw (rl_X1_8 q0) h dX1_isLike_85 (fun h => ?_)
      refine lv_aload_n hx hb dX1_isLike_86 rfl (lv_at hl 1 rfl) ?_
      refine g_get cx hw inX1 (ci := 0) rfl 8 (by decide) rfl (v := .ref (ad (a1 + 2))) q1 rfl fl_X1_15 dX1_isLike_87 ?_
      refine lv_iload_n hx hb dX1_isLike_90 rfl (lv_at hl 2 rfl) ?_
      refine g_iald cx hw (rl_X1_8 q1) h dX1_isLike_91 (fun h => ?_)
      refine lv_icmp_eq (tgt := 97) hx hb dX1_isLike_92 (by decide) (fun c14 => ?_) (fun c14 => ?_)
      · rw [if_pos c14] at h
        obtain ⟨v15, ev15, h⟩ := bv_ex h
        refine lv_iinc (v := v15) (lv' := [(2, .int v15), (0, .ref (ad a0)), (1, .ref (ad a1))]) hx hb dX1_isLike_97 hl (k := 2) rfl (by rw [ev15]; rfl) (by decide) rfl (fun ls hl => ?_)
        refine lv_goto (tgt := 74) hx hb dX1_isLike_100 (by decide) ?_
        exact ih a0 q0 a1 q1 v15 μ h p e s m below meth c A ls H locs cx hr hlk hA (lv_sub hl [1, 2, 0] rfl) hw
      · rw [if_neg c14] at h
        refine lv_iconst (v := 0) hx hb dX1_isLike_95 (by decide) ?_
        exact g_zret cx hr hlk rfl hw h dX1_isLike_96
theorem p_X1_isLike_b40_ex : ∃ f : Nat → Nat → Nat → Int32 → Mem → Option (Int32 × Mem), (∀ (a0 : Nat) (a1 : Nat) (a2 : Int32) (μ : Mem), f  0 a0 a1 a2 μ = none) ∧ (∀ (n : Nat) (a0 : Nat) (a1 : Nat) (a2 : Int32) (μ : Mem), f  (n + 1) a0 a1 a2 μ = bd (p_X1_keptCount a0 μ) (fun r11 μ10 => (if r11 ≤ a2 then p_X1_isLike_b74  FUEL a0 a1 (0 : Int32) μ10 else gd (inb a2 60) (gd (inb a2 60) ((if (lg_cmp (μ10.2.1 (a0 + 1) a2.toNatClampNeg) (μ10.2.1 (a1 + 1) a2.toNatClampNeg)) = (0 : Int32) then bv (a2 + 1) (fun v17 => f n a0 a1 v17 μ10) else some ((0 : Int32), μ10))))))) := ⟨fun n => Nat.rec (fun (a0 : Nat) (a1 : Nat) (a2 : Int32) (μ : Mem) => none) (fun _ ih => fun (a0 : Nat) (a1 : Nat) (a2 : Int32) (μ : Mem) => bd (p_X1_keptCount a0 μ) (fun r11 μ10 => (if r11 ≤ a2 then p_X1_isLike_b74  FUEL a0 a1 (0 : Int32) μ10 else gd (inb a2 60) (gd (inb a2 60) ((if (lg_cmp (μ10.2.1 (a0 + 1) a2.toNatClampNeg) (μ10.2.1 (a1 + 1) a2.toNatClampNeg)) = (0 : Int32) then bv (a2 + 1) (fun v17 => ih a0 a1 v17 μ10) else some ((0 : Int32), μ10))))))) n, fun  _ _ _ _ => rfl, fun  _ _ _ _ _ => rfl⟩
noncomputable def p_X1_isLike_b40 : Nat → Nat → Nat → Int32 → Mem → Option (Int32 × Mem) := Classical.choose p_X1_isLike_b40_ex
theorem p_X1_isLike_b40_z (a0 : Nat) (a1 : Nat) (a2 : Int32) (μ : Mem) : p_X1_isLike_b40  0 a0 a1 a2 μ = none := (Classical.choose_spec p_X1_isLike_b40_ex).1  a0 a1 a2 μ
theorem p_X1_isLike_b40_s (n : Nat) (a0 : Nat) (a1 : Nat) (a2 : Int32) (μ : Mem) : p_X1_isLike_b40  (n + 1) a0 a1 a2 μ = bd (p_X1_keptCount a0 μ) (fun r11 μ10 => (if r11 ≤ a2 then p_X1_isLike_b74  FUEL a0 a1 (0 : Int32) μ10 else gd (inb a2 60) (gd (inb a2 60) ((if (lg_cmp (μ10.2.1 (a0 + 1) a2.toNatClampNeg) (μ10.2.1 (a1 + 1) a2.toNatClampNeg)) = (0 : Int32) then bv (a2 + 1) (fun v17 => p_X1_isLike_b40  n a0 a1 v17 μ10) else some ((0 : Int32), μ10)))))) := (Classical.choose_spec p_X1_isLike_b40_ex).2  n a0 a1 a2 μ
set_option maxHeartbeats 4000000 in
set_option maxRecDepth 100000 in
theorem t_X1_isLike_b40 (l : Launch) (G : Gt) (ad : Nat → Nat) (av : List Value) {r : Int32} {μz : Mem} : ∀ (n : Nat) (a0 : Nat) (q0 : sh 0 a0 = (0, 0)) (a1 : Nat) (q1 : sh 0 a1 = (0, 0)) (a2 : Int32) (μ : Mem), p_X1_isLike_b40  n a0 a1 a2 μ = some (r, μz) → Bk l cX1_isLike 3 RX1 (some .boolean) ({ frames := 2, cells := 0, slots := 0, locals := 44 } : Room) G av (eI 0 G ad r μz) (wd 0 G ad μ) 40 [(0, .ref (ad a0)), (1, .ref (ad a1)), (2, .int a2)] [] := by
  intro n
  induction n with
  | zero => intro a0 q0 a1 q1 a2 μ h; rw [p_X1_isLike_b40_z] at h; cases h
  | succ n ih =>
    intro a0 q0 a1 q1 a2 μ h p e s m below meth c A ls H locs cx hr hlk hA hl hw
    have hx := cx.1
    have hb := cx.2.1
    rw [p_X1_isLike_b40_s] at h
    refine lv_iload_n hx hb dX1_isLike_40 rfl (lv_at hl 2 rfl) ?_
    refine lv_aload_n hx hb dX1_isLike_41 rfl (lv_at hl 0 rfl) ?_
    obtain ⟨r11, μ10, gr11, h⟩ := bd_some h
    refine g_callVI (As := []) (rest := [.int a2]) cx hw hA (t_X1_keptCount l G ad a0 q0 μ gr11) q0 rfl ml_X1_94 im_X1_keptCount se_X1_keptCount in_X1 co_X1_keptCount rfl hd_X1_keptCount rfl ⟨(Nat.le_of_ble_eq_true rfl), (Nat.le_of_ble_eq_true rfl)⟩ hl.1 rfl (Nat.le_of_ble_eq_true rfl) dX1_isLike_42 ⟨rfl, rfl⟩ (fun H locs hw => ?_)
    refine lv_icmp_ge (tgt := 72) hx hb dX1_isLike_45 (by decide) (fun c12 => ?_) (fun c12 => ?_)
    · rw [if_pos c12] at h
      refine lv_iconst (v := 0) hx hb dX1_isLike_72 (by decide) ?_
      refine lv_istore_n (lv' := [(2, .int 0), (0, .ref (ad a0)), (1, .ref (ad a1))]) hx hb dX1_isLike_73 rfl hl (by decide) rfl (fun ls hl => ?_)
      exact t_X1_isLike_b74 l G ad av  FUEL a0 q0 a1 q1 (0 : Int32) μ10 h p e s m below meth c A ls H locs cx hr hlk hA (lv_sub hl [1, 2, 0] rfl) hw
    · rw [if_neg c12] at h
      refine lv_aload_n hx hb dX1_isLike_48 rfl (lv_at hl 0 rfl) ?_
      refine g_get cx hw inX1 (ci := 0) rfl 7 (by decide) rfl (v := .ref (ad (a0 + 1))) q0 rfl fl_X1_11 dX1_isLike_49 ?_
      refine lv_iload_n hx hb dX1_isLike_52 rfl (lv_at hl 2 rfl) ?_
      refine g_lald cx hw (rl_X1_7 q0) h dX1_isLike_53 (fun h => ?_)
      refine lv_aload_n hx hb dX1_isLike_54 rfl (lv_at hl 1 rfl) ?_
      refine g_get cx hw inX1 (ci := 0) rfl 7 (by decide) rfl (v := .ref (ad (a1 + 1))) q1 rfl fl_X1_11 dX1_isLike_55 ?_
      refine lv_iload_n hx hb dX1_isLike_58 rfl (lv_at hl 2 rfl) ?_
      refine g_lald cx hw (rl_X1_7 q1) h dX1_isLike_59 (fun h => ?_)
      refine W.lcmp hx hb dX1_isLike_60 ?_
      refine lv_if_eq (tgt := 66) hx hb dX1_isLike_61 (by decide) (fun c16 => ?_) (fun c16 => ?_)
      · rw [if_pos c16] at h
        obtain ⟨v17, ev17, h⟩ := bv_ex h
        refine lv_iinc (v := v17) (lv' := [(2, .int v17), (0, .ref (ad a0)), (1, .ref (ad a1))]) hx hb dX1_isLike_66 hl (k := 2) rfl (by rw [ev17]; rfl) (by decide) rfl (fun ls hl => ?_)
        refine lv_goto (tgt := 40) hx hb dX1_isLike_69 (by decide) ?_
        exact ih a0 q0 a1 q1 v17 μ10 h p e s m below meth c A ls H locs cx hr hlk hA (lv_sub hl [1, 2, 0] rfl) hw
      · rw [if_neg c16] at h
        refine lv_iconst (v := 0) hx hb dX1_isLike_64 (by decide) ?_
        exact g_zret cx hr hlk rfl hw h dX1_isLike_65
theorem p_X1_isLike_ex : ∃ f : Nat → Nat → Mem → Option (Int32 × Mem), ∀ (a0 : Nat) (a1 : Nat) (μ : Mem), f a0 a1 μ = (if (μ.1 a0 0) = (μ.1 a1 0) then bd (p_X2_isSame (a0 + 3) (a1 + 3) μ) (fun r3 μ2 => (if r3 = (0 : Int32) then some ((0 : Int32), μ2) else bd (p_X1_keptCount a0 μ2) (fun r6 μ5 => bd (p_X1_keptCount a1 μ5) (fun r8 μ7 => (if r6 = r8 then p_X1_isLike_b40  FUEL a0 a1 (0 : Int32) μ7 else some ((0 : Int32), μ7)))))) else some ((0 : Int32), μ)) := ⟨fun (a0 : Nat) (a1 : Nat) (μ : Mem) => (if (μ.1 a0 0) = (μ.1 a1 0) then bd (p_X2_isSame (a0 + 3) (a1 + 3) μ) (fun r3 μ2 => (if r3 = (0 : Int32) then some ((0 : Int32), μ2) else bd (p_X1_keptCount a0 μ2) (fun r6 μ5 => bd (p_X1_keptCount a1 μ5) (fun r8 μ7 => (if r6 = r8 then p_X1_isLike_b40  FUEL a0 a1 (0 : Int32) μ7 else some ((0 : Int32), μ7)))))) else some ((0 : Int32), μ)), fun _ _ _ => rfl⟩
noncomputable def p_X1_isLike : Nat → Nat → Mem → Option (Int32 × Mem) := Classical.choose p_X1_isLike_ex
theorem p_X1_isLike_eq (a0 : Nat) (a1 : Nat) (μ : Mem) : p_X1_isLike a0 a1 μ = (if (μ.1 a0 0) = (μ.1 a1 0) then bd (p_X2_isSame (a0 + 3) (a1 + 3) μ) (fun r3 μ2 => (if r3 = (0 : Int32) then some ((0 : Int32), μ2) else bd (p_X1_keptCount a0 μ2) (fun r6 μ5 => bd (p_X1_keptCount a1 μ5) (fun r8 μ7 => (if r6 = r8 then p_X1_isLike_b40  FUEL a0 a1 (0 : Int32) μ7 else some ((0 : Int32), μ7)))))) else some ((0 : Int32), μ)) := Classical.choose_spec p_X1_isLike_ex a0 a1 μ
set_option maxHeartbeats 4000000 in
set_option maxRecDepth 100000 in
theorem t_X1_isLike (l : Launch) (G : Gt) (ad : Nat → Nat) (a0 : Nat) (q0 : sh 0 a0 = (0, 0)) (a1 : Nat) (q1 : sh 0 a1 = (0, 0)) (μ : Mem) {r : Int32} {μz : Mem} (h : p_X1_isLike a0 a1 μ = some (r, μz)) : Mt l yX1_isLike cX1_isLike 3 (some .boolean) ({ frames := 2, cells := 0, slots := 0, locals := 44 } : Room) G [.ref (ad a0), .ref (ad a1)] (wd 0 G ad μ) (eI 0 G ad r μz) := by
  refine Bk.mt (by decide) rfl (Nat.le_of_ble_eq_true rfl) ?_
  intro p e s m below meth c A ls H locs cx hr hlk hA hl hw
  have hx := cx.1
  have hb := cx.2.1
  have hl : lv_has ls 3 [(0, .ref (ad a0)), (1, .ref (ad a1))] := hl
  rw [p_X1_isLike_eq] at h
  refine lv_aload_n hx hb dX1_isLike_0 rfl (lv_at hl 0 rfl) ?_
  refine g_get cx hw inX1 (ci := 0) rfl 0 (by decide) rfl (v := .int (μ.1 a0 0)) q0 rfl fl_X1_31 dX1_isLike_1 ?_
  refine lv_aload_n hx hb dX1_isLike_4 rfl (lv_at hl 1 rfl) ?_
  refine g_get cx hw inX1 (ci := 0) rfl 0 (by decide) rfl (v := .int (μ.1 a1 0)) q1 rfl fl_X1_31 dX1_isLike_5 ?_
  refine lv_icmp_ne (tgt := 36) hx hb dX1_isLike_8 (by decide) (fun c1 => ?_) (fun c1 => ?_)
  · rw [if_neg c1] at h
    refine lv_iconst (v := 0) hx hb dX1_isLike_36 (by decide) ?_
    exact g_zret cx hr hlk rfl hw h dX1_isLike_37
  · rw [if_pos c1] at h
    refine lv_aload_n hx hb dX1_isLike_11 rfl (lv_at hl 0 rfl) ?_
    refine g_get cx hw inX1 (ci := 0) rfl 9 (by decide) rfl (v := .ref (ad (a0 + 3))) q0 rfl fl_X1_24 dX1_isLike_12 ?_
    refine lv_aload_n hx hb dX1_isLike_15 rfl (lv_at hl 1 rfl) ?_
    refine g_get cx hw inX1 (ci := 0) rfl 9 (by decide) rfl (v := .ref (ad (a1 + 3))) q1 rfl fl_X1_24 dX1_isLike_16 ?_
    obtain ⟨r3, μ2, gr3, h⟩ := bd_some h
    refine g_callVI (As := [.ref (ad (a1 + 3))]) (rest := []) cx hw hA (t_X2_isSame l G ad (a0 + 3) (rl_X1_9 q0) (a1 + 3) (rl_X1_9 q1) μ gr3) (rl_X1_9 q0) rfl ml_X1_101 im_X2_isSame se_X2_isSame in_X2 co_X2_isSame rfl hd_X2_isSame rfl ⟨(Nat.le_of_ble_eq_true rfl), (Nat.le_of_ble_eq_true rfl)⟩ hl.1 rfl (Nat.le_of_ble_eq_true rfl) dX1_isLike_19 ⟨rfl, rfl⟩ (fun H locs hw => ?_)
    refine lv_if_eq (tgt := 36) hx hb dX1_isLike_22 (by decide) (fun c4 => ?_) (fun c4 => ?_)
    · rw [if_pos c4] at h
      refine lv_iconst (v := 0) hx hb dX1_isLike_36 (by decide) ?_
      exact g_zret cx hr hlk rfl hw h dX1_isLike_37
    · rw [if_neg c4] at h
      refine lv_aload_n hx hb dX1_isLike_25 rfl (lv_at hl 0 rfl) ?_
      obtain ⟨r6, μ5, gr6, h⟩ := bd_some h
      refine g_callVI (As := []) (rest := []) cx hw hA (t_X1_keptCount l G ad a0 q0 μ2 gr6) q0 rfl ml_X1_94 im_X1_keptCount se_X1_keptCount in_X1 co_X1_keptCount rfl hd_X1_keptCount rfl ⟨(Nat.le_of_ble_eq_true rfl), (Nat.le_of_ble_eq_true rfl)⟩ hl.1 rfl (Nat.le_of_ble_eq_true rfl) dX1_isLike_26 ⟨rfl, rfl⟩ (fun H locs hw => ?_)
      refine lv_aload_n hx hb dX1_isLike_29 rfl (lv_at hl 1 rfl) ?_
      obtain ⟨r8, μ7, gr8, h⟩ := bd_some h
      refine g_callVI (As := []) (rest := [.int r6]) cx hw hA (t_X1_keptCount l G ad a1 q1 μ5 gr8) q1 rfl ml_X1_94 im_X1_keptCount se_X1_keptCount in_X1 co_X1_keptCount rfl hd_X1_keptCount rfl ⟨(Nat.le_of_ble_eq_true rfl), (Nat.le_of_ble_eq_true rfl)⟩ hl.1 rfl (Nat.le_of_ble_eq_true rfl) dX1_isLike_30 ⟨rfl, rfl⟩ (fun H locs hw => ?_)
      refine lv_icmp_eq (tgt := 38) hx hb dX1_isLike_33 (by decide) (fun c9 => ?_) (fun c9 => ?_)
      · rw [if_pos c9] at h
        refine lv_iconst (v := 0) hx hb dX1_isLike_38 (by decide) ?_
        refine lv_istore_n (lv' := [(2, .int 0), (0, .ref (ad a0)), (1, .ref (ad a1))]) hx hb dX1_isLike_39 rfl hl (by decide) rfl (fun ls hl => ?_)
        exact t_X1_isLike_b40 l G ad _  FUEL a0 q0 a1 q1 (0 : Int32) μ7 h p e s m below meth c A ls H locs cx hr hlk hA (lv_sub hl [1, 2, 0] rfl) hw
      · rw [if_neg c9] at h
        refine lv_iconst (v := 0) hx hb dX1_isLike_36 (by decide) ?_
        exact g_zret cx hr hlk rfl hw h dX1_isLike_37

theorem p_X11_agree_ex : ∃ f : Mem → Option (Int32 × Mem), ∀  (μ : Mem), f  μ = bd (p_X11_runBoth μ) (fun r2 μ1 => (if r2 = (0 : Int32) then some ((-1 : Int32), μ1) else bd (p_X1_isLike 125 131 μ1) (fun r5 μ4 => (if r5 = (0 : Int32) then some ((0 : Int32), μ4) else some ((1 : Int32), μ4))))) := ⟨fun  (μ : Mem) => bd (p_X11_runBoth μ) (fun r2 μ1 => (if r2 = (0 : Int32) then some ((-1 : Int32), μ1) else bd (p_X1_isLike 125 131 μ1) (fun r5 μ4 => (if r5 = (0 : Int32) then some ((0 : Int32), μ4) else some ((1 : Int32), μ4))))), fun _ => rfl⟩
noncomputable def p_X11_agree : Mem → Option (Int32 × Mem) := Classical.choose p_X11_agree_ex
theorem p_X11_agree_eq  (μ : Mem) : p_X11_agree  μ = bd (p_X11_runBoth μ) (fun r2 μ1 => (if r2 = (0 : Int32) then some ((-1 : Int32), μ1) else bd (p_X1_isLike 125 131 μ1) (fun r5 μ4 => (if r5 = (0 : Int32) then some ((0 : Int32), μ4) else some ((1 : Int32), μ4))))) := Classical.choose_spec p_X11_agree_ex  μ
set_option maxHeartbeats 4000000 in
set_option maxRecDepth 100000 in
theorem t_X11_agree (l : Launch) (G : Gt) (ad : Nat → Nat)  (μ : Mem) {r : Int32} {μz : Mem} (h : p_X11_agree  μ = some (r, μz)) : Mt l yX11_agree cX11_agree 1 (some .int) ({ frames := 8, cells := 0, slots := 0, locals := 208 } : Room) G [.ref (ad 0)] (wd 0 G ad μ) (eI 0 G ad r μz) := by
  refine Bk.mt (by decide) rfl (Nat.le_of_ble_eq_true rfl) ?_
  intro p e s m below meth c A ls H locs cx hr hlk hA hl hw
  have hx := cx.1
  have hb := cx.2.1
  have hl : lv_has ls 1 [(0, .ref (ad 0))] := hl
  rw [p_X11_agree_eq] at h
  refine lv_aload_n hx hb dX11_agree_0 rfl (lv_at hl 0 rfl) ?_
  obtain ⟨r2, μ1, gr2, h⟩ := bd_some h
  refine g_callVI (As := []) (rest := []) cx hw hA (t_X11_runBoth l G ad μ gr2) shx_0 rfl ml_X11_245 im_X11_runBoth se_X11_runBoth in_X11 co_X11_runBoth rfl hd_X11_runBoth rfl ⟨(Nat.le_of_ble_eq_true rfl), (Nat.le_of_ble_eq_true rfl)⟩ hl.1 rfl (Nat.le_of_ble_eq_true rfl) dX11_agree_1 ⟨rfl, rfl⟩ (fun H locs hw => ?_)
  refine lv_if_ne (tgt := 9) hx hb dX11_agree_4 (by decide) (fun c3 => ?_) (fun c3 => ?_)
  · rw [if_neg c3] at h
    refine lv_aload_n hx hb dX11_agree_9 rfl (lv_at hl 0 rfl) ?_
    refine g_get cx hw inX11 (ci := 10) rfl 16 (by decide) rfl (v := .ref (ad 125)) shx_0 rfl fl_X11_105 dX11_agree_10 ?_
    refine lv_aload_n hx hb dX11_agree_13 rfl (lv_at hl 0 rfl) ?_
    refine g_get cx hw inX11 (ci := 10) rfl 17 (by decide) rfl (v := .ref (ad 131)) shx_0 rfl fl_X11_108 dX11_agree_14 ?_
    obtain ⟨r5, μ4, gr5, h⟩ := bd_some h
    refine g_callVI (As := [.ref (ad 131)]) (rest := []) cx hw hA (t_X1_isLike l G ad 125 shx_125 131 shx_131 μ1 gr5) shx_125 rfl ml_X11_248 im_X1_isLike se_X1_isLike in_X1 co_X1_isLike rfl hd_X1_isLike rfl ⟨(Nat.le_of_ble_eq_true rfl), (Nat.le_of_ble_eq_true rfl)⟩ hl.1 rfl (Nat.le_of_ble_eq_true rfl) dX11_agree_17 ⟨rfl, rfl⟩ (fun H locs hw => ?_)
    refine lv_if_eq (tgt := 27) hx hb dX11_agree_20 (by decide) (fun c6 => ?_) (fun c6 => ?_)
    · rw [if_pos c6] at h
      refine lv_iconst (v := 0) hx hb dX11_agree_27 (by decide) ?_
      exact g_iret cx hr hlk hw h dX11_agree_28
    · rw [if_neg c6] at h
      refine lv_iconst (v := 1) hx hb dX11_agree_23 (by decide) ?_
      refine lv_goto (tgt := 28) hx hb dX11_agree_24 (by decide) ?_
      exact g_iret cx hr hlk hw h dX11_agree_28
  · rw [if_pos c3] at h
    refine lv_iconst (v := (-1)) hx hb dX11_agree_7 (by decide) ?_
    exact g_iret cx hr hlk hw h dX11_agree_8

theorem p_X11_saved_ex : ∃ f : Mem → Option (Int32 × Mem), ∀  (μ : Mem), f  μ = bd (p_X11_runBoth μ) (fun r2 μ1 => (if r2 = (0 : Int32) then some ((-1000 : Int32), μ1) else (if (μ1.1 125 0) = (0 : Int32) then (if (μ1.1 131 0) = (0 : Int32) then some (((μ1.1 125 1) - (μ1.1 131 1)), μ1) else some ((-1000 : Int32), μ1)) else some ((-1000 : Int32), μ1)))) := ⟨fun  (μ : Mem) => bd (p_X11_runBoth μ) (fun r2 μ1 => (if r2 = (0 : Int32) then some ((-1000 : Int32), μ1) else (if (μ1.1 125 0) = (0 : Int32) then (if (μ1.1 131 0) = (0 : Int32) then some (((μ1.1 125 1) - (μ1.1 131 1)), μ1) else some ((-1000 : Int32), μ1)) else some ((-1000 : Int32), μ1)))), fun _ => rfl⟩
noncomputable def p_X11_saved : Mem → Option (Int32 × Mem) := Classical.choose p_X11_saved_ex
theorem p_X11_saved_eq  (μ : Mem) : p_X11_saved  μ = bd (p_X11_runBoth μ) (fun r2 μ1 => (if r2 = (0 : Int32) then some ((-1000 : Int32), μ1) else (if (μ1.1 125 0) = (0 : Int32) then (if (μ1.1 131 0) = (0 : Int32) then some (((μ1.1 125 1) - (μ1.1 131 1)), μ1) else some ((-1000 : Int32), μ1)) else some ((-1000 : Int32), μ1)))) := Classical.choose_spec p_X11_saved_ex  μ
set_option maxHeartbeats 4000000 in
set_option maxRecDepth 100000 in
theorem t_X11_saved (l : Launch) (G : Gt) (ad : Nat → Nat)  (μ : Mem) {r : Int32} {μz : Mem} (h : p_X11_saved  μ = some (r, μz)) : Mt l yX11_saved cX11_saved 1 (some .int) ({ frames := 8, cells := 0, slots := 0, locals := 208 } : Room) G [.ref (ad 0)] (wd 0 G ad μ) (eI 0 G ad r μz) := by
  refine Bk.mt (by decide) rfl (Nat.le_of_ble_eq_true rfl) ?_
  intro p e s m below meth c A ls H locs cx hr hlk hA hl hw
  have hx := cx.1
  have hb := cx.2.1
  have hl : lv_has ls 1 [(0, .ref (ad 0))] := hl
  rw [p_X11_saved_eq] at h
  refine lv_aload_n hx hb dX11_saved_0 rfl (lv_at hl 0 rfl) ?_
  obtain ⟨r2, μ1, gr2, h⟩ := bd_some h
  refine g_callVI (As := []) (rest := []) cx hw hA (t_X11_runBoth l G ad μ gr2) shx_0 rfl ml_X11_245 im_X11_runBoth se_X11_runBoth in_X11 co_X11_runBoth rfl hd_X11_runBoth rfl ⟨(Nat.le_of_ble_eq_true rfl), (Nat.le_of_ble_eq_true rfl)⟩ hl.1 rfl (Nat.le_of_ble_eq_true rfl) dX11_saved_1 ⟨rfl, rfl⟩ (fun H locs hw => ?_)
  refine lv_if_eq (tgt := 27) hx hb dX11_saved_4 (by decide) (fun c3 => ?_) (fun c3 => ?_)
  · rw [if_pos c3] at h
    refine lv_sipush (v := (-1000)) hx hb dX11_saved_27 (by decide) ?_
    exact g_iret cx hr hlk hw h dX11_saved_30
  · rw [if_neg c3] at h
    refine lv_aload_n hx hb dX11_saved_7 rfl (lv_at hl 0 rfl) ?_
    refine g_get cx hw inX11 (ci := 10) rfl 16 (by decide) rfl (v := .ref (ad 125)) shx_0 rfl fl_X11_105 dX11_saved_8 ?_
    refine g_get cx hw inX1 (ci := 0) rfl 0 (by decide) rfl (v := .int (μ1.1 125 0)) shx_125 rfl fl_X11_214 dX11_saved_11 ?_
    refine lv_if_ne (tgt := 27) hx hb dX11_saved_14 (by decide) (fun c4 => ?_) (fun c4 => ?_)
    · rw [if_neg c4] at h
      refine lv_sipush (v := (-1000)) hx hb dX11_saved_27 (by decide) ?_
      exact g_iret cx hr hlk hw h dX11_saved_30
    · rw [if_pos c4] at h
      refine lv_aload_n hx hb dX11_saved_17 rfl (lv_at hl 0 rfl) ?_
      refine g_get cx hw inX11 (ci := 10) rfl 17 (by decide) rfl (v := .ref (ad 131)) shx_0 rfl fl_X11_108 dX11_saved_18 ?_
      refine g_get cx hw inX1 (ci := 0) rfl 0 (by decide) rfl (v := .int (μ1.1 131 0)) shx_131 rfl fl_X11_214 dX11_saved_21 ?_
      refine lv_if_eq (tgt := 31) hx hb dX11_saved_24 (by decide) (fun c5 => ?_) (fun c5 => ?_)
      · rw [if_pos c5] at h
        refine lv_aload_n hx hb dX11_saved_31 rfl (lv_at hl 0 rfl) ?_
        refine g_get cx hw inX11 (ci := 10) rfl 16 (by decide) rfl (v := .ref (ad 125)) shx_0 rfl fl_X11_105 dX11_saved_32 ?_
        refine g_get cx hw inX1 (ci := 0) rfl 1 (by decide) rfl (v := .int (μ1.1 125 1)) shx_125 rfl fl_X11_252 dX11_saved_35 ?_
        refine lv_aload_n hx hb dX11_saved_38 rfl (lv_at hl 0 rfl) ?_
        refine g_get cx hw inX11 (ci := 10) rfl 17 (by decide) rfl (v := .ref (ad 131)) shx_0 rfl fl_X11_108 dX11_saved_39 ?_
        refine g_get cx hw inX1 (ci := 0) rfl 1 (by decide) rfl (v := .int (μ1.1 131 1)) shx_131 rfl fl_X11_252 dX11_saved_42 ?_
        refine lv_isub hx hb dX11_saved_45 ?_
        exact g_iret cx hr hlk hw h dX11_saved_46
      · rw [if_neg c5] at h
        refine lv_sipush (v := (-1000)) hx hb dX11_saved_27 (by decide) ?_
        exact g_iret cx hr hlk hw h dX11_saved_30

theorem p_X11_op_ex : ∃ f : Int32 → Int32 → Int32 → Mem → Option (Int32 × Mem), ∀ (a1 : Int32) (a2 : Int32) (a3 : Int32) (μ : Mem), f a1 a2 a3 μ = (if (s_X0_isSign a2) = (0 : Int32) then some ((0 : Int32), μ) else bv (s_X0_apply a2 (s_X0_make (1 : Int32) a1) (s_X0_make (1 : Int32) a3)) (fun v2 => some ((s_X0_bits v2), μ))) := ⟨fun (a1 : Int32) (a2 : Int32) (a3 : Int32) (μ : Mem) => (if (s_X0_isSign a2) = (0 : Int32) then some ((0 : Int32), μ) else bv (s_X0_apply a2 (s_X0_make (1 : Int32) a1) (s_X0_make (1 : Int32) a3)) (fun v2 => some ((s_X0_bits v2), μ))), fun _ _ _ _ => rfl⟩
noncomputable def p_X11_op : Int32 → Int32 → Int32 → Mem → Option (Int32 × Mem) := Classical.choose p_X11_op_ex
theorem p_X11_op_eq (a1 : Int32) (a2 : Int32) (a3 : Int32) (μ : Mem) : p_X11_op a1 a2 a3 μ = (if (s_X0_isSign a2) = (0 : Int32) then some ((0 : Int32), μ) else bv (s_X0_apply a2 (s_X0_make (1 : Int32) a1) (s_X0_make (1 : Int32) a3)) (fun v2 => some ((s_X0_bits v2), μ))) := Classical.choose_spec p_X11_op_ex a1 a2 a3 μ
set_option maxHeartbeats 4000000 in
set_option maxRecDepth 100000 in
theorem t_X11_op (l : Launch) (G : Gt) (ad : Nat → Nat) (a1 : Int32) (a2 : Int32) (a3 : Int32) (μ : Mem) {r : Int32} {μz : Mem} (h : p_X11_op a1 a2 a3 μ = some (r, μz)) : Mt l yX11_op cX11_op 6 (some .int) ({ frames := 5, cells := 0, slots := 0, locals := 135 } : Room) G [.ref (ad 0), .int a1, .int a2, .int a3] (wd 0 G ad μ) (eI 0 G ad r μz) := by
  refine Bk.mt (by decide) rfl (Nat.le_of_ble_eq_true rfl) ?_
  intro p e s m below meth c A ls H locs cx hr hlk hA hl hw
  have hx := cx.1
  have hb := cx.2.1
  have hl : lv_has ls 6 [(0, .ref (ad 0)), (1, .int a1), (2, .int a2), (3, .int a3)] := hl
  rw [p_X11_op_eq] at h
  refine lv_iload_n hx hb dX11_op_0 rfl (lv_at hl 2 rfl) ?_
  refine s_callI (As := [.int a2]) (rest := []) cx hw hA (t_X0_isSign l G a2) ml_X11_255 st_X0_isSign in_X0 co_X0_isSign hd_X0_isSign rfl ⟨(Nat.le_of_ble_eq_true rfl), (Nat.le_of_ble_eq_true rfl)⟩ hl.1 rfl (Nat.le_of_ble_eq_true rfl) dX11_op_1 rfl (fun H locs hw => ?_)
  refine lv_if_ne (tgt := 9) hx hb dX11_op_4 (by decide) (fun c1 => ?_) (fun c1 => ?_)
  · rw [if_neg c1] at h
    refine lv_iload_n hx hb dX11_op_9 rfl (lv_at hl 2 rfl) ?_
    refine lv_iconst (v := 1) hx hb dX11_op_10 (by decide) ?_
    refine lv_iload_n hx hb dX11_op_11 rfl (lv_at hl 1 rfl) ?_
    refine s_callL (As := [.int 1, .int a1]) (rest := [.int a2]) cx hw hA (t_X0_make l G (1 : Int32) a1) ml_X11_260 st_X0_make in_X0 co_X0_make hd_X0_make rfl ⟨(Nat.le_of_ble_eq_true rfl), (Nat.le_of_ble_eq_true rfl)⟩ hl.1 rfl (Nat.le_of_ble_eq_true rfl) dX11_op_12 rfl (fun H locs hw => ?_)
    refine lv_iconst (v := 1) hx hb dX11_op_15 (by decide) ?_
    refine lv_iload_n hx hb dX11_op_16 rfl (lv_at hl 3 rfl) ?_
    refine s_callL (As := [.int 1, .int a3]) (rest := [.long (s_X0_make (1 : Int32) a1), .int a2]) cx hw hA (t_X0_make l G (1 : Int32) a3) ml_X11_260 st_X0_make in_X0 co_X0_make hd_X0_make rfl ⟨(Nat.le_of_ble_eq_true rfl), (Nat.le_of_ble_eq_true rfl)⟩ hl.1 rfl (Nat.le_of_ble_eq_true rfl) dX11_op_17 rfl (fun H locs hw => ?_)
    refine s_callL (As := [.int a2, .long (s_X0_make (1 : Int32) a1), .long (s_X0_make (1 : Int32) a3)]) (rest := []) cx hw hA (t_X0_apply l G a2 (s_X0_make (1 : Int32) a1) (s_X0_make (1 : Int32) a3)) ml_X11_264 st_X0_apply in_X0 co_X0_apply hd_X0_apply rfl ⟨(Nat.le_of_ble_eq_true rfl), (Nat.le_of_ble_eq_true rfl)⟩ hl.1 rfl (Nat.le_of_ble_eq_true rfl) dX11_op_20 rfl (fun H locs hw => ?_)
    obtain ⟨v2, ev2, h⟩ := bv_ex h
    refine lv_topl (fun y9 z9 => ?_)
    obtain rfl : v2 = y9 := ev2.trans z9.symm
    refine lv_lstore (lv' := [(4, .long v2), (0, .ref (ad 0)), (1, .int a1), (2, .int a2), (3, .int a3)]) hx hb dX11_op_23 hl (by decide) rfl (fun ls hl => ?_)
    refine lv_lload hx hb dX11_op_25 (lv_at hl 0 rfl) ?_
    refine s_callI (As := [.long v2]) (rest := []) cx hw hA (t_X0_bits l G v2) ml_X11_268 st_X0_bits in_X0 co_X0_bits hd_X0_bits rfl ⟨(Nat.le_of_ble_eq_true rfl), (Nat.le_of_ble_eq_true rfl)⟩ hl.1 rfl (Nat.le_of_ble_eq_true rfl) dX11_op_27 rfl (fun H locs hw => ?_)
    exact g_iret cx hr hlk hw h dX11_op_30
  · rw [if_pos c1] at h
    refine lv_iconst (v := 0) hx hb dX11_op_7 (by decide) ?_
    exact g_iret cx hr hlk hw h dX11_op_8
