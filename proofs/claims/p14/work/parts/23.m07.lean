theorem p_X10_takePart_b19_ex : ∃ f : Int64 → Int32 → Mem → Option Mem, ∀ (a2 : Int64) (k0 : Int32) (μ : Mem), f a2 k0 μ = (if (s_X0_kind a2) = (3 : Int32) then (if k0 = (0 : Int32) then bd (p_X10_leave (5 : Int32) (0 : Int32) a2 (0 : Int64) μ) (fun r16 μ15 => bw (p_X8_push r16 μ15) (fun μ17 => some μ17)) else bd (p_X10_leave (4 : Int32) (0 : Int32) a2 (0 : Int64) μ) (fun r20 μ19 => bw (p_X8_push r20 μ19) (fun μ21 => some μ21))) else (if k0 = (0 : Int32) then bd (p_X8_secondOf a2 μ) (fun r7 μ6 => bw (p_X8_push r7 μ6) (fun μ8 => some μ8)) else bd (p_X8_firstOf a2 μ) (fun r11 μ10 => bw (p_X8_push r11 μ10) (fun μ12 => some μ12)))) := ⟨fun (a2 : Int64) (k0 : Int32) (μ : Mem) => (if (s_X0_kind a2) = (3 : Int32) then (if k0 = (0 : Int32) then bd (p_X10_leave (5 : Int32) (0 : Int32) a2 (0 : Int64) μ) (fun r16 μ15 => bw (p_X8_push r16 μ15) (fun μ17 => some μ17)) else bd (p_X10_leave (4 : Int32) (0 : Int32) a2 (0 : Int64) μ) (fun r20 μ19 => bw (p_X8_push r20 μ19) (fun μ21 => some μ21))) else (if k0 = (0 : Int32) then bd (p_X8_secondOf a2 μ) (fun r7 μ6 => bw (p_X8_push r7 μ6) (fun μ8 => some μ8)) else bd (p_X8_firstOf a2 μ) (fun r11 μ10 => bw (p_X8_push r11 μ10) (fun μ12 => some μ12)))), fun _ _ _ => rfl⟩
noncomputable def p_X10_takePart_b19 : Int64 → Int32 → Mem → Option Mem := Classical.choose p_X10_takePart_b19_ex
theorem p_X10_takePart_b19_eq (a2 : Int64) (k0 : Int32) (μ : Mem) : p_X10_takePart_b19 a2 k0 μ = (if (s_X0_kind a2) = (3 : Int32) then (if k0 = (0 : Int32) then bd (p_X10_leave (5 : Int32) (0 : Int32) a2 (0 : Int64) μ) (fun r16 μ15 => bw (p_X8_push r16 μ15) (fun μ17 => some μ17)) else bd (p_X10_leave (4 : Int32) (0 : Int32) a2 (0 : Int64) μ) (fun r20 μ19 => bw (p_X8_push r20 μ19) (fun μ21 => some μ21))) else (if k0 = (0 : Int32) then bd (p_X8_secondOf a2 μ) (fun r7 μ6 => bw (p_X8_push r7 μ6) (fun μ8 => some μ8)) else bd (p_X8_firstOf a2 μ) (fun r11 μ10 => bw (p_X8_push r11 μ10) (fun μ12 => some μ12)))) := Classical.choose_spec p_X10_takePart_b19_ex a2 k0 μ
set_option maxHeartbeats 4000000 in
set_option maxRecDepth 100000 in
theorem t_X10_takePart_b19 (l : Launch) (G : Gt) (ad : Nat → Nat) (av : List Value) {μz : Mem} (a2 : Int64) (k0 : Int32) (μ : Mem) (h : p_X10_takePart_b19  a2 k0 μ = some μz) : Bk l cX10_takePart 5 RX10 none ({ frames := 2, cells := 0, slots := 0, locals := 55 } : Room) G av (eV 0 G ad μz) (wd 0 G ad μ) 19 [(0, .ref (ad 137)), (2, .long a2)] [.int k0] := by
  intro p e s m below meth c A ls H locs cx hr hlk hA hl hw
  have hx := cx.1
  have hb := cx.2.1
  rw [p_X10_takePart_b19_eq] at h
  refine lv_istore (lv' := [(4, .int k0), (0, .ref (ad 137)), (2, .long a2)]) hx hb dX10_takePart_19 hl (by decide) rfl (fun ls hl => ?_)
  refine lv_lload_n hx hb dX10_takePart_21 rfl (lv_at hl 2 rfl) ?_
  refine s_callI (As := [.long a2]) (rest := []) cx hw hA (t_X0_kind l G a2) ml_X10_253 st_X0_kind in_X0 co_X0_kind hd_X0_kind rfl ⟨(Nat.le_of_ble_eq_true rfl), (Nat.le_of_ble_eq_true rfl)⟩ hl.1 rfl (Nat.le_of_ble_eq_true rfl) dX10_takePart_22 rfl (fun H locs hw => ?_)
  refine lv_iconst (v := 3) hx hb dX10_takePart_25 (by decide) ?_
  refine lv_icmp_ne (tgt := 56) hx hb dX10_takePart_26 (by decide) (fun c4 => ?_) (fun c4 => ?_)
  · rw [if_neg c4] at h
    refine lv_aload_n hx hb dX10_takePart_56 rfl (lv_at hl 1 rfl) ?_
    refine g_get cx hw inX10 (ci := 9) rfl 3 (by decide) rfl (v := .ref (ad 30)) shx_137 rfl fl_X10_21 dX10_takePart_57 ?_
    refine lv_iload hx hb dX10_takePart_60 (lv_at hl 0 rfl) ?_
    refine lv_if_eq (tgt := 76) hx hb dX10_takePart_62 (by decide) (fun c5 => ?_) (fun c5 => ?_)
    · rw [if_pos c5] at h
      refine lv_aload_n hx hb dX10_takePart_76 rfl (lv_at hl 1 rfl) ?_
      refine g_get cx hw inX10 (ci := 9) rfl 3 (by decide) rfl (v := .ref (ad 30)) shx_137 rfl fl_X10_21 dX10_takePart_77 ?_
      refine lv_lload_n hx hb dX10_takePart_80 rfl (lv_at hl 2 rfl) ?_
      obtain ⟨r7, μ6, gr7, h⟩ := bd_some h
      refine g_callVL (As := [.long a2]) (rest := [.ref (ad 30)]) cx hw hA (t_X8_secondOf l G ad a2 μ gr7) shx_30 rfl ml_X10_244 im_X8_secondOf se_X8_secondOf in_X8 co_X8_secondOf rfl hd_X8_secondOf rfl ⟨(Nat.le_of_ble_eq_true rfl), (Nat.le_of_ble_eq_true rfl)⟩ hl.1 rfl (Nat.le_of_ble_eq_true rfl) dX10_takePart_81 ⟨rfl, rfl⟩ (fun H locs hw => ?_)
      obtain ⟨μ8, gμ8, h⟩ := bw_some h
      refine g_callVV (As := [.long r7]) (rest := []) cx hw hA (t_X8_push l G ad r7 μ6 gμ8) shx_30 rfl ml_X10_155 im_X8_push se_X8_push in_X8 co_X8_push rfl hd_X8_push rfl ⟨(Nat.le_of_ble_eq_true rfl), (Nat.le_of_ble_eq_true rfl)⟩ hl.1 rfl (Nat.le_of_ble_eq_true rfl) dX10_takePart_84 ⟨rfl, rfl⟩ (fun H locs hw => ?_)
      exact g_vret cx hr hlk hw h dX10_takePart_87
    · rw [if_neg c5] at h
      refine lv_aload_n hx hb dX10_takePart_65 rfl (lv_at hl 1 rfl) ?_
      refine g_get cx hw inX10 (ci := 9) rfl 3 (by decide) rfl (v := .ref (ad 30)) shx_137 rfl fl_X10_21 dX10_takePart_66 ?_
      refine lv_lload_n hx hb dX10_takePart_69 rfl (lv_at hl 2 rfl) ?_
      obtain ⟨r11, μ10, gr11, h⟩ := bd_some h
      refine g_callVL (As := [.long a2]) (rest := [.ref (ad 30)]) cx hw hA (t_X8_firstOf l G ad a2 μ gr11) shx_30 rfl ml_X10_241 im_X8_firstOf se_X8_firstOf in_X8 co_X8_firstOf rfl hd_X8_firstOf rfl ⟨(Nat.le_of_ble_eq_true rfl), (Nat.le_of_ble_eq_true rfl)⟩ hl.1 rfl (Nat.le_of_ble_eq_true rfl) dX10_takePart_70 ⟨rfl, rfl⟩ (fun H locs hw => ?_)
      refine lv_goto (tgt := 84) hx hb dX10_takePart_73 (by decide) ?_
      obtain ⟨μ12, gμ12, h⟩ := bw_some h
      refine g_callVV (As := [.long r11]) (rest := []) cx hw hA (t_X8_push l G ad r11 μ10 gμ12) shx_30 rfl ml_X10_155 im_X8_push se_X8_push in_X8 co_X8_push rfl hd_X8_push rfl ⟨(Nat.le_of_ble_eq_true rfl), (Nat.le_of_ble_eq_true rfl)⟩ hl.1 rfl (Nat.le_of_ble_eq_true rfl) dX10_takePart_84 ⟨rfl, rfl⟩ (fun H locs hw => ?_)
      exact g_vret cx hr hlk hw h dX10_takePart_87
  · rw [if_pos c4] at h
    refine lv_aload_n hx hb dX10_takePart_29 rfl (lv_at hl 1 rfl) ?_
    refine g_get cx hw inX10 (ci := 9) rfl 3 (by decide) rfl (v := .ref (ad 30)) shx_137 rfl fl_X10_21 dX10_takePart_30 ?_
    refine lv_aload_n hx hb dX10_takePart_33 rfl (lv_at hl 1 rfl) ?_
    refine lv_iload hx hb dX10_takePart_34 (lv_at hl 0 rfl) ?_
    refine lv_if_eq (tgt := 43) hx hb dX10_takePart_36 (by decide) (fun c14 => ?_) (fun c14 => ?_)
    · rw [if_pos c14] at h
      refine lv_iconst (v := 5) hx hb dX10_takePart_43 (by decide) ?_
      refine lv_iconst (v := 0) hx hb dX10_takePart_44 (by decide) ?_
      refine lv_lload_n hx hb dX10_takePart_45 rfl (lv_at hl 2 rfl) ?_
      refine lv_lconst (v := 0) hx hb dX10_takePart_46 (by decide) ?_
      obtain ⟨r16, μ15, gr16, h⟩ := bd_some h
      refine g_callVL (As := [.int 5, .int 0, .long a2, .long 0]) (rest := [.ref (ad 30)]) cx hw hA (t_X10_leave l G ad (5 : Int32) (0 : Int32) a2 (0 : Int64) μ gr16) shx_137 rfl ml_X10_191 im_X10_leave se_X10_leave in_X10 co_X10_leave rfl hd_X10_leave rfl ⟨(Nat.le_of_ble_eq_true rfl), (Nat.le_of_ble_eq_true rfl)⟩ hl.1 rfl (Nat.le_of_ble_eq_true rfl) dX10_takePart_47 ⟨rfl, rfl⟩ (fun H locs hw => ?_)
      obtain ⟨μ17, gμ17, h⟩ := bw_some h
      refine g_callVV (As := [.long r16]) (rest := []) cx hw hA (t_X8_push l G ad r16 μ15 gμ17) shx_30 rfl ml_X10_155 im_X8_push se_X8_push in_X8 co_X8_push rfl hd_X8_push rfl ⟨(Nat.le_of_ble_eq_true rfl), (Nat.le_of_ble_eq_true rfl)⟩ hl.1 rfl (Nat.le_of_ble_eq_true rfl) dX10_takePart_50 ⟨rfl, rfl⟩ (fun H locs hw => ?_)
      refine lv_goto (tgt := 87) hx hb dX10_takePart_53 (by decide) ?_
      exact g_vret cx hr hlk hw h dX10_takePart_87
    · rw [if_neg c14] at h
      refine lv_iconst (v := 4) hx hb dX10_takePart_39 (by decide) ?_
      refine lv_goto (tgt := 44) hx hb dX10_takePart_40 (by decide) ?_
      refine lv_iconst (v := 0) hx hb dX10_takePart_44 (by decide) ?_
      refine lv_lload_n hx hb dX10_takePart_45 rfl (lv_at hl 2 rfl) ?_
      refine lv_lconst (v := 0) hx hb dX10_takePart_46 (by decide) ?_
      obtain ⟨r20, μ19, gr20, h⟩ := bd_some h
      refine g_callVL (As := [.int 4, .int 0, .long a2, .long 0]) (rest := [.ref (ad 30)]) cx hw hA (t_X10_leave l G ad (4 : Int32) (0 : Int32) a2 (0 : Int64) μ gr20) shx_137 rfl ml_X10_191 im_X10_leave se_X10_leave in_X10 co_X10_leave rfl hd_X10_leave rfl ⟨(Nat.le_of_ble_eq_true rfl), (Nat.le_of_ble_eq_true rfl)⟩ hl.1 rfl (Nat.le_of_ble_eq_true rfl) dX10_takePart_47 ⟨rfl, rfl⟩ (fun H locs hw => ?_)
      obtain ⟨μ21, gμ21, h⟩ := bw_some h
      refine g_callVV (As := [.long r20]) (rest := []) cx hw hA (t_X8_push l G ad r20 μ19 gμ21) shx_30 rfl ml_X10_155 im_X8_push se_X8_push in_X8 co_X8_push rfl hd_X8_push rfl ⟨(Nat.le_of_ble_eq_true rfl), (Nat.le_of_ble_eq_true rfl)⟩ hl.1 rfl (Nat.le_of_ble_eq_true rfl) dX10_takePart_50 ⟨rfl, rfl⟩ (fun H locs hw => ?_)
      refine lv_goto (tgt := 87) hx hb dX10_takePart_53 (by decide) ?_
      exact g_vret cx hr hlk hw h dX10_takePart_87
theorem p_X10_takePart_ex : ∃ f : Int32 → Mem → Option Mem, ∀ (a1 : Int32) (μ : Mem), f a1 μ = bd (p_X8_pop μ) (fun r2 μ1 => (if a1 = (64 : Int32) then p_X10_takePart_b19  r2 (1 : Int32) μ1 else p_X10_takePart_b19  r2 (0 : Int32) μ1)) := ⟨fun (a1 : Int32) (μ : Mem) => bd (p_X8_pop μ) (fun r2 μ1 => (if a1 = (64 : Int32) then p_X10_takePart_b19  r2 (1 : Int32) μ1 else p_X10_takePart_b19  r2 (0 : Int32) μ1)), fun _ _ => rfl⟩
noncomputable def p_X10_takePart : Int32 → Mem → Option Mem := Classical.choose p_X10_takePart_ex
theorem p_X10_takePart_eq (a1 : Int32) (μ : Mem) : p_X10_takePart a1 μ = bd (p_X8_pop μ) (fun r2 μ1 => (if a1 = (64 : Int32) then p_X10_takePart_b19  r2 (1 : Int32) μ1 else p_X10_takePart_b19  r2 (0 : Int32) μ1)) := Classical.choose_spec p_X10_takePart_ex a1 μ
set_option maxHeartbeats 4000000 in
set_option maxRecDepth 100000 in
theorem t_X10_takePart (l : Launch) (G : Gt) (ad : Nat → Nat) (a1 : Int32) (μ : Mem) {μz : Mem} (h : p_X10_takePart a1 μ = some μz) : Mt l yX10_takePart cX10_takePart 5 none ({ frames := 2, cells := 0, slots := 0, locals := 55 } : Room) G [.ref (ad 137), .int a1] (wd 0 G ad μ) (eV 0 G ad μz) := by
  refine Bk.mt (by decide) rfl (Nat.le_of_ble_eq_true rfl) ?_
  intro p e s m below meth c A ls H locs cx hr hlk hA hl hw
  have hx := cx.1
  have hb := cx.2.1
  have hl : lv_has ls 5 [(0, .ref (ad 137)), (1, .int a1)] := hl
  rw [p_X10_takePart_eq] at h
  refine lv_aload_n hx hb dX10_takePart_0 rfl (lv_at hl 0 rfl) ?_
  refine g_get cx hw inX10 (ci := 9) rfl 3 (by decide) rfl (v := .ref (ad 30)) shx_137 rfl fl_X10_21 dX10_takePart_1 ?_
  obtain ⟨r2, μ1, gr2, h⟩ := bd_some h
  refine g_callVL (As := []) (rest := []) cx hw hA (t_X8_pop l G ad μ gr2) shx_30 rfl ml_X10_135 im_X8_pop se_X8_pop in_X8 co_X8_pop rfl hd_X8_pop rfl ⟨(Nat.le_of_ble_eq_true rfl), (Nat.le_of_ble_eq_true rfl)⟩ hl.1 rfl (Nat.le_of_ble_eq_true rfl) dX10_takePart_4 ⟨rfl, rfl⟩ (fun H locs hw => ?_)
  refine lv_lstore_n (lv' := [(2, .long r2), (0, .ref (ad 137)), (1, .int a1)]) hx hb dX10_takePart_7 rfl hl (by decide) rfl (fun ls hl => ?_)
  refine lv_iload_n hx hb dX10_takePart_8 rfl (lv_at hl 2 rfl) ?_
  refine lv_bipush (v := 64) hx hb dX10_takePart_9 (by decide) ?_
  refine lv_icmp_ne (tgt := 18) hx hb dX10_takePart_11 (by decide) (fun c3 => ?_) (fun c3 => ?_)
  · rw [if_neg c3] at h
    refine lv_iconst (v := 0) hx hb dX10_takePart_18 (by decide) ?_
    exact t_X10_takePart_b19 l G ad _  r2 (0 : Int32) μ1 h p e s m below meth c A ls H locs cx hr hlk hA (lv_sub hl [1, 0] rfl) hw
  · rw [if_pos c3] at h
    refine lv_iconst (v := 1) hx hb dX10_takePart_14 (by decide) ?_
    refine lv_goto (tgt := 19) hx hb dX10_takePart_15 (by decide) ?_
    exact t_X10_takePart_b19 l G ad _  r2 (1 : Int32) μ1 h p e s m below meth c A ls H locs cx hr hlk hA (lv_sub hl [1, 0] rfl) hw

theorem p_X8_isTooHeavy_ex : ∃ f : Int64 → Int64 → Mem → Option (Int32 × Mem), ∀ (a1 : Int64) (a3 : Int64) (μ : Mem), f a1 a3 μ = bd (p_X8_weightOf a1 μ) (fun r2 μ1 => bd (p_X8_weightOf a3 μ1) (fun r4 μ3 => (if (((1 : Int32) + r2) + r4) ≤ (40 : Int32) then some ((0 : Int32), μ3) else some ((1 : Int32), μ3)))) := ⟨fun (a1 : Int64) (a3 : Int64) (μ : Mem) => bd (p_X8_weightOf a1 μ) (fun r2 μ1 => bd (p_X8_weightOf a3 μ1) (fun r4 μ3 => (if (((1 : Int32) + r2) + r4) ≤ (40 : Int32) then some ((0 : Int32), μ3) else some ((1 : Int32), μ3)))), fun _ _ _ => rfl⟩
noncomputable def p_X8_isTooHeavy : Int64 → Int64 → Mem → Option (Int32 × Mem) := Classical.choose p_X8_isTooHeavy_ex
theorem p_X8_isTooHeavy_eq (a1 : Int64) (a3 : Int64) (μ : Mem) : p_X8_isTooHeavy a1 a3 μ = bd (p_X8_weightOf a1 μ) (fun r2 μ1 => bd (p_X8_weightOf a3 μ1) (fun r4 μ3 => (if (((1 : Int32) + r2) + r4) ≤ (40 : Int32) then some ((0 : Int32), μ3) else some ((1 : Int32), μ3)))) := Classical.choose_spec p_X8_isTooHeavy_ex a1 a3 μ
set_option maxHeartbeats 4000000 in
set_option maxRecDepth 100000 in
theorem t_X8_isTooHeavy (l : Launch) (G : Gt) (ad : Nat → Nat) (a1 : Int64) (a3 : Int64) (μ : Mem) {r : Int32} {μz : Mem} (h : p_X8_isTooHeavy a1 a3 μ = some (r, μz)) : Mt l yX8_isTooHeavy cX8_isTooHeavy 5 (some .boolean) ({ frames := 2, cells := 0, slots := 0, locals := 44 } : Room) G [.ref (ad 30), .long a1, .long a3] (wd 0 G ad μ) (eI 0 G ad r μz) := by
  refine Bk.mt (by decide) rfl (Nat.le_of_ble_eq_true rfl) ?_
  intro p e s m below meth c A ls H locs cx hr hlk hA hl hw
  have hx := cx.1
  have hb := cx.2.1
  have hl : lv_has ls 5 [(0, .ref (ad 30)), (1, .long a1), (3, .long a3)] := hl
  rw [p_X8_isTooHeavy_eq] at h
  refine lv_iconst (v := 1) hx hb dX8_isTooHeavy_0 (by decide) ?_
  refine lv_aload_n hx hb dX8_isTooHeavy_1 rfl (lv_at hl 0 rfl) ?_
  refine lv_lload_n hx hb dX8_isTooHeavy_2 rfl (lv_at hl 1 rfl) ?_
  obtain ⟨r2, μ1, gr2, h⟩ := bd_some h
  refine g_callVI (As := [.long a1]) (rest := [.int 1]) cx hw hA (t_X8_weightOf l G ad a1 μ gr2) shx_30 rfl ml_X8_75 im_X8_weightOf se_X8_weightOf in_X8 co_X8_weightOf rfl hd_X8_weightOf rfl ⟨(Nat.le_of_ble_eq_true rfl), (Nat.le_of_ble_eq_true rfl)⟩ hl.1 rfl (Nat.le_of_ble_eq_true rfl) dX8_isTooHeavy_3 ⟨rfl, rfl⟩ (fun H locs hw => ?_)
  refine lv_iadd hx hb dX8_isTooHeavy_6 ?_
  refine lv_aload_n hx hb dX8_isTooHeavy_7 rfl (lv_at hl 0 rfl) ?_
  refine lv_lload_n hx hb dX8_isTooHeavy_8 rfl (lv_at hl 2 rfl) ?_
  obtain ⟨r4, μ3, gr4, h⟩ := bd_some h
  refine g_callVI (As := [.long a3]) (rest := [.int ((1 : Int32) + r2)]) cx hw hA (t_X8_weightOf l G ad a3 μ1 gr4) shx_30 rfl ml_X8_75 im_X8_weightOf se_X8_weightOf in_X8 co_X8_weightOf rfl hd_X8_weightOf rfl ⟨(Nat.le_of_ble_eq_true rfl), (Nat.le_of_ble_eq_true rfl)⟩ hl.1 rfl (Nat.le_of_ble_eq_true rfl) dX8_isTooHeavy_9 ⟨rfl, rfl⟩ (fun H locs hw => ?_)
  refine lv_iadd hx hb dX8_isTooHeavy_12 ?_
  refine lv_bipush (v := 40) hx hb dX8_isTooHeavy_13 (by decide) ?_
  refine lv_icmp_le (tgt := 22) hx hb dX8_isTooHeavy_15 (by decide) (fun c5 => ?_) (fun c5 => ?_)
  · rw [if_pos c5] at h
    refine lv_iconst (v := 0) hx hb dX8_isTooHeavy_22 (by decide) ?_
    exact g_zret cx hr hlk rfl hw h dX8_isTooHeavy_23
  · rw [if_neg c5] at h
    refine lv_iconst (v := 1) hx hb dX8_isTooHeavy_18 (by decide) ?_
    refine lv_goto (tgt := 23) hx hb dX8_isTooHeavy_19 (by decide) ?_
    exact g_zret cx hr hlk rfl hw h dX8_isTooHeavy_23

theorem p_X10_makePair_ex : ∃ f : Mem → Option Mem, ∀  (μ : Mem), f  μ = bd (p_X8_pop μ) (fun r2 μ1 => bd (p_X8_pop μ1) (fun r4 μ3 => bd (p_X8_isTooHeavy r4 r2 μ3) (fun r6 μ5 => (if r6 = (0 : Int32) then bd (p_X8_pair r4 r2 μ5) (fun r9 μ8 => bw (p_X8_push r9 μ8) (fun μ10 => some μ10)) else bw (p_X10_breakOff (-5 : Int32) μ5) (fun μ12 => some μ12))))) := ⟨fun  (μ : Mem) => bd (p_X8_pop μ) (fun r2 μ1 => bd (p_X8_pop μ1) (fun r4 μ3 => bd (p_X8_isTooHeavy r4 r2 μ3) (fun r6 μ5 => (if r6 = (0 : Int32) then bd (p_X8_pair r4 r2 μ5) (fun r9 μ8 => bw (p_X8_push r9 μ8) (fun μ10 => some μ10)) else bw (p_X10_breakOff (-5 : Int32) μ5) (fun μ12 => some μ12))))), fun _ => rfl⟩
noncomputable def p_X10_makePair : Mem → Option Mem := Classical.choose p_X10_makePair_ex
theorem p_X10_makePair_eq  (μ : Mem) : p_X10_makePair  μ = bd (p_X8_pop μ) (fun r2 μ1 => bd (p_X8_pop μ1) (fun r4 μ3 => bd (p_X8_isTooHeavy r4 r2 μ3) (fun r6 μ5 => (if r6 = (0 : Int32) then bd (p_X8_pair r4 r2 μ5) (fun r9 μ8 => bw (p_X8_push r9 μ8) (fun μ10 => some μ10)) else bw (p_X10_breakOff (-5 : Int32) μ5) (fun μ12 => some μ12))))) := Classical.choose_spec p_X10_makePair_ex  μ
set_option maxHeartbeats 4000000 in
set_option maxRecDepth 100000 in
theorem t_X10_makePair (l : Launch) (G : Gt) (ad : Nat → Nat)  (μ : Mem) {μz : Mem} (h : p_X10_makePair  μ = some μz) : Mt l yX10_makePair cX10_makePair 5 none ({ frames := 3, cells := 0, slots := 0, locals := 68 } : Room) G [.ref (ad 137)] (wd 0 G ad μ) (eV 0 G ad μz) := by
  refine Bk.mt (by decide) rfl (Nat.le_of_ble_eq_true rfl) ?_
  intro p e s m below meth c A ls H locs cx hr hlk hA hl hw
  have hx := cx.1
  have hb := cx.2.1
  have hl : lv_has ls 5 [(0, .ref (ad 137))] := hl
  rw [p_X10_makePair_eq] at h
  refine lv_aload_n hx hb dX10_makePair_0 rfl (lv_at hl 0 rfl) ?_
  refine g_get cx hw inX10 (ci := 9) rfl 3 (by decide) rfl (v := .ref (ad 30)) shx_137 rfl fl_X10_21 dX10_makePair_1 ?_
  obtain ⟨r2, μ1, gr2, h⟩ := bd_some h
  refine g_callVL (As := []) (rest := []) cx hw hA (t_X8_pop l G ad μ gr2) shx_30 rfl ml_X10_135 im_X8_pop se_X8_pop in_X8 co_X8_pop rfl hd_X8_pop rfl ⟨(Nat.le_of_ble_eq_true rfl), (Nat.le_of_ble_eq_true rfl)⟩ hl.1 rfl (Nat.le_of_ble_eq_true rfl) dX10_makePair_4 ⟨rfl, rfl⟩ (fun H locs hw => ?_)
  refine lv_lstore_n (lv' := [(1, .long r2), (0, .ref (ad 137))]) hx hb dX10_makePair_7 rfl hl (by decide) rfl (fun ls hl => ?_)
  refine lv_aload_n hx hb dX10_makePair_8 rfl (lv_at hl 1 rfl) ?_
  refine g_get cx hw inX10 (ci := 9) rfl 3 (by decide) rfl (v := .ref (ad 30)) shx_137 rfl fl_X10_21 dX10_makePair_9 ?_
  obtain ⟨r4, μ3, gr4, h⟩ := bd_some h
  refine g_callVL (As := []) (rest := []) cx hw hA (t_X8_pop l G ad μ1 gr4) shx_30 rfl ml_X10_135 im_X8_pop se_X8_pop in_X8 co_X8_pop rfl hd_X8_pop rfl ⟨(Nat.le_of_ble_eq_true rfl), (Nat.le_of_ble_eq_true rfl)⟩ hl.1 rfl (Nat.le_of_ble_eq_true rfl) dX10_makePair_12 ⟨rfl, rfl⟩ (fun H locs hw => ?_)
  refine lv_lstore_n (lv' := [(3, .long r4), (1, .long r2), (0, .ref (ad 137))]) hx hb dX10_makePair_15 rfl hl (by decide) rfl (fun ls hl => ?_)
  refine lv_aload_n hx hb dX10_makePair_16 rfl (lv_at hl 2 rfl) ?_
  refine g_get cx hw inX10 (ci := 9) rfl 3 (by decide) rfl (v := .ref (ad 30)) shx_137 rfl fl_X10_21 dX10_makePair_17 ?_
  refine lv_lload_n hx hb dX10_makePair_20 rfl (lv_at hl 0 rfl) ?_
  refine lv_lload_n hx hb dX10_makePair_21 rfl (lv_at hl 1 rfl) ?_
  obtain ⟨r6, μ5, gr6, h⟩ := bd_some h
  refine g_callVI (As := [.long r4, .long r2]) (rest := []) cx hw hA (t_X8_isTooHeavy l G ad r4 r2 μ3 gr6) shx_30 rfl ml_X10_257 im_X8_isTooHeavy se_X8_isTooHeavy in_X8 co_X8_isTooHeavy rfl hd_X8_isTooHeavy rfl ⟨(Nat.le_of_ble_eq_true rfl), (Nat.le_of_ble_eq_true rfl)⟩ hl.1 rfl (Nat.le_of_ble_eq_true rfl) dX10_makePair_22 ⟨rfl, rfl⟩ (fun H locs hw => ?_)
  refine lv_if_eq (tgt := 37) hx hb dX10_makePair_25 (by decide) (fun c7 => ?_) (fun c7 => ?_)
  · rw [if_pos c7] at h
    refine lv_aload_n hx hb dX10_makePair_37 rfl (lv_at hl 2 rfl) ?_
    refine g_get cx hw inX10 (ci := 9) rfl 3 (by decide) rfl (v := .ref (ad 30)) shx_137 rfl fl_X10_21 dX10_makePair_38 ?_
    refine lv_aload_n hx hb dX10_makePair_41 rfl (lv_at hl 2 rfl) ?_
    refine g_get cx hw inX10 (ci := 9) rfl 3 (by decide) rfl (v := .ref (ad 30)) shx_137 rfl fl_X10_21 dX10_makePair_42 ?_
    refine lv_lload_n hx hb dX10_makePair_45 rfl (lv_at hl 0 rfl) ?_
    refine lv_lload_n hx hb dX10_makePair_46 rfl (lv_at hl 1 rfl) ?_
    obtain ⟨r9, μ8, gr9, h⟩ := bd_some h
    refine g_callVL (As := [.long r4, .long r2]) (rest := [.ref (ad 30)]) cx hw hA (t_X8_pair l G ad r4 r2 μ5 gr9) shx_30 rfl ml_X10_261 im_X8_pair se_X8_pair in_X8 co_X8_pair rfl hd_X8_pair rfl ⟨(Nat.le_of_ble_eq_true rfl), (Nat.le_of_ble_eq_true rfl)⟩ hl.1 rfl (Nat.le_of_ble_eq_true rfl) dX10_makePair_47 ⟨rfl, rfl⟩ (fun H locs hw => ?_)
    obtain ⟨μ10, gμ10, h⟩ := bw_some h
    refine g_callVV (As := [.long r9]) (rest := []) cx hw hA (t_X8_push l G ad r9 μ8 gμ10) shx_30 rfl ml_X10_155 im_X8_push se_X8_push in_X8 co_X8_push rfl hd_X8_push rfl ⟨(Nat.le_of_ble_eq_true rfl), (Nat.le_of_ble_eq_true rfl)⟩ hl.1 rfl (Nat.le_of_ble_eq_true rfl) dX10_makePair_50 ⟨rfl, rfl⟩ (fun H locs hw => ?_)
    exact g_vret cx hr hlk hw h dX10_makePair_53
  · rw [if_neg c7] at h
    refine lv_aload_n hx hb dX10_makePair_28 rfl (lv_at hl 2 rfl) ?_
    refine lv_bipush (v := (-5)) hx hb dX10_makePair_29 (by decide) ?_
    obtain ⟨μ12, gμ12, h⟩ := bw_some h
    refine g_callVV (As := [.int (-5)]) (rest := []) cx hw hA (t_X10_breakOff l G ad (-5 : Int32) μ5 gμ12) shx_137 rfl ml_X10_227 im_X10_breakOff se_X10_breakOff in_X10 co_X10_breakOff rfl hd_X10_breakOff rfl ⟨(Nat.le_of_ble_eq_true rfl), (Nat.le_of_ble_eq_true rfl)⟩ hl.1 rfl (Nat.le_of_ble_eq_true rfl) dX10_makePair_31 ⟨rfl, rfl⟩ (fun H locs hw => ?_)
    refine lv_goto (tgt := 53) hx hb dX10_makePair_34 (by decide) ?_
    exact g_vret cx hr hlk hw h dX10_makePair_53

theorem p_X10_setBranch_ex : ∃ f : Int32 → Int32 → Mem → Option Mem, ∀ (a1 : Int32) (a2 : Int32) (μ : Mem), f a1 a2 μ = (if (μ.1 137 12) < (1 : Int32) then some μ else gd (inb ((((μ.1 137 12) - (1 : Int32)) * (3 : Int32)) + a1) 780) (bv (sF μ 138 ((((μ.1 137 12) - (1 : Int32)) * (3 : Int32)) + a1).toNatClampNeg a2) (fun μ2 => some μ2))) := ⟨fun (a1 : Int32) (a2 : Int32) (μ : Mem) => (if (μ.1 137 12) < (1 : Int32) then some μ else gd (inb ((((μ.1 137 12) - (1 : Int32)) * (3 : Int32)) + a1) 780) (bv (sF μ 138 ((((μ.1 137 12) - (1 : Int32)) * (3 : Int32)) + a1).toNatClampNeg a2) (fun μ2 => some μ2))), fun _ _ _ => rfl⟩
noncomputable def p_X10_setBranch : Int32 → Int32 → Mem → Option Mem := Classical.choose p_X10_setBranch_ex
theorem p_X10_setBranch_eq (a1 : Int32) (a2 : Int32) (μ : Mem) : p_X10_setBranch a1 a2 μ = (if (μ.1 137 12) < (1 : Int32) then some μ else gd (inb ((((μ.1 137 12) - (1 : Int32)) * (3 : Int32)) + a1) 780) (bv (sF μ 138 ((((μ.1 137 12) - (1 : Int32)) * (3 : Int32)) + a1).toNatClampNeg a2) (fun μ2 => some μ2))) := Classical.choose_spec p_X10_setBranch_ex a1 a2 μ
set_option maxHeartbeats 4000000 in
set_option maxRecDepth 100000 in
theorem t_X10_setBranch (l : Launch) (G : Gt) (ad : Nat → Nat) (a1 : Int32) (a2 : Int32) (μ : Mem) {μz : Mem} (h : p_X10_setBranch a1 a2 μ = some μz) : Mt l yX10_setBranch cX10_setBranch 3 none ({ frames := 0, cells := 0, slots := 0, locals := 0 } : Room) G [.ref (ad 137), .int a1, .int a2] (wd 0 G ad μ) (eV 0 G ad μz) := by
  refine Bk.mt (by decide) rfl (Nat.le_of_ble_eq_true rfl) ?_
  intro p e s m below meth c A ls H locs cx hr hlk hA hl hw
  have hx := cx.1
  have hb := cx.2.1
  have hl : lv_has ls 3 [(0, .ref (ad 137)), (1, .int a1), (2, .int a2)] := hl
  rw [p_X10_setBranch_eq] at h
  refine lv_aload_n hx hb dX10_setBranch_0 rfl (lv_at hl 0 rfl) ?_
  refine g_get cx hw inX10 (ci := 9) rfl 12 (by decide) rfl (v := .int (μ.1 137 12)) shx_137 rfl fl_X10_118 dX10_setBranch_1 ?_
  refine lv_iconst (v := 1) hx hb dX10_setBranch_4 (by decide) ?_
  refine lv_icmp_lt (tgt := 24) hx hb dX10_setBranch_5 (by decide) (fun c1 => ?_) (fun c1 => ?_)
  · rw [if_pos c1] at h
    exact g_vret cx hr hlk hw h dX10_setBranch_24
  · rw [if_neg c1] at h
    refine lv_aload_n hx hb dX10_setBranch_8 rfl (lv_at hl 0 rfl) ?_
    refine g_get cx hw inX10 (ci := 9) rfl 10 (by decide) rfl (v := .ref (ad 138)) shx_137 rfl fl_X10_33 dX10_setBranch_9 ?_
    refine lv_aload_n hx hb dX10_setBranch_12 rfl (lv_at hl 0 rfl) ?_
    refine g_get cx hw inX10 (ci := 9) rfl 12 (by decide) rfl (v := .int (μ.1 137 12)) shx_137 rfl fl_X10_118 dX10_setBranch_13 ?_
    refine lv_iconst (v := 1) hx hb dX10_setBranch_16 (by decide) ?_
    refine lv_isub hx hb dX10_setBranch_17 ?_
    refine lv_iconst (v := 3) hx hb dX10_setBranch_18 (by decide) ?_
    refine lv_imul hx hb dX10_setBranch_19 ?_
    refine lv_iload_n hx hb dX10_setBranch_20 rfl (lv_at hl 1 rfl) ?_
    refine lv_iadd hx hb dX10_setBranch_21 ?_
    refine lv_iload_n hx hb dX10_setBranch_22 rfl (lv_at hl 2 rfl) ?_
    refine g_iast cx hw shx_138 h dX10_setBranch_23 (fun μ2 H locs h hw => ?_)
    exact g_vret cx hr hlk hw h dX10_setBranch_24

theorem p_X10_openBranch_ex : ∃ f : Int64 → Int32 → Mem → Option Mem, ∀ (a1 : Int64) (a3 : Int32) (μ : Mem), f a1 a3 μ = (if (260 : Int32) ≤ (μ.1 137 12) then some μ else gd (inb (μ.1 137 12) 260) (bv (sL μ 139 (μ.1 137 12).toNatClampNeg a1) (fun μ2 => bv (sF μ2 137 12 ((μ2.1 137 12) + (1 : Int32))) (fun μ3 => bw (p_X10_setBranch (0 : Int32) (μ3.1 137 8) μ3) (fun μ4 => bw (p_X10_setBranch (1 : Int32) a3 μ4) (fun μ6 => bw (p_X10_setBranch (2 : Int32) (-1 : Int32) μ6) (fun μ8 => some μ8))))))) := ⟨fun (a1 : Int64) (a3 : Int32) (μ : Mem) => (if (260 : Int32) ≤ (μ.1 137 12) then some μ else gd (inb (μ.1 137 12) 260) (bv (sL μ 139 (μ.1 137 12).toNatClampNeg a1) (fun μ2 => bv (sF μ2 137 12 ((μ2.1 137 12) + (1 : Int32))) (fun μ3 => bw (p_X10_setBranch (0 : Int32) (μ3.1 137 8) μ3) (fun μ4 => bw (p_X10_setBranch (1 : Int32) a3 μ4) (fun μ6 => bw (p_X10_setBranch (2 : Int32) (-1 : Int32) μ6) (fun μ8 => some μ8))))))), fun _ _ _ => rfl⟩
noncomputable def p_X10_openBranch : Int64 → Int32 → Mem → Option Mem := Classical.choose p_X10_openBranch_ex
theorem p_X10_openBranch_eq (a1 : Int64) (a3 : Int32) (μ : Mem) : p_X10_openBranch a1 a3 μ = (if (260 : Int32) ≤ (μ.1 137 12) then some μ else gd (inb (μ.1 137 12) 260) (bv (sL μ 139 (μ.1 137 12).toNatClampNeg a1) (fun μ2 => bv (sF μ2 137 12 ((μ2.1 137 12) + (1 : Int32))) (fun μ3 => bw (p_X10_setBranch (0 : Int32) (μ3.1 137 8) μ3) (fun μ4 => bw (p_X10_setBranch (1 : Int32) a3 μ4) (fun μ6 => bw (p_X10_setBranch (2 : Int32) (-1 : Int32) μ6) (fun μ8 => some μ8))))))) := Classical.choose_spec p_X10_openBranch_ex a1 a3 μ
set_option maxHeartbeats 4000000 in
set_option maxRecDepth 100000 in
theorem t_X10_openBranch (l : Launch) (G : Gt) (ad : Nat → Nat) (a1 : Int64) (a3 : Int32) (μ : Mem) {μz : Mem} (h : p_X10_openBranch a1 a3 μ = some μz) : Mt l yX10_openBranch cX10_openBranch 4 none ({ frames := 1, cells := 0, slots := 0, locals := 22 } : Room) G [.ref (ad 137), .long a1, .int a3] (wd 0 G ad μ) (eV 0 G ad μz) := by
  refine Bk.mt (by decide) rfl (Nat.le_of_ble_eq_true rfl) ?_
  intro p e s m below meth c A ls H locs cx hr hlk hA hl hw
  have hx := cx.1
  have hb := cx.2.1
  have hl : lv_has ls 4 [(0, .ref (ad 137)), (1, .long a1), (3, .int a3)] := hl
  rw [p_X10_openBranch_eq] at h
  refine lv_aload_n hx hb dX10_openBranch_0 rfl (lv_at hl 0 rfl) ?_
  refine g_get cx hw inX10 (ci := 9) rfl 12 (by decide) rfl (v := .int (μ.1 137 12)) shx_137 rfl fl_X10_118 dX10_openBranch_1 ?_
  refine lv_sipush (v := 260) hx hb dX10_openBranch_4 (by decide) ?_
  refine lv_icmp_ge (tgt := 51) hx hb dX10_openBranch_7 (by decide) (fun c1 => ?_) (fun c1 => ?_)
  · rw [if_pos c1] at h
    exact g_vret cx hr hlk hw h dX10_openBranch_51
  · rw [if_neg c1] at h
    refine lv_aload_n hx hb dX10_openBranch_10 rfl (lv_at hl 0 rfl) ?_
    refine g_get cx hw inX10 (ci := 9) rfl 11 (by decide) rfl (v := .ref (ad 139)) shx_137 rfl fl_X10_37 dX10_openBranch_11 ?_
    refine lv_aload_n hx hb dX10_openBranch_14 rfl (lv_at hl 0 rfl) ?_
    refine g_get cx hw inX10 (ci := 9) rfl 12 (by decide) rfl (v := .int (μ.1 137 12)) shx_137 rfl fl_X10_118 dX10_openBranch_15 ?_
    refine lv_lload_n hx hb dX10_openBranch_18 rfl (lv_at hl 1 rfl) ?_
    refine g_last cx hw shx_139 h dX10_openBranch_19 (fun μ2 H locs h hw => ?_)
    refine lv_aload_n hx hb dX10_openBranch_20 rfl (lv_at hl 0 rfl) ?_
    refine lv_dup hx hb dX10_openBranch_21 rfl ?_
    refine g_get cx hw inX10 (ci := 9) rfl 12 (by decide) rfl (v := .int (μ2.1 137 12)) shx_137 rfl fl_X10_118 dX10_openBranch_22 ?_
    refine lv_iconst (v := 1) hx hb dX10_openBranch_25 (by decide) ?_
    refine lv_iadd hx hb dX10_openBranch_26 ?_
    refine g_put cx hw inX10 (ci := 9) rfl tyX10_ok nmX10 12 (by decide) rfl rfl rfl rfl shx_137 h fl_X10_118 dX10_openBranch_27 (fun μ3 H locs h hw => ?_)
    refine lv_aload_n hx hb dX10_openBranch_30 rfl (lv_at hl 0 rfl) ?_
    refine lv_iconst (v := 0) hx hb dX10_openBranch_31 (by decide) ?_
    refine lv_aload_n hx hb dX10_openBranch_32 rfl (lv_at hl 0 rfl) ?_
    refine g_get cx hw inX10 (ci := 9) rfl 8 (by decide) rfl (v := .int (μ3.1 137 8)) shx_137 rfl fl_X10_108 dX10_openBranch_33 ?_
    obtain ⟨μ4, gμ4, h⟩ := bw_some h
    refine g_callVV (As := [.int 0, .int (μ3.1 137 8)]) (rest := []) cx hw hA (t_X10_setBranch l G ad (0 : Int32) (μ3.1 137 8) μ3 gμ4) shx_137 rfl ml_X10_272 im_X10_setBranch se_X10_setBranch in_X10 co_X10_setBranch rfl hd_X10_setBranch rfl ⟨(Nat.le_of_ble_eq_true rfl), (Nat.le_of_ble_eq_true rfl)⟩ hl.1 rfl (Nat.le_of_ble_eq_true rfl) dX10_openBranch_36 ⟨rfl, rfl⟩ (fun H locs hw => ?_)
    refine lv_aload_n hx hb dX10_openBranch_39 rfl (lv_at hl 0 rfl) ?_
    refine lv_iconst (v := 1) hx hb dX10_openBranch_40 (by decide) ?_
    refine lv_iload_n hx hb dX10_openBranch_41 rfl (lv_at hl 2 rfl) ?_
    obtain ⟨μ6, gμ6, h⟩ := bw_some h
    refine g_callVV (As := [.int 1, .int a3]) (rest := []) cx hw hA (t_X10_setBranch l G ad (1 : Int32) a3 μ4 gμ6) shx_137 rfl ml_X10_272 im_X10_setBranch se_X10_setBranch in_X10 co_X10_setBranch rfl hd_X10_setBranch rfl ⟨(Nat.le_of_ble_eq_true rfl), (Nat.le_of_ble_eq_true rfl)⟩ hl.1 rfl (Nat.le_of_ble_eq_true rfl) dX10_openBranch_42 ⟨rfl, rfl⟩ (fun H locs hw => ?_)
    refine lv_aload_n hx hb dX10_openBranch_45 rfl (lv_at hl 0 rfl) ?_
    refine lv_iconst (v := 2) hx hb dX10_openBranch_46 (by decide) ?_
    refine lv_iconst (v := (-1)) hx hb dX10_openBranch_47 (by decide) ?_
    obtain ⟨μ8, gμ8, h⟩ := bw_some h
    refine g_callVV (As := [.int 2, .int (-1)]) (rest := []) cx hw hA (t_X10_setBranch l G ad (2 : Int32) (-1 : Int32) μ6 gμ8) shx_137 rfl ml_X10_272 im_X10_setBranch se_X10_setBranch in_X10 co_X10_setBranch rfl hd_X10_setBranch rfl ⟨(Nat.le_of_ble_eq_true rfl), (Nat.le_of_ble_eq_true rfl)⟩ hl.1 rfl (Nat.le_of_ble_eq_true rfl) dX10_openBranch_48 ⟨rfl, rfl⟩ (fun H locs hw => ?_)
    exact g_vret cx hr hlk hw h dX10_openBranch_51

theorem s_X0_isTrue_ex : ∃ f : Int64 → Int32, ∀ (a0 : Int64), f a0 = (if (s_X0_kind a0) = (1 : Int32) then (if ((s_X0_bits a0) &&& (2147483647 : Int32)) = (0 : Int32) then (0 : Int32) else (1 : Int32)) else (if (s_X0_bits a0) = (0 : Int32) then (0 : Int32) else (1 : Int32))) := ⟨fun (a0 : Int64) => (if (s_X0_kind a0) = (1 : Int32) then (if ((s_X0_bits a0) &&& (2147483647 : Int32)) = (0 : Int32) then (0 : Int32) else (1 : Int32)) else (if (s_X0_bits a0) = (0 : Int32) then (0 : Int32) else (1 : Int32))), fun _ => rfl⟩
noncomputable def s_X0_isTrue : Int64 → Int32 := Classical.choose s_X0_isTrue_ex
theorem s_X0_isTrue_eq (a0 : Int64) : s_X0_isTrue a0 = (if (s_X0_kind a0) = (1 : Int32) then (if ((s_X0_bits a0) &&& (2147483647 : Int32)) = (0 : Int32) then (0 : Int32) else (1 : Int32)) else (if (s_X0_bits a0) = (0 : Int32) then (0 : Int32) else (1 : Int32))) := Classical.choose_spec s_X0_isTrue_ex a0
set_option maxHeartbeats 4000000 in
set_option maxRecDepth 100000 in
theorem t_X0_isTrue (l : Launch) (G : Gt) (a0 : Int64) : Mt l yX0_isTrue cX0_isTrue 2 (some .boolean) ({ frames := 1, cells := 0, slots := 0, locals := 21 } : Room) G [.long a0] [] (sI G (s_X0_isTrue a0)) := by
  obtain ⟨r, h⟩ : ∃ r, s_X0_isTrue a0 = r := ⟨_, rfl⟩
  rw [h]
  refine Bk.mt (by decide) rfl (Nat.le_of_ble_eq_true rfl) ?_
  intro p e s m below meth c A ls H locs cx hr hlk hA hl hw
  have hx := cx.1
  have hb := cx.2.1
  have hl : lv_has ls 2 [(0, .long a0)] := hl
  rw [s_X0_isTrue_eq] at h
  refine lv_lload_n hx hb dX0_isTrue_0 rfl (lv_at hl 0 rfl) ?_
  refine s_callI (As := [.long a0]) (rest := []) cx hw hA (t_X0_kind l G a0) ml_X0_23 st_X0_kind in_X0 co_X0_kind hd_X0_kind rfl ⟨(Nat.le_of_ble_eq_true rfl), (Nat.le_of_ble_eq_true rfl)⟩ hl.1 rfl (Nat.le_of_ble_eq_true rfl) dX0_isTrue_1 rfl (fun H locs hw => ?_)
  refine lv_iconst (v := 1) hx hb dX0_isTrue_4 (by decide) ?_
  refine lv_icmp_ne (tgt := 26) hx hb dX0_isTrue_5 (by decide) (fun c1 => ?_) (fun c1 => ?_)
  · rw [if_neg c1] at h
    refine lv_lload_n hx hb dX0_isTrue_26 rfl (lv_at hl 0 rfl) ?_
    refine s_callI (As := [.long a0]) (rest := []) cx hw hA (t_X0_bits l G a0) ml_X0_26 st_X0_bits in_X0 co_X0_bits hd_X0_bits rfl ⟨(Nat.le_of_ble_eq_true rfl), (Nat.le_of_ble_eq_true rfl)⟩ hl.1 rfl (Nat.le_of_ble_eq_true rfl) dX0_isTrue_27 rfl (fun H locs hw => ?_)
    refine lv_if_eq (tgt := 37) hx hb dX0_isTrue_30 (by decide) (fun c2 => ?_) (fun c2 => ?_)
    · rw [if_pos c2] at h
      refine lv_iconst (v := 0) hx hb dX0_isTrue_37 (by decide) ?_
      exact s_zret cx hr hlk rfl hw h dX0_isTrue_38
    · rw [if_neg c2] at h
      refine lv_iconst (v := 1) hx hb dX0_isTrue_33 (by decide) ?_
      refine lv_goto (tgt := 38) hx hb dX0_isTrue_34 (by decide) ?_
      exact s_zret cx hr hlk rfl hw h dX0_isTrue_38
  · rw [if_pos c1] at h
    refine lv_lload_n hx hb dX0_isTrue_8 rfl (lv_at hl 0 rfl) ?_
    refine s_callI (As := [.long a0]) (rest := []) cx hw hA (t_X0_bits l G a0) ml_X0_26 st_X0_bits in_X0 co_X0_bits hd_X0_bits rfl ⟨(Nat.le_of_ble_eq_true rfl), (Nat.le_of_ble_eq_true rfl)⟩ hl.1 rfl (Nat.le_of_ble_eq_true rfl) dX0_isTrue_9 rfl (fun H locs hw => ?_)
    refine lv_ldc hx hb cx.2.2.2.1 (cx.2.2.2.2.1 _ cs_X0_58) dX0_isTrue_12 ?_
    refine lv_iand hx hb dX0_isTrue_14 ?_
    refine lv_if_eq (tgt := 22) hx hb dX0_isTrue_15 (by decide) (fun c3 => ?_) (fun c3 => ?_)
    · rw [if_pos c3] at h
      refine lv_iconst (v := 0) hx hb dX0_isTrue_22 (by decide) ?_
      refine lv_goto (tgt := 38) hx hb dX0_isTrue_23 (by decide) ?_
      exact s_zret cx hr hlk rfl hw h dX0_isTrue_38
    · rw [if_neg c3] at h
      refine lv_iconst (v := 1) hx hb dX0_isTrue_18 (by decide) ?_
      refine lv_goto (tgt := 38) hx hb dX0_isTrue_19 (by decide) ?_
      exact s_zret cx hr hlk rfl hw h dX0_isTrue_38

theorem p_X10_test_ex : ∃ f : Int32 → Mem → Option Mem, ∀ (a1 : Int32) (μ : Mem), f a1 μ = bd (p_X8_popNum μ) (fun r2 μ1 => (if (s_X0_isKnown r2) = (0 : Int32) then bd (p_X5_addBlock μ1) (fun r5 μ4 => bw (p_X10_openBranch r2 r5 μ4) (fun μ6 => bv (sF μ6 137 13 ((μ6.1 137 13) + (1 : Int32))) (fun μ8 => bv (sF μ8 137 8 r5) (fun μ9 => some μ9)))) else bw (p_X10_openBranch r2 (-1 : Int32) μ1) (fun μ10 => (if (s_X0_isTrue r2) = (0 : Int32) then bv (sF μ10 137 9 a1) (fun μ13 => some μ13) else bv (sF μ10 137 9 (μ10.1 137 9)) (fun μ14 => some μ14))))) := ⟨fun (a1 : Int32) (μ : Mem) => bd (p_X8_popNum μ) (fun r2 μ1 => (if (s_X0_isKnown r2) = (0 : Int32) then bd (p_X5_addBlock μ1) (fun r5 μ4 => bw (p_X10_openBranch r2 r5 μ4) (fun μ6 => bv (sF μ6 137 13 ((μ6.1 137 13) + (1 : Int32))) (fun μ8 => bv (sF μ8 137 8 r5) (fun μ9 => some μ9)))) else bw (p_X10_openBranch r2 (-1 : Int32) μ1) (fun μ10 => (if (s_X0_isTrue r2) = (0 : Int32) then bv (sF μ10 137 9 a1) (fun μ13 => some μ13) else bv (sF μ10 137 9 (μ10.1 137 9)) (fun μ14 => some μ14))))), fun _ _ => rfl⟩
noncomputable def p_X10_test : Int32 → Mem → Option Mem := Classical.choose p_X10_test_ex
theorem p_X10_test_eq (a1 : Int32) (μ : Mem) : p_X10_test a1 μ = bd (p_X8_popNum μ) (fun r2 μ1 => (if (s_X0_isKnown r2) = (0 : Int32) then bd (p_X5_addBlock μ1) (fun r5 μ4 => bw (p_X10_openBranch r2 r5 μ4) (fun μ6 => bv (sF μ6 137 13 ((μ6.1 137 13) + (1 : Int32))) (fun μ8 => bv (sF μ8 137 8 r5) (fun μ9 => some μ9)))) else bw (p_X10_openBranch r2 (-1 : Int32) μ1) (fun μ10 => (if (s_X0_isTrue r2) = (0 : Int32) then bv (sF μ10 137 9 a1) (fun μ13 => some μ13) else bv (sF μ10 137 9 (μ10.1 137 9)) (fun μ14 => some μ14))))) := Classical.choose_spec p_X10_test_ex a1 μ
set_option maxHeartbeats 4000000 in
set_option maxRecDepth 100000 in
theorem t_X10_test (l : Launch) (G : Gt) (ad : Nat → Nat) (a1 : Int32) (μ : Mem) {μz : Mem} (h : p_X10_test a1 μ = some μz) : Mt l yX10_test cX10_test 5 none ({ frames := 4, cells := 0, slots := 0, locals := 89 } : Room) G [.ref (ad 137), .int a1] (wd 0 G ad μ) (eV 0 G ad μz) := by
  refine Bk.mt (by decide) rfl (Nat.le_of_ble_eq_true rfl) ?_
  intro p e s m below meth c A ls H locs cx hr hlk hA hl hw
  have hx := cx.1
  have hb := cx.2.1
  have hl : lv_has ls 5 [(0, .ref (ad 137)), (1, .int a1)] := hl
  rw [p_X10_test_eq] at h
  refine lv_aload_n hx hb dX10_test_0 rfl (lv_at hl 0 rfl) ?_
  refine g_get cx hw inX10 (ci := 9) rfl 3 (by decide) rfl (v := .ref (ad 30)) shx_137 rfl fl_X10_21 dX10_test_1 ?_
  obtain ⟨r2, μ1, gr2, h⟩ := bd_some h
  refine g_callVL (As := []) (rest := []) cx hw hA (t_X8_popNum l G ad μ gr2) shx_30 rfl ml_X10_212 im_X8_popNum se_X8_popNum in_X8 co_X8_popNum rfl hd_X8_popNum rfl ⟨(Nat.le_of_ble_eq_true rfl), (Nat.le_of_ble_eq_true rfl)⟩ hl.1 rfl (Nat.le_of_ble_eq_true rfl) dX10_test_4 ⟨rfl, rfl⟩ (fun H locs hw => ?_)
  refine lv_lstore_n (lv' := [(2, .long r2), (0, .ref (ad 137)), (1, .int a1)]) hx hb dX10_test_7 rfl hl (by decide) rfl (fun ls hl => ?_)
  refine lv_lload_n hx hb dX10_test_8 rfl (lv_at hl 0 rfl) ?_
  refine s_callI (As := [.long r2]) (rest := []) cx hw hA (t_X0_isKnown l G r2) ml_X10_215 st_X0_isKnown in_X0 co_X0_isKnown hd_X0_isKnown rfl ⟨(Nat.le_of_ble_eq_true rfl), (Nat.le_of_ble_eq_true rfl)⟩ hl.1 rfl (Nat.le_of_ble_eq_true rfl) dX10_test_9 rfl (fun H locs hw => ?_)
  refine lv_if_eq (tgt := 41) hx hb dX10_test_12 (by decide) (fun c3 => ?_) (fun c3 => ?_)
  · rw [if_pos c3] at h
    refine lv_aload_n hx hb dX10_test_41 rfl (lv_at hl 1 rfl) ?_
    refine g_get cx hw inX10 (ci := 9) rfl 4 (by decide) rfl (v := .ref (ad 39)) shx_137 rfl fl_X10_25 dX10_test_42 ?_
    obtain ⟨r5, μ4, gr5, h⟩ := bd_some h
    refine g_callVI (As := []) (rest := []) cx hw hA (t_X5_addBlock l G ad μ1 gr5) shx_39 rfl ml_X10_104 im_X5_addBlock se_X5_addBlock in_X5 co_X5_addBlock rfl hd_X5_addBlock rfl ⟨(Nat.le_of_ble_eq_true rfl), (Nat.le_of_ble_eq_true rfl)⟩ hl.1 rfl (Nat.le_of_ble_eq_true rfl) dX10_test_45 ⟨rfl, rfl⟩ (fun H locs hw => ?_)
    refine lv_istore (lv' := [(4, .int r5), (2, .long r2), (0, .ref (ad 137)), (1, .int a1)]) hx hb dX10_test_48 hl (by decide) rfl (fun ls hl => ?_)
    refine lv_aload_n hx hb dX10_test_50 rfl (lv_at hl 2 rfl) ?_
    refine lv_lload_n hx hb dX10_test_51 rfl (lv_at hl 1 rfl) ?_
    refine lv_iload hx hb dX10_test_52 (lv_at hl 0 rfl) ?_
    obtain ⟨μ6, gμ6, h⟩ := bw_some h
    refine g_callVV (As := [.long r2, .int r5]) (rest := []) cx hw hA (t_X10_openBranch l G ad r2 r5 μ4 gμ6) shx_137 rfl ml_X10_265 im_X10_openBranch se_X10_openBranch in_X10 co_X10_openBranch rfl hd_X10_openBranch rfl ⟨(Nat.le_of_ble_eq_true rfl), (Nat.le_of_ble_eq_true rfl)⟩ hl.1 rfl (Nat.le_of_ble_eq_true rfl) dX10_test_54 ⟨rfl, rfl⟩ (fun H locs hw => ?_)
    refine lv_aload_n hx hb dX10_test_57 rfl (lv_at hl 2 rfl) ?_
    refine lv_dup hx hb dX10_test_58 rfl ?_
    refine g_get cx hw inX10 (ci := 9) rfl 13 (by decide) rfl (v := .int (μ6.1 137 13)) shx_137 rfl fl_X10_121 dX10_test_59 ?_
    refine lv_iconst (v := 1) hx hb dX10_test_62 (by decide) ?_
    refine lv_iadd hx hb dX10_test_63 ?_
    refine g_put cx hw inX10 (ci := 9) rfl tyX10_ok nmX10 13 (by decide) rfl rfl rfl rfl shx_137 h fl_X10_121 dX10_test_64 (fun μ8 H locs h hw => ?_)
    refine lv_aload_n hx hb dX10_test_67 rfl (lv_at hl 2 rfl) ?_
    refine lv_iload hx hb dX10_test_68 (lv_at hl 0 rfl) ?_
    refine g_put cx hw inX10 (ci := 9) rfl tyX10_ok nmX10 8 (by decide) rfl rfl rfl rfl shx_137 h fl_X10_108 dX10_test_70 (fun μ9 H locs h hw => ?_)
    exact g_vret cx hr hlk hw h dX10_test_73
  · rw [if_neg c3] at h
    refine lv_aload_n hx hb dX10_test_15 rfl (lv_at hl 1 rfl) ?_
    refine lv_lload_n hx hb dX10_test_16 rfl (lv_at hl 0 rfl) ?_
    refine lv_iconst (v := (-1)) hx hb dX10_test_17 (by decide) ?_
    obtain ⟨μ10, gμ10, h⟩ := bw_some h
    refine g_callVV (As := [.long r2, .int (-1)]) (rest := []) cx hw hA (t_X10_openBranch l G ad r2 (-1 : Int32) μ1 gμ10) shx_137 rfl ml_X10_265 im_X10_openBranch se_X10_openBranch in_X10 co_X10_openBranch rfl hd_X10_openBranch rfl ⟨(Nat.le_of_ble_eq_true rfl), (Nat.le_of_ble_eq_true rfl)⟩ hl.1 rfl (Nat.le_of_ble_eq_true rfl) dX10_test_18 ⟨rfl, rfl⟩ (fun H locs hw => ?_)
    refine lv_aload_n hx hb dX10_test_21 rfl (lv_at hl 1 rfl) ?_
    refine lv_lload_n hx hb dX10_test_22 rfl (lv_at hl 0 rfl) ?_
    refine s_callI (As := [.long r2]) (rest := [.ref (ad 137)]) cx hw hA (t_X0_isTrue l G r2) ml_X10_269 st_X0_isTrue in_X0 co_X0_isTrue hd_X0_isTrue rfl ⟨(Nat.le_of_ble_eq_true rfl), (Nat.le_of_ble_eq_true rfl)⟩ hl.1 rfl (Nat.le_of_ble_eq_true rfl) dX10_test_23 rfl (fun H locs hw => ?_)
    refine lv_if_eq (tgt := 36) hx hb dX10_test_26 (by decide) (fun c12 => ?_) (fun c12 => ?_)
    · rw [if_pos c12] at h
      refine lv_iload_n hx hb dX10_test_36 rfl (lv_at hl 2 rfl) ?_
      refine g_put cx hw inX10 (ci := 9) rfl tyX10_ok nmX10 9 (by decide) rfl rfl rfl rfl shx_137 h fl_X10_73 dX10_test_37 (fun μ13 H locs h hw => ?_)
      exact g_vret cx hr hlk hw h dX10_test_40
    · rw [if_neg c12] at h
      refine lv_aload_n hx hb dX10_test_29 rfl (lv_at hl 1 rfl) ?_
      refine g_get cx hw inX10 (ci := 9) rfl 9 (by decide) rfl (v := .int (μ10.1 137 9)) shx_137 rfl fl_X10_73 dX10_test_30 ?_
      refine lv_goto (tgt := 37) hx hb dX10_test_33 (by decide) ?_
      refine g_put cx hw inX10 (ci := 9) rfl tyX10_ok nmX10 9 (by decide) rfl rfl rfl rfl shx_137 h fl_X10_73 dX10_test_37 (fun μ14 H locs h hw => ?_)
      exact g_vret cx hr hlk hw h dX10_test_40

theorem p_X10_branch_ex : ∃ f : Int32 → Mem → Option (Int32 × Mem), ∀ (a1 : Int32) (μ : Mem), f a1 μ = (if (1 : Int32) ≤ (μ.1 137 12) then gd (inb ((((μ.1 137 12) - (1 : Int32)) * (3 : Int32)) + a1) 780) (some ((μ.1 138 ((((μ.1 137 12) - (1 : Int32)) * (3 : Int32)) + a1).toNatClampNeg), μ)) else some ((-1 : Int32), μ)) := ⟨fun (a1 : Int32) (μ : Mem) => (if (1 : Int32) ≤ (μ.1 137 12) then gd (inb ((((μ.1 137 12) - (1 : Int32)) * (3 : Int32)) + a1) 780) (some ((μ.1 138 ((((μ.1 137 12) - (1 : Int32)) * (3 : Int32)) + a1).toNatClampNeg), μ)) else some ((-1 : Int32), μ)), fun _ _ => rfl⟩
noncomputable def p_X10_branch : Int32 → Mem → Option (Int32 × Mem) := Classical.choose p_X10_branch_ex
theorem p_X10_branch_eq (a1 : Int32) (μ : Mem) : p_X10_branch a1 μ = (if (1 : Int32) ≤ (μ.1 137 12) then gd (inb ((((μ.1 137 12) - (1 : Int32)) * (3 : Int32)) + a1) 780) (some ((μ.1 138 ((((μ.1 137 12) - (1 : Int32)) * (3 : Int32)) + a1).toNatClampNeg), μ)) else some ((-1 : Int32), μ)) := Classical.choose_spec p_X10_branch_ex a1 μ
set_option maxHeartbeats 4000000 in
set_option maxRecDepth 100000 in
theorem t_X10_branch (l : Launch) (G : Gt) (ad : Nat → Nat) (a1 : Int32) (μ : Mem) {r : Int32} {μz : Mem} (h : p_X10_branch a1 μ = some (r, μz)) : Mt l yX10_branch cX10_branch 2 (some .int) ({ frames := 0, cells := 0, slots := 0, locals := 0 } : Room) G [.ref (ad 137), .int a1] (wd 0 G ad μ) (eI 0 G ad r μz) := by
  refine Bk.mt (by decide) rfl (Nat.le_of_ble_eq_true rfl) ?_
  intro p e s m below meth c A ls H locs cx hr hlk hA hl hw
  have hx := cx.1
  have hb := cx.2.1
  have hl : lv_has ls 2 [(0, .ref (ad 137)), (1, .int a1)] := hl
  rw [p_X10_branch_eq] at h
  refine lv_aload_n hx hb dX10_branch_0 rfl (lv_at hl 0 rfl) ?_
  refine g_get cx hw inX10 (ci := 9) rfl 12 (by decide) rfl (v := .int (μ.1 137 12)) shx_137 rfl fl_X10_118 dX10_branch_1 ?_
  refine lv_iconst (v := 1) hx hb dX10_branch_4 (by decide) ?_
  refine lv_icmp_ge (tgt := 12) hx hb dX10_branch_5 (by decide) (fun c1 => ?_) (fun c1 => ?_)
  · rw [if_pos c1] at h
    refine lv_aload_n hx hb dX10_branch_12 rfl (lv_at hl 0 rfl) ?_
    refine g_get cx hw inX10 (ci := 9) rfl 10 (by decide) rfl (v := .ref (ad 138)) shx_137 rfl fl_X10_33 dX10_branch_13 ?_
    refine lv_aload_n hx hb dX10_branch_16 rfl (lv_at hl 0 rfl) ?_
    refine g_get cx hw inX10 (ci := 9) rfl 12 (by decide) rfl (v := .int (μ.1 137 12)) shx_137 rfl fl_X10_118 dX10_branch_17 ?_
    refine lv_iconst (v := 1) hx hb dX10_branch_20 (by decide) ?_
    refine lv_isub hx hb dX10_branch_21 ?_
    refine lv_iconst (v := 3) hx hb dX10_branch_22 (by decide) ?_
    refine lv_imul hx hb dX10_branch_23 ?_
    refine lv_iload_n hx hb dX10_branch_24 rfl (lv_at hl 1 rfl) ?_
    refine lv_iadd hx hb dX10_branch_25 ?_
    refine g_iald cx hw shx_138 h dX10_branch_26 (fun h => ?_)
    exact g_iret cx hr hlk hw h dX10_branch_27
  · rw [if_neg c1] at h
    refine lv_iconst (v := (-1)) hx hb dX10_branch_8 (by decide) ?_
    refine lv_goto (tgt := 27) hx hb dX10_branch_9 (by decide) ?_
    exact g_iret cx hr hlk hw h dX10_branch_27

theorem p_X10_closeBranch_ex : ∃ f : Mem → Option Mem, ∀  (μ : Mem), f  μ = bv (sF μ 137 12 (imax (0 : Int32) ((μ.1 137 12) - (1 : Int32)))) (fun μ1 => some μ1) := ⟨fun  (μ : Mem) => bv (sF μ 137 12 (imax (0 : Int32) ((μ.1 137 12) - (1 : Int32)))) (fun μ1 => some μ1), fun _ => rfl⟩
noncomputable def p_X10_closeBranch : Mem → Option Mem := Classical.choose p_X10_closeBranch_ex
theorem p_X10_closeBranch_eq  (μ : Mem) : p_X10_closeBranch  μ = bv (sF μ 137 12 (imax (0 : Int32) ((μ.1 137 12) - (1 : Int32)))) (fun μ1 => some μ1) := Classical.choose_spec p_X10_closeBranch_ex  μ
set_option maxHeartbeats 4000000 in
set_option maxRecDepth 100000 in
theorem t_X10_closeBranch (l : Launch) (G : Gt) (ad : Nat → Nat)  (μ : Mem) {μz : Mem} (h : p_X10_closeBranch  μ = some μz) : Mt l yX10_closeBranch cX10_closeBranch 1 none ({ frames := 1, cells := 0, slots := 0, locals := 24 } : Room) G [.ref (ad 137)] (wd 0 G ad μ) (eV 0 G ad μz) := by
  refine Bk.mt (by decide) rfl (Nat.le_of_ble_eq_true rfl) ?_
  intro p e s m below meth c A ls H locs cx hr hlk hA hl hw
  have hx := cx.1
  have hb := cx.2.1
  have hl : lv_has ls 1 [(0, .ref (ad 137))] := hl
  rw [p_X10_closeBranch_eq] at h
  refine lv_aload_n hx hb dX10_closeBranch_0 rfl (lv_at hl 0 rfl) ?_
  refine lv_iconst (v := 0) hx hb dX10_closeBranch_1 (by decide) ?_
  refine lv_aload_n hx hb dX10_closeBranch_2 rfl (lv_at hl 0 rfl) ?_
  refine g_get cx hw inX10 (ci := 9) rfl 12 (by decide) rfl (v := .int (μ.1 137 12)) shx_137 rfl fl_X10_118 dX10_closeBranch_3 ?_
  refine lv_iconst (v := 1) hx hb dX10_closeBranch_6 (by decide) ?_
  refine lv_isub hx hb dX10_closeBranch_7 ?_
  refine r_mmax (v := (imax (0 : Int32) ((μ.1 137 12) - (1 : Int32)))) cx ml_X10_275 hl.1 (Nat.le_of_ble_eq_true rfl) (Nat.le_of_ble_eq_true rfl) (Nat.le_of_ble_eq_true rfl) (Nat.le_of_ble_eq_true rfl) rfl dX10_closeBranch_8 ?_
  refine g_put cx hw inX10 (ci := 9) rfl tyX10_ok nmX10 12 (by decide) rfl rfl rfl rfl shx_137 h fl_X10_118 dX10_closeBranch_11 (fun μ1 H locs h hw => ?_)
  exact g_vret cx hr hlk hw h dX10_closeBranch_14

theorem p_X10_lift_ex : ∃ f : (Int64 → Int32 → Mem → Option (Int64 × Mem)) → Int64 → Int32 → Mem → Option (Int64 × Mem), ∀ (RE : Int64 → Int32 → Mem → Option (Int64 × Mem)) (a1 : Int64) (a3 : Int32) (μ : Mem), f  RE a1 a3 μ = bd (p_X8_isPair a1 μ) (fun r2 μ1 => (if r2 = (0 : Int32) then some (a1, μ1) else (if (40 : Int32) < a3 then some (a1, μ1) else (if (μ1.1 137 6) = (0 : Int32) then bd (p_X8_firstOf a1 μ1) (fun r7 μ6 => bd (RE r7 (a3 + (1 : Int32)) μ6) (fun r9 μ8 => bd (p_X8_secondOf a1 μ8) (fun r11 μ10 => bd (RE r11 (a3 + (1 : Int32)) μ10) (fun r13 μ12 => bd (p_X10_leave (10 : Int32) (0 : Int32) r9 r13 μ12) (fun r15 μ14 => some (r15, μ14)))))) else some (a1, μ1))))) := ⟨fun (RE : Int64 → Int32 → Mem → Option (Int64 × Mem)) (a1 : Int64) (a3 : Int32) (μ : Mem) => bd (p_X8_isPair a1 μ) (fun r2 μ1 => (if r2 = (0 : Int32) then some (a1, μ1) else (if (40 : Int32) < a3 then some (a1, μ1) else (if (μ1.1 137 6) = (0 : Int32) then bd (p_X8_firstOf a1 μ1) (fun r7 μ6 => bd (RE r7 (a3 + (1 : Int32)) μ6) (fun r9 μ8 => bd (p_X8_secondOf a1 μ8) (fun r11 μ10 => bd (RE r11 (a3 + (1 : Int32)) μ10) (fun r13 μ12 => bd (p_X10_leave (10 : Int32) (0 : Int32) r9 r13 μ12) (fun r15 μ14 => some (r15, μ14)))))) else some (a1, μ1))))), fun _ _ _ _ => rfl⟩
noncomputable def p_X10_lift : (Int64 → Int32 → Mem → Option (Int64 × Mem)) → Int64 → Int32 → Mem → Option (Int64 × Mem) := Classical.choose p_X10_lift_ex
theorem p_X10_lift_eq (RE : Int64 → Int32 → Mem → Option (Int64 × Mem)) (a1 : Int64) (a3 : Int32) (μ : Mem) : p_X10_lift  RE a1 a3 μ = bd (p_X8_isPair a1 μ) (fun r2 μ1 => (if r2 = (0 : Int32) then some (a1, μ1) else (if (40 : Int32) < a3 then some (a1, μ1) else (if (μ1.1 137 6) = (0 : Int32) then bd (p_X8_firstOf a1 μ1) (fun r7 μ6 => bd (RE r7 (a3 + (1 : Int32)) μ6) (fun r9 μ8 => bd (p_X8_secondOf a1 μ8) (fun r11 μ10 => bd (RE r11 (a3 + (1 : Int32)) μ10) (fun r13 μ12 => bd (p_X10_leave (10 : Int32) (0 : Int32) r9 r13 μ12) (fun r15 μ14 => some (r15, μ14)))))) else some (a1, μ1))))) := Classical.choose_spec p_X10_lift_ex  RE a1 a3 μ
set_option maxHeartbeats 4000000 in
set_option maxRecDepth 100000 in
theorem t_X10_lift (l : Launch) (G : Gt) (ad : Nat → Nat) {fE lE : Nat} (RE : Int64 → Int32 → Mem → Option (Int64 × Mem)) (hRE : ∀ (z1 : Int64) (z3 : Int32) (μ1 : Mem) (r2 : Int64) (μ2 : Mem), RE z1 z3 μ1 = some (r2, μ2) → Mt l yX10_lift cX10_lift 8 (some .long) ({ frames := fE, cells := 0, slots := 0, locals := lE } : Room) G [.ref (ad 137), .long z1, .int z3] (wd 0 G ad μ1) (eL 0 G ad r2 μ2)) (a1 : Int64) (a3 : Int32) (μ : Mem) {r : Int64} {μz : Mem} (h : p_X10_lift RE a1 a3 μ = some (r, μz)) : Mt l yX10_lift cX10_lift 8 (some .long) ({ frames := fE + 2, cells := 0, slots := 0, locals := lE + 55 } : Room) G [.ref (ad 137), .long a1, .int a3] (wd 0 G ad μ) (eL 0 G ad r μz) := by
  refine Bk.mt (by decide) rfl (Nat.le_of_ble_eq_true rfl) ?_
  intro p e s m below meth c A ls H locs cx hr hlk hA hl hw
  have hx := cx.1
  have hb := cx.2.1
  have hl : lv_has ls 8 [(0, .ref (ad 137)), (1, .long a1), (3, .int a3)] := hl
  rw [p_X10_lift_eq] at h
  refine lv_aload_n hx hb dX10_lift_0 rfl (lv_at hl 0 rfl) ?_
  refine g_get cx hw inX10 (ci := 9) rfl 3 (by decide) rfl (v := .ref (ad 30)) shx_137 rfl fl_X10_21 dX10_lift_1 ?_
  refine lv_lload_n hx hb dX10_lift_4 rfl (lv_at hl 1 rfl) ?_
  obtain ⟨r2, μ1, gr2, h⟩ := bd_some h
  refine g_callVI (As := [.long a1]) (rest := []) cx hw hA (t_X8_isPair l G ad a1 μ gr2) shx_30 rfl ml_X10_238 im_X8_isPair se_X8_isPair in_X8 co_X8_isPair rfl hd_X8_isPair rfl ⟨(by dsimp only; omega), (by dsimp only; omega)⟩ hl.1 rfl (Nat.le_of_ble_eq_true rfl) dX10_lift_5 ⟨rfl, rfl⟩ (fun H locs hw => ?_)
  refine lv_if_eq (tgt := 24) hx hb dX10_lift_8 (by decide) (fun c3 => ?_) (fun c3 => ?_)
  · rw [if_pos c3] at h
    refine lv_lload_n hx hb dX10_lift_24 rfl (lv_at hl 1 rfl) ?_
    exact g_lret cx hr hlk hw h dX10_lift_25
  · rw [if_neg c3] at h
    refine lv_iload_n hx hb dX10_lift_11 rfl (lv_at hl 2 rfl) ?_
    refine lv_bipush (v := 40) hx hb dX10_lift_12 (by decide) ?_
    refine lv_icmp_gt (tgt := 24) hx hb dX10_lift_14 (by decide) (fun c4 => ?_) (fun c4 => ?_)
    · rw [if_pos c4] at h
      refine lv_lload_n hx hb dX10_lift_24 rfl (lv_at hl 1 rfl) ?_
      exact g_lret cx hr hlk hw h dX10_lift_25
    · rw [if_neg c4] at h
      refine lv_aload_n hx hb dX10_lift_17 rfl (lv_at hl 0 rfl) ?_
      refine g_get cx hw inX10 (ci := 9) rfl 6 (by decide) rfl (v := .int (μ1.1 137 6)) shx_137 rfl fl_X10_70 dX10_lift_18 ?_
      refine lv_if_eq (tgt := 26) hx hb dX10_lift_21 (by decide) (fun c5 => ?_) (fun c5 => ?_)
      · rw [if_pos c5] at h
        refine lv_aload_n hx hb dX10_lift_26 rfl (lv_at hl 0 rfl) ?_
        refine lv_aload_n hx hb dX10_lift_27 rfl (lv_at hl 0 rfl) ?_
        refine g_get cx hw inX10 (ci := 9) rfl 3 (by decide) rfl (v := .ref (ad 30)) shx_137 rfl fl_X10_21 dX10_lift_28 ?_
        refine lv_lload_n hx hb dX10_lift_31 rfl (lv_at hl 1 rfl) ?_
        obtain ⟨r7, μ6, gr7, h⟩ := bd_some h
        refine g_callVL (As := [.long a1]) (rest := [.ref (ad 137)]) cx hw hA (t_X8_firstOf l G ad a1 μ1 gr7) shx_30 rfl ml_X10_241 im_X8_firstOf se_X8_firstOf in_X8 co_X8_firstOf rfl hd_X8_firstOf rfl ⟨(by dsimp only; omega), (by dsimp only; omega)⟩ hl.1 rfl (Nat.le_of_ble_eq_true rfl) dX10_lift_32 ⟨rfl, rfl⟩ (fun H locs hw => ?_)
        refine lv_iload_n hx hb dX10_lift_35 rfl (lv_at hl 2 rfl) ?_
        refine lv_iconst (v := 1) hx hb dX10_lift_36 (by decide) ?_
        refine lv_iadd hx hb dX10_lift_37 ?_
        obtain ⟨r9, μ8, gr9, h⟩ := bd_some h
        refine g_callVL (As := [.long r7, .int (a3 + (1 : Int32))]) (rest := []) cx hw hA (hRE r7 (a3 + (1 : Int32)) μ6 _ _ gr9) shx_137 rfl ml_X10_139 im_X10_lift se_X10_lift in_X10 co_X10_lift rfl hd_X10_lift rfl ⟨(by dsimp only; omega), (by dsimp only; omega)⟩ hl.1 rfl (Nat.le_of_ble_eq_true rfl) dX10_lift_38 ⟨rfl, rfl⟩ (fun H locs hw => ?_)
        refine lv_lstore (lv' := [(4, .long r9), (0, .ref (ad 137)), (1, .long a1), (3, .int a3)]) hx hb dX10_lift_41 hl (by decide) rfl (fun ls hl => ?_)
        refine lv_aload_n hx hb dX10_lift_43 rfl (lv_at hl 1 rfl) ?_
        refine lv_aload_n hx hb dX10_lift_44 rfl (lv_at hl 1 rfl) ?_
        refine g_get cx hw inX10 (ci := 9) rfl 3 (by decide) rfl (v := .ref (ad 30)) shx_137 rfl fl_X10_21 dX10_lift_45 ?_
        refine lv_lload_n hx hb dX10_lift_48 rfl (lv_at hl 2 rfl) ?_
        obtain ⟨r11, μ10, gr11, h⟩ := bd_some h
        refine g_callVL (As := [.long a1]) (rest := [.ref (ad 137)]) cx hw hA (t_X8_secondOf l G ad a1 μ8 gr11) shx_30 rfl ml_X10_244 im_X8_secondOf se_X8_secondOf in_X8 co_X8_secondOf rfl hd_X8_secondOf rfl ⟨(by dsimp only; omega), (by dsimp only; omega)⟩ hl.1 rfl (Nat.le_of_ble_eq_true rfl) dX10_lift_49 ⟨rfl, rfl⟩ (fun H locs hw => ?_)
        refine lv_iload_n hx hb dX10_lift_52 rfl (lv_at hl 3 rfl) ?_
        refine lv_iconst (v := 1) hx hb dX10_lift_53 (by decide) ?_
        refine lv_iadd hx hb dX10_lift_54 ?_
        obtain ⟨r13, μ12, gr13, h⟩ := bd_some h
        refine g_callVL (As := [.long r11, .int (a3 + (1 : Int32))]) (rest := []) cx hw hA (hRE r11 (a3 + (1 : Int32)) μ10 _ _ gr13) shx_137 rfl ml_X10_139 im_X10_lift se_X10_lift in_X10 co_X10_lift rfl hd_X10_lift rfl ⟨(by dsimp only; omega), (by dsimp only; omega)⟩ hl.1 rfl (Nat.le_of_ble_eq_true rfl) dX10_lift_55 ⟨rfl, rfl⟩ (fun H locs hw => ?_)
        refine lv_lstore (lv' := [(6, .long r13), (4, .long r9), (0, .ref (ad 137)), (1, .long a1), (3, .int a3)]) hx hb dX10_lift_58 hl (by decide) rfl (fun ls hl => ?_)
        refine lv_aload_n hx hb dX10_lift_60 rfl (lv_at hl 2 rfl) ?_
        refine lv_bipush (v := 10) hx hb dX10_lift_61 (by decide) ?_
        refine lv_iconst (v := 0) hx hb dX10_lift_63 (by decide) ?_
        refine lv_lload hx hb dX10_lift_64 (lv_at hl 1 rfl) ?_
        refine lv_lload hx hb dX10_lift_66 (lv_at hl 0 rfl) ?_
        obtain ⟨r15, μ14, gr15, h⟩ := bd_some h
        refine g_callVL (As := [.int 10, .int 0, .long r9, .long r13]) (rest := []) cx hw hA (t_X10_leave l G ad (10 : Int32) (0 : Int32) r9 r13 μ12 gr15) shx_137 rfl ml_X10_191 im_X10_leave se_X10_leave in_X10 co_X10_leave rfl hd_X10_leave rfl ⟨(by dsimp only; omega), (by dsimp only; omega)⟩ hl.1 rfl (Nat.le_of_ble_eq_true rfl) dX10_lift_68 ⟨rfl, rfl⟩ (fun H locs hw => ?_)
        exact g_lret cx hr hlk hw h dX10_lift_71
      · rw [if_neg c5] at h
        refine lv_lload_n hx hb dX10_lift_24 rfl (lv_at hl 1 rfl) ?_
        exact g_lret cx hr hlk hw h dX10_lift_25
theorem pr_X10_lift_ex : ∃ f : Nat → Int64 → Int32 → Mem → Option (Int64 × Mem), (∀ (a1 : Int64) (a3 : Int32) μ, f 0 a1 a3 μ = none) ∧ (∀ n (a1 : Int64) (a3 : Int32) μ, f (n + 1) a1 a3 μ = p_X10_lift (f n) a1 a3 μ) := ⟨fun n => Nat.rec (fun (a1 : Int64) (a3 : Int32) _ => none) (fun _ ih => fun (a1 : Int64) (a3 : Int32) μ => p_X10_lift ih a1 a3 μ) n, fun _ _ _ => rfl, fun _ _ _ _ => rfl⟩
noncomputable def pr_X10_lift : Nat → Int64 → Int32 → Mem → Option (Int64 × Mem) := Classical.choose pr_X10_lift_ex
theorem pr_X10_lift_z (a1 : Int64) (a3 : Int32) (μ : Mem) : pr_X10_lift 0 a1 a3 μ = none := (Classical.choose_spec pr_X10_lift_ex).1 a1 a3 μ
theorem pr_X10_lift_s (n : Nat) (a1 : Int64) (a3 : Int32) (μ : Mem) : pr_X10_lift (n + 1) a1 a3 μ = p_X10_lift (pr_X10_lift n) a1 a3 μ := (Classical.choose_spec pr_X10_lift_ex).2 n a1 a3 μ
theorem tpr_X10_lift (l : Launch) (G : Gt) (ad : Nat → Nat) : ∀ (n : Nat) (a1 : Int64) (a3 : Int32) (μ : Mem) {r : Int64} {μz : Mem}, pr_X10_lift n a1 a3 μ = some (r, μz) → Mt l yX10_lift cX10_lift 8 (some .long) ({ frames := n * 2, cells := 0, slots := 0, locals := n * 55 } : Room) G [.ref (ad 137), .long a1, .int a3] (wd 0 G ad μ) (eL 0 G ad r μz) := by
  intro n
  induction n with
  | zero => intro a1 a3 μ r μz h; rw [pr_X10_lift_z] at h; cases h
  | succ n ih =>
    intro a1 a3 μ r μz h
    rw [pr_X10_lift_s] at h
    have e1 : (n + 1) * 2 = n * 2 + 2 := Nat.succ_mul n 2
    have e2 : (n + 1) * 55 = n * 55 + 55 := Nat.succ_mul n 55
    rw [e1, e2]
    exact t_X10_lift l G ad (pr_X10_lift n) (fun a1 a3 μ1 r2 μ2 hh => ih a1 a3 μ1 hh) a1 a3 μ h

theorem p_X5_isBlock_ex : ∃ f : Int32 → Mem → Option (Int32 × Mem), ∀ (a1 : Int32) (μ : Mem), f a1 μ = (if a1 < (0 : Int32) then some ((0 : Int32), μ) else (if (μ.1 39 6) ≤ a1 then some ((0 : Int32), μ) else some ((1 : Int32), μ))) := ⟨fun (a1 : Int32) (μ : Mem) => (if a1 < (0 : Int32) then some ((0 : Int32), μ) else (if (μ.1 39 6) ≤ a1 then some ((0 : Int32), μ) else some ((1 : Int32), μ))), fun _ _ => rfl⟩
noncomputable def p_X5_isBlock : Int32 → Mem → Option (Int32 × Mem) := Classical.choose p_X5_isBlock_ex
theorem p_X5_isBlock_eq (a1 : Int32) (μ : Mem) : p_X5_isBlock a1 μ = (if a1 < (0 : Int32) then some ((0 : Int32), μ) else (if (μ.1 39 6) ≤ a1 then some ((0 : Int32), μ) else some ((1 : Int32), μ))) := Classical.choose_spec p_X5_isBlock_ex a1 μ
set_option maxHeartbeats 4000000 in
set_option maxRecDepth 100000 in
theorem t_X5_isBlock (l : Launch) (G : Gt) (ad : Nat → Nat) (a1 : Int32) (μ : Mem) {r : Int32} {μz : Mem} (h : p_X5_isBlock a1 μ = some (r, μz)) : Mt l yX5_isBlock cX5_isBlock 2 (some .boolean) ({ frames := 0, cells := 0, slots := 0, locals := 0 } : Room) G [.ref (ad 39), .int a1] (wd 0 G ad μ) (eI 0 G ad r μz) := by
  refine Bk.mt (by decide) rfl (Nat.le_of_ble_eq_true rfl) ?_
  intro p e s m below meth c A ls H locs cx hr hlk hA hl hw
  have hx := cx.1
  have hb := cx.2.1
  have hl : lv_has ls 2 [(0, .ref (ad 39)), (1, .int a1)] := hl
  rw [p_X5_isBlock_eq] at h
  refine lv_iload_n hx hb dX5_isBlock_0 rfl (lv_at hl 1 rfl) ?_
  refine lv_if_lt (tgt := 16) hx hb dX5_isBlock_1 (by decide) (fun c1 => ?_) (fun c1 => ?_)
  · rw [if_pos c1] at h
    refine lv_iconst (v := 0) hx hb dX5_isBlock_16 (by decide) ?_
    exact g_zret cx hr hlk rfl hw h dX5_isBlock_17
  · rw [if_neg c1] at h
    refine lv_iload_n hx hb dX5_isBlock_4 rfl (lv_at hl 1 rfl) ?_
    refine lv_aload_n hx hb dX5_isBlock_5 rfl (lv_at hl 0 rfl) ?_
    refine g_get cx hw inX5 (ci := 4) rfl 6 (by decide) rfl (v := .int (μ.1 39 6)) shx_39 rfl fl_X5_60 dX5_isBlock_6 ?_
    refine lv_icmp_ge (tgt := 16) hx hb dX5_isBlock_9 (by decide) (fun c2 => ?_) (fun c2 => ?_)
    · rw [if_pos c2] at h
      refine lv_iconst (v := 0) hx hb dX5_isBlock_16 (by decide) ?_
      exact g_zret cx hr hlk rfl hw h dX5_isBlock_17
    · rw [if_neg c2] at h
      refine lv_iconst (v := 1) hx hb dX5_isBlock_12 (by decide) ?_
      refine lv_goto (tgt := 17) hx hb dX5_isBlock_13 (by decide) ?_
      exact g_zret cx hr hlk rfl hw h dX5_isBlock_17

theorem p_X5_endBlock_ex : ∃ f : Int32 → Int64 → Mem → Option Mem, ∀ (a1 : Int32) (a2 : Int64) (μ : Mem), f a1 a2 μ = bd (p_X5_isBlock a1 μ) (fun r2 μ1 => (if r2 = (0 : Int32) then some μ1 else gd (inb a1 672) (bv (sL μ1 44 a1.toNatClampNeg a2) (fun μ4 => some μ4)))) := ⟨fun (a1 : Int32) (a2 : Int64) (μ : Mem) => bd (p_X5_isBlock a1 μ) (fun r2 μ1 => (if r2 = (0 : Int32) then some μ1 else gd (inb a1 672) (bv (sL μ1 44 a1.toNatClampNeg a2) (fun μ4 => some μ4)))), fun _ _ _ => rfl⟩
noncomputable def p_X5_endBlock : Int32 → Int64 → Mem → Option Mem := Classical.choose p_X5_endBlock_ex
theorem p_X5_endBlock_eq (a1 : Int32) (a2 : Int64) (μ : Mem) : p_X5_endBlock a1 a2 μ = bd (p_X5_isBlock a1 μ) (fun r2 μ1 => (if r2 = (0 : Int32) then some μ1 else gd (inb a1 672) (bv (sL μ1 44 a1.toNatClampNeg a2) (fun μ4 => some μ4)))) := Classical.choose_spec p_X5_endBlock_ex a1 a2 μ
set_option maxHeartbeats 4000000 in
set_option maxRecDepth 100000 in
theorem t_X5_endBlock (l : Launch) (G : Gt) (ad : Nat → Nat) (a1 : Int32) (a2 : Int64) (μ : Mem) {μz : Mem} (h : p_X5_endBlock a1 a2 μ = some μz) : Mt l yX5_endBlock cX5_endBlock 4 none ({ frames := 1, cells := 0, slots := 0, locals := 21 } : Room) G [.ref (ad 39), .int a1, .long a2] (wd 0 G ad μ) (eV 0 G ad μz) := by
  refine Bk.mt (by decide) rfl (Nat.le_of_ble_eq_true rfl) ?_
  intro p e s m below meth c A ls H locs cx hr hlk hA hl hw
  have hx := cx.1
  have hb := cx.2.1
  have hl : lv_has ls 4 [(0, .ref (ad 39)), (1, .int a1), (2, .long a2)] := hl
  rw [p_X5_endBlock_eq] at h
  refine lv_aload_n hx hb dX5_endBlock_0 rfl (lv_at hl 0 rfl) ?_
  refine lv_iload_n hx hb dX5_endBlock_1 rfl (lv_at hl 1 rfl) ?_
  obtain ⟨r2, μ1, gr2, h⟩ := bd_some h
  refine g_callVI (As := [.int a1]) (rest := []) cx hw hA (t_X5_isBlock l G ad a1 μ gr2) shx_39 rfl ml_X5_93 im_X5_isBlock se_X5_isBlock in_X5 co_X5_isBlock rfl hd_X5_isBlock rfl ⟨(Nat.le_of_ble_eq_true rfl), (Nat.le_of_ble_eq_true rfl)⟩ hl.1 rfl (Nat.le_of_ble_eq_true rfl) dX5_endBlock_2 ⟨rfl, rfl⟩ (fun H locs hw => ?_)
  refine lv_if_eq (tgt := 15) hx hb dX5_endBlock_5 (by decide) (fun c3 => ?_) (fun c3 => ?_)
  · rw [if_pos c3] at h
    exact g_vret cx hr hlk hw h dX5_endBlock_15
  · rw [if_neg c3] at h
    refine lv_aload_n hx hb dX5_endBlock_8 rfl (lv_at hl 0 rfl) ?_
    refine g_get cx hw inX5 (ci := 4) rfl 11 (by decide) rfl (v := .ref (ad 44)) shx_39 rfl fl_X5_25 dX5_endBlock_9 ?_
    refine lv_iload_n hx hb dX5_endBlock_12 rfl (lv_at hl 1 rfl) ?_
    refine lv_lload_n hx hb dX5_endBlock_13 rfl (lv_at hl 2 rfl) ?_
    refine g_last cx hw shx_44 h dX5_endBlock_14 (fun μ4 H locs h hw => ?_)
    exact g_vret cx hr hlk hw h dX5_endBlock_15

theorem p_X10_endThen_ex : ∃ f : Int32 → Mem → Option Mem, ∀ (a1 : Int32) (μ : Mem), f a1 μ = bd (p_X10_branch (1 : Int32) μ) (fun r2 μ1 => (if r2 = (-1 : Int32) then bw (p_X10_closeBranch μ1) (fun μ15 => bv (sF μ15 137 9 a1) (fun μ17 => some μ17)) else bd (p_X8_pop μ1) (fun r5 μ4 => bd (pr_X10_lift 50 r5 (0 : Int32) μ4) (fun r7 μ6 => bw (p_X5_endBlock (μ1.1 137 8) r7 μ6) (fun μ8 => bd (p_X5_addBlock μ8) (fun r11 μ10 => bv (sF μ10 137 8 r11) (fun μ12 => bw (p_X10_setBranch (2 : Int32) (μ12.1 137 8) μ12) (fun μ13 => some μ13)))))))) := ⟨fun (a1 : Int32) (μ : Mem) => bd (p_X10_branch (1 : Int32) μ) (fun r2 μ1 => (if r2 = (-1 : Int32) then bw (p_X10_closeBranch μ1) (fun μ15 => bv (sF μ15 137 9 a1) (fun μ17 => some μ17)) else bd (p_X8_pop μ1) (fun r5 μ4 => bd (pr_X10_lift 50 r5 (0 : Int32) μ4) (fun r7 μ6 => bw (p_X5_endBlock (μ1.1 137 8) r7 μ6) (fun μ8 => bd (p_X5_addBlock μ8) (fun r11 μ10 => bv (sF μ10 137 8 r11) (fun μ12 => bw (p_X10_setBranch (2 : Int32) (μ12.1 137 8) μ12) (fun μ13 => some μ13)))))))), fun _ _ => rfl⟩
noncomputable def p_X10_endThen : Int32 → Mem → Option Mem := Classical.choose p_X10_endThen_ex
theorem p_X10_endThen_eq (a1 : Int32) (μ : Mem) : p_X10_endThen a1 μ = bd (p_X10_branch (1 : Int32) μ) (fun r2 μ1 => (if r2 = (-1 : Int32) then bw (p_X10_closeBranch μ1) (fun μ15 => bv (sF μ15 137 9 a1) (fun μ17 => some μ17)) else bd (p_X8_pop μ1) (fun r5 μ4 => bd (pr_X10_lift 50 r5 (0 : Int32) μ4) (fun r7 μ6 => bw (p_X5_endBlock (μ1.1 137 8) r7 μ6) (fun μ8 => bd (p_X5_addBlock μ8) (fun r11 μ10 => bv (sF μ10 137 8 r11) (fun μ12 => bw (p_X10_setBranch (2 : Int32) (μ12.1 137 8) μ12) (fun μ13 => some μ13)))))))) := Classical.choose_spec p_X10_endThen_ex a1 μ
set_option maxHeartbeats 4000000 in
set_option maxRecDepth 100000 in
theorem t_X10_endThen (l : Launch) (G : Gt) (ad : Nat → Nat) (a1 : Int32) (μ : Mem) {μz : Mem} (h : p_X10_endThen a1 μ = some μz) : Mt l yX10_endThen cX10_endThen 2 none ({ frames := 101, cells := 0, slots := 0, locals := 2777 } : Room) G [.ref (ad 137), .int a1] (wd 0 G ad μ) (eV 0 G ad μz) := by
  refine Bk.mt (by decide) rfl (Nat.le_of_ble_eq_true rfl) ?_
  intro p e s m below meth c A ls H locs cx hr hlk hA hl hw
  have hx := cx.1
  have hb := cx.2.1
  have hl : lv_has ls 2 [(0, .ref (ad 137)), (1, .int a1)] := hl
  rw [p_X10_endThen_eq] at h
  refine lv_aload_n hx hb dX10_endThen_0 rfl (lv_at hl 0 rfl) ?_
  refine lv_iconst (v := 1) hx hb dX10_endThen_1 (by decide) ?_
  obtain ⟨r2, μ1, gr2, h⟩ := bd_some h
  refine g_callVI (As := [.int 1]) (rest := []) cx hw hA (t_X10_branch l G ad (1 : Int32) μ gr2) shx_137 rfl ml_X10_280 im_X10_branch se_X10_branch in_X10 co_X10_branch rfl hd_X10_branch rfl ⟨(Nat.le_of_ble_eq_true rfl), (Nat.le_of_ble_eq_true rfl)⟩ hl.1 rfl (Nat.le_of_ble_eq_true rfl) dX10_endThen_2 ⟨rfl, rfl⟩ (fun H locs hw => ?_)
  refine lv_iconst (v := (-1)) hx hb dX10_endThen_5 (by decide) ?_
  refine lv_icmp_ne (tgt := 19) hx hb dX10_endThen_6 (by decide) (fun c3 => ?_) (fun c3 => ?_)
  · rw [if_neg c3] at h
    refine lv_aload_n hx hb dX10_endThen_19 rfl (lv_at hl 0 rfl) ?_
    refine g_get cx hw inX10 (ci := 9) rfl 4 (by decide) rfl (v := .ref (ad 39)) shx_137 rfl fl_X10_25 dX10_endThen_20 ?_
    refine lv_aload_n hx hb dX10_endThen_23 rfl (lv_at hl 0 rfl) ?_
    refine g_get cx hw inX10 (ci := 9) rfl 8 (by decide) rfl (v := .int (μ1.1 137 8)) shx_137 rfl fl_X10_108 dX10_endThen_24 ?_
    refine lv_aload_n hx hb dX10_endThen_27 rfl (lv_at hl 0 rfl) ?_
    refine lv_aload_n hx hb dX10_endThen_28 rfl (lv_at hl 0 rfl) ?_
    refine g_get cx hw inX10 (ci := 9) rfl 3 (by decide) rfl (v := .ref (ad 30)) shx_137 rfl fl_X10_21 dX10_endThen_29 ?_
    obtain ⟨r5, μ4, gr5, h⟩ := bd_some h
    refine g_callVL (As := []) (rest := [.ref (ad 137), .int (μ1.1 137 8), .ref (ad 39)]) cx hw hA (t_X8_pop l G ad μ1 gr5) shx_30 rfl ml_X10_135 im_X8_pop se_X8_pop in_X8 co_X8_pop rfl hd_X8_pop rfl ⟨(Nat.le_of_ble_eq_true rfl), (Nat.le_of_ble_eq_true rfl)⟩ hl.1 rfl (Nat.le_of_ble_eq_true rfl) dX10_endThen_32 ⟨rfl, rfl⟩ (fun H locs hw => ?_)
    refine lv_iconst (v := 0) hx hb dX10_endThen_35 (by decide) ?_
    obtain ⟨r7, μ6, gr7, h⟩ := bd_some h
    refine g_callVL (As := [.long r5, .int 0]) (rest := [.int (μ1.1 137 8), .ref (ad 39)]) cx hw hA (tpr_X10_lift l G ad 50 r5 (0 : Int32) μ4 gr7) shx_137 rfl ml_X10_139 im_X10_lift se_X10_lift in_X10 co_X10_lift rfl hd_X10_lift rfl ⟨(Nat.le_of_ble_eq_true rfl), (Nat.le_of_ble_eq_true rfl)⟩ hl.1 rfl (Nat.le_of_ble_eq_true rfl) dX10_endThen_36 ⟨rfl, rfl⟩ (fun H locs hw => ?_)
    obtain ⟨μ8, gμ8, h⟩ := bw_some h
    refine g_callVV (As := [.int (μ1.1 137 8), .long r7]) (rest := []) cx hw hA (t_X5_endBlock l G ad (μ1.1 137 8) r7 μ6 gμ8) shx_39 rfl ml_X10_143 im_X5_endBlock se_X5_endBlock in_X5 co_X5_endBlock rfl hd_X5_endBlock rfl ⟨(Nat.le_of_ble_eq_true rfl), (Nat.le_of_ble_eq_true rfl)⟩ hl.1 rfl (Nat.le_of_ble_eq_true rfl) dX10_endThen_39 ⟨rfl, rfl⟩ (fun H locs hw => ?_)
    refine lv_aload_n hx hb dX10_endThen_42 rfl (lv_at hl 0 rfl) ?_
    refine lv_aload_n hx hb dX10_endThen_43 rfl (lv_at hl 0 rfl) ?_
    refine g_get cx hw inX10 (ci := 9) rfl 4 (by decide) rfl (v := .ref (ad 39)) shx_137 rfl fl_X10_25 dX10_endThen_44 ?_
    obtain ⟨r11, μ10, gr11, h⟩ := bd_some h
    refine g_callVI (As := []) (rest := [.ref (ad 137)]) cx hw hA (t_X5_addBlock l G ad μ8 gr11) shx_39 rfl ml_X10_104 im_X5_addBlock se_X5_addBlock in_X5 co_X5_addBlock rfl hd_X5_addBlock rfl ⟨(Nat.le_of_ble_eq_true rfl), (Nat.le_of_ble_eq_true rfl)⟩ hl.1 rfl (Nat.le_of_ble_eq_true rfl) dX10_endThen_47 ⟨rfl, rfl⟩ (fun H locs hw => ?_)
    refine g_put cx hw inX10 (ci := 9) rfl tyX10_ok nmX10 8 (by decide) rfl rfl rfl rfl shx_137 h fl_X10_108 dX10_endThen_50 (fun μ12 H locs h hw => ?_)
    refine lv_aload_n hx hb dX10_endThen_53 rfl (lv_at hl 0 rfl) ?_
    refine lv_iconst (v := 2) hx hb dX10_endThen_54 (by decide) ?_
    refine lv_aload_n hx hb dX10_endThen_55 rfl (lv_at hl 0 rfl) ?_
    refine g_get cx hw inX10 (ci := 9) rfl 8 (by decide) rfl (v := .int (μ12.1 137 8)) shx_137 rfl fl_X10_108 dX10_endThen_56 ?_
    obtain ⟨μ13, gμ13, h⟩ := bw_some h
    refine g_callVV (As := [.int 2, .int (μ12.1 137 8)]) (rest := []) cx hw hA (t_X10_setBranch l G ad (2 : Int32) (μ12.1 137 8) μ12 gμ13) shx_137 rfl ml_X10_272 im_X10_setBranch se_X10_setBranch in_X10 co_X10_setBranch rfl hd_X10_setBranch rfl ⟨(Nat.le_of_ble_eq_true rfl), (Nat.le_of_ble_eq_true rfl)⟩ hl.1 rfl (Nat.le_of_ble_eq_true rfl) dX10_endThen_59 ⟨rfl, rfl⟩ (fun H locs hw => ?_)
    exact g_vret cx hr hlk hw h dX10_endThen_62
  · rw [if_pos c3] at h
    refine lv_aload_n hx hb dX10_endThen_9 rfl (lv_at hl 0 rfl) ?_
    obtain ⟨μ15, gμ15, h⟩ := bw_some h
    refine g_callVV (As := []) (rest := []) cx hw hA (t_X10_closeBranch l G ad μ1 gμ15) shx_137 rfl ml_X10_283 im_X10_closeBranch se_X10_closeBranch in_X10 co_X10_closeBranch rfl hd_X10_closeBranch rfl ⟨(Nat.le_of_ble_eq_true rfl), (Nat.le_of_ble_eq_true rfl)⟩ hl.1 rfl (Nat.le_of_ble_eq_true rfl) dX10_endThen_10 ⟨rfl, rfl⟩ (fun H locs hw => ?_)
    refine lv_aload_n hx hb dX10_endThen_13 rfl (lv_at hl 0 rfl) ?_
    refine lv_iload_n hx hb dX10_endThen_14 rfl (lv_at hl 1 rfl) ?_
    refine g_put cx hw inX10 (ci := 9) rfl tyX10_ok nmX10 9 (by decide) rfl rfl rfl rfl shx_137 h fl_X10_73 dX10_endThen_15 (fun μ17 H locs h hw => ?_)
    exact g_vret cx hr hlk hw h dX10_endThen_18

theorem p_X5_setCell_ex : ∃ f : Int32 → Int32 → Int32 → Mem → Option Mem, ∀ (a1 : Int32) (a2 : Int32) (a3 : Int32) (μ : Mem), f a1 a2 a3 μ = (if a1 < (0 : Int32) then some μ else (if (μ.1 39 1) ≤ a1 then some μ else (if (8 : Int32) ≤ a2 then some μ else gd (inb ((a1 * (8 : Int32)) + a2) 2400) (bv (sF μ 40 ((a1 * (8 : Int32)) + a2).toNatClampNeg a3) (fun μ4 => some μ4))))) := ⟨fun (a1 : Int32) (a2 : Int32) (a3 : Int32) (μ : Mem) => (if a1 < (0 : Int32) then some μ else (if (μ.1 39 1) ≤ a1 then some μ else (if (8 : Int32) ≤ a2 then some μ else gd (inb ((a1 * (8 : Int32)) + a2) 2400) (bv (sF μ 40 ((a1 * (8 : Int32)) + a2).toNatClampNeg a3) (fun μ4 => some μ4))))), fun _ _ _ _ => rfl⟩
noncomputable def p_X5_setCell : Int32 → Int32 → Int32 → Mem → Option Mem := Classical.choose p_X5_setCell_ex
theorem p_X5_setCell_eq (a1 : Int32) (a2 : Int32) (a3 : Int32) (μ : Mem) : p_X5_setCell a1 a2 a3 μ = (if a1 < (0 : Int32) then some μ else (if (μ.1 39 1) ≤ a1 then some μ else (if (8 : Int32) ≤ a2 then some μ else gd (inb ((a1 * (8 : Int32)) + a2) 2400) (bv (sF μ 40 ((a1 * (8 : Int32)) + a2).toNatClampNeg a3) (fun μ4 => some μ4))))) := Classical.choose_spec p_X5_setCell_ex a1 a2 a3 μ
set_option maxHeartbeats 4000000 in
set_option maxRecDepth 100000 in
theorem t_X5_setCell (l : Launch) (G : Gt) (ad : Nat → Nat) (a1 : Int32) (a2 : Int32) (a3 : Int32) (μ : Mem) {μz : Mem} (h : p_X5_setCell a1 a2 a3 μ = some μz) : Mt l yX5_setCell cX5_setCell 4 none ({ frames := 0, cells := 0, slots := 0, locals := 0 } : Room) G [.ref (ad 39), .int a1, .int a2, .int a3] (wd 0 G ad μ) (eV 0 G ad μz) := by
  refine Bk.mt (by decide) rfl (Nat.le_of_ble_eq_true rfl) ?_
  intro p e s m below meth c A ls H locs cx hr hlk hA hl hw
  have hx := cx.1
  have hb := cx.2.1
  have hl : lv_has ls 4 [(0, .ref (ad 39)), (1, .int a1), (2, .int a2), (3, .int a3)] := hl
  rw [p_X5_setCell_eq] at h
  refine lv_iload_n hx hb dX5_setCell_0 rfl (lv_at hl 1 rfl) ?_
  refine lv_if_lt (tgt := 30) hx hb dX5_setCell_1 (by decide) (fun c1 => ?_) (fun c1 => ?_)
  · rw [if_pos c1] at h
    exact g_vret cx hr hlk hw h dX5_setCell_30
  · rw [if_neg c1] at h
    refine lv_iload_n hx hb dX5_setCell_4 rfl (lv_at hl 1 rfl) ?_
    refine lv_aload_n hx hb dX5_setCell_5 rfl (lv_at hl 0 rfl) ?_
    refine g_get cx hw inX5 (ci := 4) rfl 1 (by decide) rfl (v := .int (μ.1 39 1)) shx_39 rfl fl_X5_44 dX5_setCell_6 ?_
    refine lv_icmp_ge (tgt := 30) hx hb dX5_setCell_9 (by decide) (fun c2 => ?_) (fun c2 => ?_)
    · rw [if_pos c2] at h
      exact g_vret cx hr hlk hw h dX5_setCell_30
    · rw [if_neg c2] at h
      refine lv_iload_n hx hb dX5_setCell_12 rfl (lv_at hl 2 rfl) ?_
      refine lv_bipush (v := 8) hx hb dX5_setCell_13 (by decide) ?_
      refine lv_icmp_ge (tgt := 30) hx hb dX5_setCell_15 (by decide) (fun c3 => ?_) (fun c3 => ?_)
      · rw [if_pos c3] at h
        exact g_vret cx hr hlk hw h dX5_setCell_30
      · rw [if_neg c3] at h
        refine lv_aload_n hx hb dX5_setCell_18 rfl (lv_at hl 0 rfl) ?_
        refine g_get cx hw inX5 (ci := 4) rfl 7 (by decide) rfl (v := .ref (ad 40)) shx_39 rfl fl_X5_11 dX5_setCell_19 ?_
        refine lv_iload_n hx hb dX5_setCell_22 rfl (lv_at hl 1 rfl) ?_
        refine lv_bipush (v := 8) hx hb dX5_setCell_23 (by decide) ?_
        refine lv_imul hx hb dX5_setCell_25 ?_
        refine lv_iload_n hx hb dX5_setCell_26 rfl (lv_at hl 2 rfl) ?_
        refine lv_iadd hx hb dX5_setCell_27 ?_
        refine lv_iload_n hx hb dX5_setCell_28 rfl (lv_at hl 3 rfl) ?_
        refine g_iast cx hw shx_40 h dX5_setCell_29 (fun μ4 H locs h hw => ?_)
        exact g_vret cx hr hlk hw h dX5_setCell_30

theorem p_X5_endOf_ex : ∃ f : Int32 → Mem → Option (Int64 × Mem), ∀ (a1 : Int32) (μ : Mem), f a1 μ = bd (p_X5_isBlock a1 μ) (fun r2 μ1 => (if r2 = (0 : Int32) then some ((0 : Int64), μ1) else gd (inb a1 672) (some ((μ1.2.1 44 a1.toNatClampNeg), μ1)))) := ⟨fun (a1 : Int32) (μ : Mem) => bd (p_X5_isBlock a1 μ) (fun r2 μ1 => (if r2 = (0 : Int32) then some ((0 : Int64), μ1) else gd (inb a1 672) (some ((μ1.2.1 44 a1.toNatClampNeg), μ1)))), fun _ _ => rfl⟩
noncomputable def p_X5_endOf : Int32 → Mem → Option (Int64 × Mem) := Classical.choose p_X5_endOf_ex
theorem p_X5_endOf_eq (a1 : Int32) (μ : Mem) : p_X5_endOf a1 μ = bd (p_X5_isBlock a1 μ) (fun r2 μ1 => (if r2 = (0 : Int32) then some ((0 : Int64), μ1) else gd (inb a1 672) (some ((μ1.2.1 44 a1.toNatClampNeg), μ1)))) := Classical.choose_spec p_X5_endOf_ex a1 μ
set_option maxHeartbeats 4000000 in
set_option maxRecDepth 100000 in
theorem t_X5_endOf (l : Launch) (G : Gt) (ad : Nat → Nat) (a1 : Int32) (μ : Mem) {r : Int64} {μz : Mem} (h : p_X5_endOf a1 μ = some (r, μz)) : Mt l yX5_endOf cX5_endOf 2 (some .long) ({ frames := 1, cells := 0, slots := 0, locals := 21 } : Room) G [.ref (ad 39), .int a1] (wd 0 G ad μ) (eL 0 G ad r μz) := by
  refine Bk.mt (by decide) rfl (Nat.le_of_ble_eq_true rfl) ?_
  intro p e s m below meth c A ls H locs cx hr hlk hA hl hw
  have hx := cx.1
  have hb := cx.2.1
  have hl : lv_has ls 2 [(0, .ref (ad 39)), (1, .int a1)] := hl
  rw [p_X5_endOf_eq] at h
  refine lv_aload_n hx hb dX5_endOf_0 rfl (lv_at hl 0 rfl) ?_
  refine lv_iload_n hx hb dX5_endOf_1 rfl (lv_at hl 1 rfl) ?_
  obtain ⟨r2, μ1, gr2, h⟩ := bd_some h
  refine g_callVI (As := [.int a1]) (rest := []) cx hw hA (t_X5_isBlock l G ad a1 μ gr2) shx_39 rfl ml_X5_93 im_X5_isBlock se_X5_isBlock in_X5 co_X5_isBlock rfl hd_X5_isBlock rfl ⟨(Nat.le_of_ble_eq_true rfl), (Nat.le_of_ble_eq_true rfl)⟩ hl.1 rfl (Nat.le_of_ble_eq_true rfl) dX5_endOf_2 ⟨rfl, rfl⟩ (fun H locs hw => ?_)
  refine lv_if_eq (tgt := 17) hx hb dX5_endOf_5 (by decide) (fun c3 => ?_) (fun c3 => ?_)
  · rw [if_pos c3] at h
    refine lv_lconst (v := 0) hx hb dX5_endOf_17 (by decide) ?_
    exact g_lret cx hr hlk hw h dX5_endOf_18
  · rw [if_neg c3] at h
    refine lv_aload_n hx hb dX5_endOf_8 rfl (lv_at hl 0 rfl) ?_
    refine g_get cx hw inX5 (ci := 4) rfl 11 (by decide) rfl (v := .ref (ad 44)) shx_39 rfl fl_X5_25 dX5_endOf_9 ?_
    refine lv_iload_n hx hb dX5_endOf_12 rfl (lv_at hl 1 rfl) ?_
    refine g_lald cx hw shx_44 h dX5_endOf_13 (fun h => ?_)
    refine lv_goto (tgt := 18) hx hb dX5_endOf_14 (by decide) ?_
    exact g_lret cx hr hlk hw h dX5_endOf_18

theorem p_X10_endElse_ex : ∃ f : Mem → Option Mem, ∀  (μ : Mem), f  μ = bd (p_X10_branch (1 : Int32) μ) (fun r2 μ1 => bd (p_X10_branch (2 : Int32) μ1) (fun r4 μ3 => (if r2 = (-1 : Int32) then bw (p_X10_closeBranch μ3) (fun μ6 => some μ6) else (if (1 : Int32) ≤ (μ3.1 137 12) then bd (p_X8_pop μ3) (fun r10 μ9 => bd (pr_X10_lift 50 r10 (0 : Int32) μ9) (fun r12 μ11 => bw (p_X5_endBlock (μ3.1 137 8) r12 μ11) (fun μ13 => bd (p_X10_branch (0 : Int32) μ13) (fun r16 μ15 => bv (sF μ15 137 8 r16) (fun μ17 => gd (inb ((μ17.1 137 12) - (1 : Int32)) 260) (bd (p_X10_leave (6 : Int32) (0 : Int32) (μ17.2.1 139 ((μ17.1 137 12) - (1 : Int32)).toNatClampNeg) (0 : Int64) μ17) (fun r19 μ18 => bw (p_X10_closeBranch μ18) (fun μ20 => bv (sF μ20 137 13 ((μ20.1 137 13) - (1 : Int32))) (fun μ22 => (if (μ22.1 137 6) = (0 : Int32) then bw (p_X5_setCell ((μ22.1 39 1) - (1 : Int32)) (3 : Int32) r2 μ22) (fun μ24 => bw (p_X5_setCell ((μ24.1 39 1) - (1 : Int32)) (4 : Int32) r4 μ24) (fun μ26 => bd (p_X5_endOf r2 μ26) (fun r29 μ28 => (if (s_X0_isKnown r29) = (0 : Int32) then bw (p_X8_push r19 μ28) (fun μ31 => some μ31) else bd (p_X5_endOf r4 μ28) (fun r34 μ33 => (if (lg_cmp r29 r34) = (0 : Int32) then bw (p_X8_push r29 μ33) (fun μ38 => some μ38) else bw (p_X8_push r19 μ33) (fun μ36 => some μ36))))))) else some μ22)))))))))) else bw (p_X10_closeBranch μ3) (fun μ40 => some μ40))))) := ⟨fun  (μ : Mem) => bd (p_X10_branch (1 : Int32) μ) (fun r2 μ1 => bd (p_X10_branch (2 : Int32) μ1) (fun r4 μ3 => (if r2 = (-1 : Int32) then bw (p_X10_closeBranch μ3) (fun μ6 => some μ6) else (if (1 : Int32) ≤ (μ3.1 137 12) then bd (p_X8_pop μ3) (fun r10 μ9 => bd (pr_X10_lift 50 r10 (0 : Int32) μ9) (fun r12 μ11 => bw (p_X5_endBlock (μ3.1 137 8) r12 μ11) (fun μ13 => bd (p_X10_branch (0 : Int32) μ13) (fun r16 μ15 => bv (sF μ15 137 8 r16) (fun μ17 => gd (inb ((μ17.1 137 12) - (1 : Int32)) 260) (bd (p_X10_leave (6 : Int32) (0 : Int32) (μ17.2.1 139 ((μ17.1 137 12) - (1 : Int32)).toNatClampNeg) (0 : Int64) μ17) (fun r19 μ18 => bw (p_X10_closeBranch μ18) (fun μ20 => bv (sF μ20 137 13 ((μ20.1 137 13) - (1 : Int32))) (fun μ22 => (if (μ22.1 137 6) = (0 : Int32) then bw (p_X5_setCell ((μ22.1 39 1) - (1 : Int32)) (3 : Int32) r2 μ22) (fun μ24 => bw (p_X5_setCell ((μ24.1 39 1) - (1 : Int32)) (4 : Int32) r4 μ24) (fun μ26 => bd (p_X5_endOf r2 μ26) (fun r29 μ28 => (if (s_X0_isKnown r29) = (0 : Int32) then bw (p_X8_push r19 μ28) (fun μ31 => some μ31) else bd (p_X5_endOf r4 μ28) (fun r34 μ33 => (if (lg_cmp r29 r34) = (0 : Int32) then bw (p_X8_push r29 μ33) (fun μ38 => some μ38) else bw (p_X8_push r19 μ33) (fun μ36 => some μ36))))))) else some μ22)))))))))) else bw (p_X10_closeBranch μ3) (fun μ40 => some μ40))))), fun _ => rfl⟩
noncomputable def p_X10_endElse : Mem → Option Mem := Classical.choose p_X10_endElse_ex
theorem p_X10_endElse_eq  (μ : Mem) : p_X10_endElse  μ = bd (p_X10_branch (1 : Int32) μ) (fun r2 μ1 => bd (p_X10_branch (2 : Int32) μ1) (fun r4 μ3 => (if r2 = (-1 : Int32) then bw (p_X10_closeBranch μ3) (fun μ6 => some μ6) else (if (1 : Int32) ≤ (μ3.1 137 12) then bd (p_X8_pop μ3) (fun r10 μ9 => bd (pr_X10_lift 50 r10 (0 : Int32) μ9) (fun r12 μ11 => bw (p_X5_endBlock (μ3.1 137 8) r12 μ11) (fun μ13 => bd (p_X10_branch (0 : Int32) μ13) (fun r16 μ15 => bv (sF μ15 137 8 r16) (fun μ17 => gd (inb ((μ17.1 137 12) - (1 : Int32)) 260) (bd (p_X10_leave (6 : Int32) (0 : Int32) (μ17.2.1 139 ((μ17.1 137 12) - (1 : Int32)).toNatClampNeg) (0 : Int64) μ17) (fun r19 μ18 => bw (p_X10_closeBranch μ18) (fun μ20 => bv (sF μ20 137 13 ((μ20.1 137 13) - (1 : Int32))) (fun μ22 => (if (μ22.1 137 6) = (0 : Int32) then bw (p_X5_setCell ((μ22.1 39 1) - (1 : Int32)) (3 : Int32) r2 μ22) (fun μ24 => bw (p_X5_setCell ((μ24.1 39 1) - (1 : Int32)) (4 : Int32) r4 μ24) (fun μ26 => bd (p_X5_endOf r2 μ26) (fun r29 μ28 => (if (s_X0_isKnown r29) = (0 : Int32) then bw (p_X8_push r19 μ28) (fun μ31 => some μ31) else bd (p_X5_endOf r4 μ28) (fun r34 μ33 => (if (lg_cmp r29 r34) = (0 : Int32) then bw (p_X8_push r29 μ33) (fun μ38 => some μ38) else bw (p_X8_push r19 μ33) (fun μ36 => some μ36))))))) else some μ22)))))))))) else bw (p_X10_closeBranch μ3) (fun μ40 => some μ40))))) := Classical.choose_spec p_X10_endElse_ex  μ
set_option maxHeartbeats 4000000 in
set_option maxRecDepth 100000 in
theorem t_X10_endElse (l : Launch) (G : Gt) (ad : Nat → Nat)  (μ : Mem) {μz : Mem} (h : p_X10_endElse  μ = some μz) : Mt l yX10_endElse cX10_endElse 7 none ({ frames := 101, cells := 0, slots := 0, locals := 2777 } : Room) G [.ref (ad 137)] (wd 0 G ad μ) (eV 0 G ad μz) := by
  refine Bk.mt (by decide) rfl (Nat.le_of_ble_eq_true rfl) ?_
  intro p e s m below meth c A ls H locs cx hr hlk hA hl hw
  have hx := cx.1
  have hb := cx.2.1
  have hl : lv_has ls 7 [(0, .ref (ad 137))] := hl
  rw [p_X10_endElse_eq] at h
  refine lv_aload_n hx hb dX10_endElse_0 rfl (lv_at hl 0 rfl) ?_
  refine lv_iconst (v := 1) hx hb dX10_endElse_1 (by decide) ?_
  obtain ⟨r2, μ1, gr2, h⟩ := bd_some h
  refine g_callVI (As := [.int 1]) (rest := []) cx hw hA (t_X10_branch l G ad (1 : Int32) μ gr2) shx_137 rfl ml_X10_280 im_X10_branch se_X10_branch in_X10 co_X10_branch rfl hd_X10_branch rfl ⟨(Nat.le_of_ble_eq_true rfl), (Nat.le_of_ble_eq_true rfl)⟩ hl.1 rfl (Nat.le_of_ble_eq_true rfl) dX10_endElse_2 ⟨rfl, rfl⟩ (fun H locs hw => ?_)
  refine lv_istore_n (lv' := [(1, .int r2), (0, .ref (ad 137))]) hx hb dX10_endElse_5 rfl hl (by decide) rfl (fun ls hl => ?_)
  refine lv_aload_n hx hb dX10_endElse_6 rfl (lv_at hl 1 rfl) ?_
  refine lv_iconst (v := 2) hx hb dX10_endElse_7 (by decide) ?_
  obtain ⟨r4, μ3, gr4, h⟩ := bd_some h
  refine g_callVI (As := [.int 2]) (rest := []) cx hw hA (t_X10_branch l G ad (2 : Int32) μ1 gr4) shx_137 rfl ml_X10_280 im_X10_branch se_X10_branch in_X10 co_X10_branch rfl hd_X10_branch rfl ⟨(Nat.le_of_ble_eq_true rfl), (Nat.le_of_ble_eq_true rfl)⟩ hl.1 rfl (Nat.le_of_ble_eq_true rfl) dX10_endElse_8 ⟨rfl, rfl⟩ (fun H locs hw => ?_)
  refine lv_istore_n (lv' := [(2, .int r4), (1, .int r2), (0, .ref (ad 137))]) hx hb dX10_endElse_11 rfl hl (by decide) rfl (fun ls hl => ?_)
  refine lv_iload_n hx hb dX10_endElse_12 rfl (lv_at hl 1 rfl) ?_
  refine lv_iconst (v := (-1)) hx hb dX10_endElse_13 (by decide) ?_
  refine lv_icmp_eq (tgt := 25) hx hb dX10_endElse_14 (by decide) (fun c5 => ?_) (fun c5 => ?_)
  · rw [if_pos c5] at h
    refine lv_aload_n hx hb dX10_endElse_25 rfl (lv_at hl 2 rfl) ?_
    obtain ⟨μ6, gμ6, h⟩ := bw_some h
    refine g_callVV (As := []) (rest := []) cx hw hA (t_X10_closeBranch l G ad μ3 gμ6) shx_137 rfl ml_X10_283 im_X10_closeBranch se_X10_closeBranch in_X10 co_X10_closeBranch rfl hd_X10_closeBranch rfl ⟨(Nat.le_of_ble_eq_true rfl), (Nat.le_of_ble_eq_true rfl)⟩ hl.1 rfl (Nat.le_of_ble_eq_true rfl) dX10_endElse_26 ⟨rfl, rfl⟩ (fun H locs hw => ?_)
    exact g_vret cx hr hlk hw h dX10_endElse_29
  · rw [if_neg c5] at h
    refine lv_aload_n hx hb dX10_endElse_17 rfl (lv_at hl 2 rfl) ?_
    refine g_get cx hw inX10 (ci := 9) rfl 12 (by decide) rfl (v := .int (μ3.1 137 12)) shx_137 rfl fl_X10_118 dX10_endElse_18 ?_
    refine lv_iconst (v := 1) hx hb dX10_endElse_21 (by decide) ?_
    refine lv_icmp_ge (tgt := 30) hx hb dX10_endElse_22 (by decide) (fun c8 => ?_) (fun c8 => ?_)
    · rw [if_pos c8] at h
      refine lv_aload_n hx hb dX10_endElse_30 rfl (lv_at hl 2 rfl) ?_
      refine g_get cx hw inX10 (ci := 9) rfl 4 (by decide) rfl (v := .ref (ad 39)) shx_137 rfl fl_X10_25 dX10_endElse_31 ?_
      refine lv_aload_n hx hb dX10_endElse_34 rfl (lv_at hl 2 rfl) ?_
      refine g_get cx hw inX10 (ci := 9) rfl 8 (by decide) rfl (v := .int (μ3.1 137 8)) shx_137 rfl fl_X10_108 dX10_endElse_35 ?_
      refine lv_aload_n hx hb dX10_endElse_38 rfl (lv_at hl 2 rfl) ?_
      refine lv_aload_n hx hb dX10_endElse_39 rfl (lv_at hl 2 rfl) ?_
      refine g_get cx hw inX10 (ci := 9) rfl 3 (by decide) rfl (v := .ref (ad 30)) shx_137 rfl fl_X10_21 dX10_endElse_40 ?_
      obtain ⟨r10, μ9, gr10, h⟩ := bd_some h
      refine g_callVL (As := []) (rest := [.ref (ad 137), .int (μ3.1 137 8), .ref (ad 39)]) cx hw hA (t_X8_pop l G ad μ3 gr10) shx_30 rfl ml_X10_135 im_X8_pop se_X8_pop in_X8 co_X8_pop rfl hd_X8_pop rfl ⟨(Nat.le_of_ble_eq_true rfl), (Nat.le_of_ble_eq_true rfl)⟩ hl.1 rfl (Nat.le_of_ble_eq_true rfl) dX10_endElse_43 ⟨rfl, rfl⟩ (fun H locs hw => ?_)
      refine lv_iconst (v := 0) hx hb dX10_endElse_46 (by decide) ?_
      obtain ⟨r12, μ11, gr12, h⟩ := bd_some h
      refine g_callVL (As := [.long r10, .int 0]) (rest := [.int (μ3.1 137 8), .ref (ad 39)]) cx hw hA (tpr_X10_lift l G ad 50 r10 (0 : Int32) μ9 gr12) shx_137 rfl ml_X10_139 im_X10_lift se_X10_lift in_X10 co_X10_lift rfl hd_X10_lift rfl ⟨(Nat.le_of_ble_eq_true rfl), (Nat.le_of_ble_eq_true rfl)⟩ hl.1 rfl (Nat.le_of_ble_eq_true rfl) dX10_endElse_47 ⟨rfl, rfl⟩ (fun H locs hw => ?_)
      obtain ⟨μ13, gμ13, h⟩ := bw_some h
      refine g_callVV (As := [.int (μ3.1 137 8), .long r12]) (rest := []) cx hw hA (t_X5_endBlock l G ad (μ3.1 137 8) r12 μ11 gμ13) shx_39 rfl ml_X10_143 im_X5_endBlock se_X5_endBlock in_X5 co_X5_endBlock rfl hd_X5_endBlock rfl ⟨(Nat.le_of_ble_eq_true rfl), (Nat.le_of_ble_eq_true rfl)⟩ hl.1 rfl (Nat.le_of_ble_eq_true rfl) dX10_endElse_50 ⟨rfl, rfl⟩ (fun H locs hw => ?_)
      refine lv_aload_n hx hb dX10_endElse_53 rfl (lv_at hl 2 rfl) ?_
      refine lv_aload_n hx hb dX10_endElse_54 rfl (lv_at hl 2 rfl) ?_
      refine lv_iconst (v := 0) hx hb dX10_endElse_55 (by decide) ?_
      obtain ⟨r16, μ15, gr16, h⟩ := bd_some h
      refine g_callVI (As := [.int 0]) (rest := [.ref (ad 137)]) cx hw hA (t_X10_branch l G ad (0 : Int32) μ13 gr16) shx_137 rfl ml_X10_280 im_X10_branch se_X10_branch in_X10 co_X10_branch rfl hd_X10_branch rfl ⟨(Nat.le_of_ble_eq_true rfl), (Nat.le_of_ble_eq_true rfl)⟩ hl.1 rfl (Nat.le_of_ble_eq_true rfl) dX10_endElse_56 ⟨rfl, rfl⟩ (fun H locs hw => ?_)
      refine g_put cx hw inX10 (ci := 9) rfl tyX10_ok nmX10 8 (by decide) rfl rfl rfl rfl shx_137 h fl_X10_108 dX10_endElse_59 (fun μ17 H locs h hw => ?_)
      refine lv_aload_n hx hb dX10_endElse_62 rfl (lv_at hl 2 rfl) ?_
      refine lv_bipush (v := 6) hx hb dX10_endElse_63 (by decide) ?_
      refine lv_iconst (v := 0) hx hb dX10_endElse_65 (by decide) ?_
      refine lv_aload_n hx hb dX10_endElse_66 rfl (lv_at hl 2 rfl) ?_
      refine g_get cx hw inX10 (ci := 9) rfl 11 (by decide) rfl (v := .ref (ad 139)) shx_137 rfl fl_X10_37 dX10_endElse_67 ?_
      refine lv_aload_n hx hb dX10_endElse_70 rfl (lv_at hl 2 rfl) ?_
      refine g_get cx hw inX10 (ci := 9) rfl 12 (by decide) rfl (v := .int (μ17.1 137 12)) shx_137 rfl fl_X10_118 dX10_endElse_71 ?_
      refine lv_iconst (v := 1) hx hb dX10_endElse_74 (by decide) ?_
      refine lv_isub hx hb dX10_endElse_75 ?_
      refine g_lald cx hw shx_139 h dX10_endElse_76 (fun h => ?_)
      refine lv_lconst (v := 0) hx hb dX10_endElse_77 (by decide) ?_
      obtain ⟨r19, μ18, gr19, h⟩ := bd_some h
      refine g_callVL (As := [.int 6, .int 0, .long (μ17.2.1 139 ((μ17.1 137 12) - (1 : Int32)).toNatClampNeg), .long 0]) (rest := []) cx hw hA (t_X10_leave l G ad (6 : Int32) (0 : Int32) (μ17.2.1 139 ((μ17.1 137 12) - (1 : Int32)).toNatClampNeg) (0 : Int64) μ17 gr19) shx_137 rfl ml_X10_191 im_X10_leave se_X10_leave in_X10 co_X10_leave rfl hd_X10_leave rfl ⟨(Nat.le_of_ble_eq_true rfl), (Nat.le_of_ble_eq_true rfl)⟩ hl.1 rfl (Nat.le_of_ble_eq_true rfl) dX10_endElse_78 ⟨rfl, rfl⟩ (fun H locs hw => ?_)
      refine lv_lstore_n (lv' := [(3, .long r19), (2, .int r4), (1, .int r2), (0, .ref (ad 137))]) hx hb dX10_endElse_81 rfl hl (by decide) rfl (fun ls hl => ?_)
      refine lv_aload_n hx hb dX10_endElse_82 rfl (lv_at hl 3 rfl) ?_
      obtain ⟨μ20, gμ20, h⟩ := bw_some h
      refine g_callVV (As := []) (rest := []) cx hw hA (t_X10_closeBranch l G ad μ18 gμ20) shx_137 rfl ml_X10_283 im_X10_closeBranch se_X10_closeBranch in_X10 co_X10_closeBranch rfl hd_X10_closeBranch rfl ⟨(Nat.le_of_ble_eq_true rfl), (Nat.le_of_ble_eq_true rfl)⟩ hl.1 rfl (Nat.le_of_ble_eq_true rfl) dX10_endElse_83 ⟨rfl, rfl⟩ (fun H locs hw => ?_)
      refine lv_aload_n hx hb dX10_endElse_86 rfl (lv_at hl 3 rfl) ?_
      refine lv_dup hx hb dX10_endElse_87 rfl ?_
      refine g_get cx hw inX10 (ci := 9) rfl 13 (by decide) rfl (v := .int (μ20.1 137 13)) shx_137 rfl fl_X10_121 dX10_endElse_88 ?_
      refine lv_iconst (v := 1) hx hb dX10_endElse_91 (by decide) ?_
      refine lv_isub hx hb dX10_endElse_92 ?_
      refine g_put cx hw inX10 (ci := 9) rfl tyX10_ok nmX10 13 (by decide) rfl rfl rfl rfl shx_137 h fl_X10_121 dX10_endElse_93 (fun μ22 H locs h hw => ?_)
      refine lv_aload_n hx hb dX10_endElse_96 rfl (lv_at hl 3 rfl) ?_
      refine g_get cx hw inX10 (ci := 9) rfl 6 (by decide) rfl (v := .int (μ22.1 137 6)) shx_137 rfl fl_X10_70 dX10_endElse_97 ?_
      refine lv_if_eq (tgt := 104) hx hb dX10_endElse_100 (by decide) (fun c23 => ?_) (fun c23 => ?_)
      · rw [if_pos c23] at h
        refine lv_aload_n hx hb dX10_endElse_104 rfl (lv_at hl 3 rfl) ?_
        refine g_get cx hw inX10 (ci := 9) rfl 4 (by decide) rfl (v := .ref (ad 39)) shx_137 rfl fl_X10_25 dX10_endElse_105 ?_
        refine lv_aload_n hx hb dX10_endElse_108 rfl (lv_at hl 3 rfl) ?_
        refine g_get cx hw inX10 (ci := 9) rfl 4 (by decide) rfl (v := .ref (ad 39)) shx_137 rfl fl_X10_25 dX10_endElse_109 ?_
        refine g_get cx hw inX5 (ci := 4) rfl 1 (by decide) rfl (v := .int (μ22.1 39 1)) shx_39 rfl fl_X10_286 dX10_endElse_112 ?_
        refine lv_iconst (v := 1) hx hb dX10_endElse_115 (by decide) ?_
        refine lv_isub hx hb dX10_endElse_116 ?_
        refine lv_iconst (v := 3) hx hb dX10_endElse_117 (by decide) ?_
        refine lv_iload_n hx hb dX10_endElse_118 rfl (lv_at hl 2 rfl) ?_
        obtain ⟨μ24, gμ24, h⟩ := bw_some h
        refine g_callVV (As := [.int ((μ22.1 39 1) - (1 : Int32)), .int 3, .int r2]) (rest := []) cx hw hA (t_X5_setCell l G ad ((μ22.1 39 1) - (1 : Int32)) (3 : Int32) r2 μ22 gμ24) shx_39 rfl ml_X10_289 im_X5_setCell se_X5_setCell in_X5 co_X5_setCell rfl hd_X5_setCell rfl ⟨(Nat.le_of_ble_eq_true rfl), (Nat.le_of_ble_eq_true rfl)⟩ hl.1 rfl (Nat.le_of_ble_eq_true rfl) dX10_endElse_119 ⟨rfl, rfl⟩ (fun H locs hw => ?_)
        refine lv_aload_n hx hb dX10_endElse_122 rfl (lv_at hl 3 rfl) ?_
        refine g_get cx hw inX10 (ci := 9) rfl 4 (by decide) rfl (v := .ref (ad 39)) shx_137 rfl fl_X10_25 dX10_endElse_123 ?_
        refine lv_aload_n hx hb dX10_endElse_126 rfl (lv_at hl 3 rfl) ?_
        refine g_get cx hw inX10 (ci := 9) rfl 4 (by decide) rfl (v := .ref (ad 39)) shx_137 rfl fl_X10_25 dX10_endElse_127 ?_
        refine g_get cx hw inX5 (ci := 4) rfl 1 (by decide) rfl (v := .int (μ24.1 39 1)) shx_39 rfl fl_X10_286 dX10_endElse_130 ?_
        refine lv_iconst (v := 1) hx hb dX10_endElse_133 (by decide) ?_
        refine lv_isub hx hb dX10_endElse_134 ?_
        refine lv_iconst (v := 4) hx hb dX10_endElse_135 (by decide) ?_
        refine lv_iload_n hx hb dX10_endElse_136 rfl (lv_at hl 1 rfl) ?_
        obtain ⟨μ26, gμ26, h⟩ := bw_some h
        refine g_callVV (As := [.int ((μ24.1 39 1) - (1 : Int32)), .int 4, .int r4]) (rest := []) cx hw hA (t_X5_setCell l G ad ((μ24.1 39 1) - (1 : Int32)) (4 : Int32) r4 μ24 gμ26) shx_39 rfl ml_X10_289 im_X5_setCell se_X5_setCell in_X5 co_X5_setCell rfl hd_X5_setCell rfl ⟨(Nat.le_of_ble_eq_true rfl), (Nat.le_of_ble_eq_true rfl)⟩ hl.1 rfl (Nat.le_of_ble_eq_true rfl) dX10_endElse_137 ⟨rfl, rfl⟩ (fun H locs hw => ?_)
        refine lv_aload_n hx hb dX10_endElse_140 rfl (lv_at hl 3 rfl) ?_
        refine g_get cx hw inX10 (ci := 9) rfl 4 (by decide) rfl (v := .ref (ad 39)) shx_137 rfl fl_X10_25 dX10_endElse_141 ?_
        refine lv_iload_n hx hb dX10_endElse_144 rfl (lv_at hl 2 rfl) ?_
        obtain ⟨r29, μ28, gr29, h⟩ := bd_some h
        refine g_callVL (As := [.int r2]) (rest := []) cx hw hA (t_X5_endOf l G ad r2 μ26 gr29) shx_39 rfl ml_X10_292 im_X5_endOf se_X5_endOf in_X5 co_X5_endOf rfl hd_X5_endOf rfl ⟨(Nat.le_of_ble_eq_true rfl), (Nat.le_of_ble_eq_true rfl)⟩ hl.1 rfl (Nat.le_of_ble_eq_true rfl) dX10_endElse_145 ⟨rfl, rfl⟩ (fun H locs hw => ?_)
        refine lv_lstore (lv' := [(5, .long r29), (3, .long r19), (2, .int r4), (1, .int r2), (0, .ref (ad 137))]) hx hb dX10_endElse_148 hl (by decide) rfl (fun ls hl => ?_)
        refine lv_aload_n hx hb dX10_endElse_150 rfl (lv_at hl 4 rfl) ?_
        refine g_get cx hw inX10 (ci := 9) rfl 3 (by decide) rfl (v := .ref (ad 30)) shx_137 rfl fl_X10_21 dX10_endElse_151 ?_
        refine lv_lload hx hb dX10_endElse_154 (lv_at hl 0 rfl) ?_
        refine s_callI (As := [.long r29]) (rest := [.ref (ad 30)]) cx hw hA (t_X0_isKnown l G r29) ml_X10_215 st_X0_isKnown in_X0 co_X0_isKnown hd_X0_isKnown rfl ⟨(Nat.le_of_ble_eq_true rfl), (Nat.le_of_ble_eq_true rfl)⟩ hl.1 rfl (Nat.le_of_ble_eq_true rfl) dX10_endElse_156 rfl (fun H locs hw => ?_)
        refine lv_if_eq (tgt := 181) hx hb dX10_endElse_159 (by decide) (fun c30 => ?_) (fun c30 => ?_)
        · rw [if_pos c30] at h
          refine lv_lload_n hx hb dX10_endElse_181 rfl (lv_at hl 1 rfl) ?_
          obtain ⟨μ31, gμ31, h⟩ := bw_some h
          refine g_callVV (As := [.long r19]) (rest := []) cx hw hA (t_X8_push l G ad r19 μ28 gμ31) shx_30 rfl ml_X10_155 im_X8_push se_X8_push in_X8 co_X8_push rfl hd_X8_push rfl ⟨(Nat.le_of_ble_eq_true rfl), (Nat.le_of_ble_eq_true rfl)⟩ hl.1 rfl (Nat.le_of_ble_eq_true rfl) dX10_endElse_182 ⟨rfl, rfl⟩ (fun H locs hw => ?_)
          exact g_vret cx hr hlk hw h dX10_endElse_185
        · rw [if_neg c30] at h
          refine lv_lload hx hb dX10_endElse_162 (lv_at hl 0 rfl) ?_
          refine lv_aload_n hx hb dX10_endElse_164 rfl (lv_at hl 4 rfl) ?_
          refine g_get cx hw inX10 (ci := 9) rfl 4 (by decide) rfl (v := .ref (ad 39)) shx_137 rfl fl_X10_25 dX10_endElse_165 ?_
          refine lv_iload_n hx hb dX10_endElse_168 rfl (lv_at hl 2 rfl) ?_
          obtain ⟨r34, μ33, gr34, h⟩ := bd_some h
          refine g_callVL (As := [.int r4]) (rest := [.long r29, .ref (ad 30)]) cx hw hA (t_X5_endOf l G ad r4 μ28 gr34) shx_39 rfl ml_X10_292 im_X5_endOf se_X5_endOf in_X5 co_X5_endOf rfl hd_X5_endOf rfl ⟨(Nat.le_of_ble_eq_true rfl), (Nat.le_of_ble_eq_true rfl)⟩ hl.1 rfl (Nat.le_of_ble_eq_true rfl) dX10_endElse_169 ⟨rfl, rfl⟩ (fun H locs hw => ?_)
          refine W.lcmp hx hb dX10_endElse_172 ?_
          refine lv_if_ne (tgt := 181) hx hb dX10_endElse_173 (by decide) (fun c35 => ?_) (fun c35 => ?_)
          · rw [if_neg c35] at h
            refine lv_lload_n hx hb dX10_endElse_181 rfl (lv_at hl 1 rfl) ?_
            obtain ⟨μ36, gμ36, h⟩ := bw_some h
            refine g_callVV (As := [.long r19]) (rest := []) cx hw hA (t_X8_push l G ad r19 μ33 gμ36) shx_30 rfl ml_X10_155 im_X8_push se_X8_push in_X8 co_X8_push rfl hd_X8_push rfl ⟨(Nat.le_of_ble_eq_true rfl), (Nat.le_of_ble_eq_true rfl)⟩ hl.1 rfl (Nat.le_of_ble_eq_true rfl) dX10_endElse_182 ⟨rfl, rfl⟩ (fun H locs hw => ?_)
            exact g_vret cx hr hlk hw h dX10_endElse_185
          · rw [if_pos c35] at h
            refine lv_lload hx hb dX10_endElse_176 (lv_at hl 0 rfl) ?_
            refine lv_goto (tgt := 182) hx hb dX10_endElse_178 (by decide) ?_
            obtain ⟨μ38, gμ38, h⟩ := bw_some h
            refine g_callVV (As := [.long r29]) (rest := []) cx hw hA (t_X8_push l G ad r29 μ33 gμ38) shx_30 rfl ml_X10_155 im_X8_push se_X8_push in_X8 co_X8_push rfl hd_X8_push rfl ⟨(Nat.le_of_ble_eq_true rfl), (Nat.le_of_ble_eq_true rfl)⟩ hl.1 rfl (Nat.le_of_ble_eq_true rfl) dX10_endElse_182 ⟨rfl, rfl⟩ (fun H locs hw => ?_)
            exact g_vret cx hr hlk hw h dX10_endElse_185
      · rw [if_neg c23] at h
        exact g_vret cx hr hlk hw h dX10_endElse_103
    · rw [if_neg c8] at h
      refine lv_aload_n hx hb dX10_endElse_25 rfl (lv_at hl 2 rfl) ?_
      obtain ⟨μ40, gμ40, h⟩ := bw_some h
      refine g_callVV (As := []) (rest := []) cx hw hA (t_X10_closeBranch l G ad μ3 gμ40) shx_137 rfl ml_X10_283 im_X10_closeBranch se_X10_closeBranch in_X10 co_X10_closeBranch rfl hd_X10_closeBranch rfl ⟨(Nat.le_of_ble_eq_true rfl), (Nat.le_of_ble_eq_true rfl)⟩ hl.1 rfl (Nat.le_of_ble_eq_true rfl) dX10_endElse_26 ⟨rfl, rfl⟩ (fun H locs hw => ?_)
      exact g_vret cx hr hlk hw h dX10_endElse_29

theorem p_X8_fromTop_ex : ∃ f : Int32 → Mem → Option (Int64 × Mem), ∀ (a1 : Int32) (μ : Mem), f a1 μ = bv (((μ.1 30 7) - (1 : Int32)) - a1) (fun v1 => (if v1 < (0 : Int32) then some ((0 : Int64), μ) else (if (μ.1 30 7) ≤ v1 then some ((0 : Int64), μ) else gd (inb v1 2480) (some ((μ.2.1 36 v1.toNatClampNeg), μ))))) := ⟨fun (a1 : Int32) (μ : Mem) => bv (((μ.1 30 7) - (1 : Int32)) - a1) (fun v1 => (if v1 < (0 : Int32) then some ((0 : Int64), μ) else (if (μ.1 30 7) ≤ v1 then some ((0 : Int64), μ) else gd (inb v1 2480) (some ((μ.2.1 36 v1.toNatClampNeg), μ))))), fun _ _ => rfl⟩
noncomputable def p_X8_fromTop : Int32 → Mem → Option (Int64 × Mem) := Classical.choose p_X8_fromTop_ex
theorem p_X8_fromTop_eq (a1 : Int32) (μ : Mem) : p_X8_fromTop a1 μ = bv (((μ.1 30 7) - (1 : Int32)) - a1) (fun v1 => (if v1 < (0 : Int32) then some ((0 : Int64), μ) else (if (μ.1 30 7) ≤ v1 then some ((0 : Int64), μ) else gd (inb v1 2480) (some ((μ.2.1 36 v1.toNatClampNeg), μ))))) := Classical.choose_spec p_X8_fromTop_ex a1 μ
set_option maxHeartbeats 4000000 in
set_option maxRecDepth 100000 in
theorem t_X8_fromTop (l : Launch) (G : Gt) (ad : Nat → Nat) (a1 : Int32) (μ : Mem) {r : Int64} {μz : Mem} (h : p_X8_fromTop a1 μ = some (r, μz)) : Mt l yX8_fromTop cX8_fromTop 3 (some .long) ({ frames := 0, cells := 0, slots := 0, locals := 0 } : Room) G [.ref (ad 30), .int a1] (wd 0 G ad μ) (eL 0 G ad r μz) := by
  refine Bk.mt (by decide) rfl (Nat.le_of_ble_eq_true rfl) ?_
  intro p e s m below meth c A ls H locs cx hr hlk hA hl hw
  have hx := cx.1
  have hb := cx.2.1
  have hl : lv_has ls 3 [(0, .ref (ad 30)), (1, .int a1)] := hl
  rw [p_X8_fromTop_eq] at h
  refine lv_aload_n hx hb dX8_fromTop_0 rfl (lv_at hl 0 rfl) ?_
  refine g_get cx hw inX8 (ci := 7) rfl 7 (by decide) rfl (v := .int (μ.1 30 7)) shx_30 rfl fl_X8_45 dX8_fromTop_1 ?_
  refine lv_iconst (v := 1) hx hb dX8_fromTop_4 (by decide) ?_
  refine lv_isub hx hb dX8_fromTop_5 ?_
  refine lv_iload_n hx hb dX8_fromTop_6 rfl (lv_at hl 1 rfl) ?_
  refine lv_isub hx hb dX8_fromTop_7 ?_
  obtain ⟨v1, ev1, h⟩ := bv_ex h
  refine lv_topi (fun y9 z9 => ?_)
  obtain rfl : v1 = y9 := ev1.trans z9.symm
  refine lv_istore_n (lv' := [(2, .int v1), (0, .ref (ad 30)), (1, .int a1)]) hx hb dX8_fromTop_8 rfl hl (by decide) rfl (fun ls hl => ?_)
  refine lv_iload_n hx hb dX8_fromTop_9 rfl (lv_at hl 0 rfl) ?_
  refine lv_if_lt (tgt := 30) hx hb dX8_fromTop_10 (by decide) (fun c2 => ?_) (fun c2 => ?_)
  · rw [if_pos c2] at h
    refine lv_lconst (v := 0) hx hb dX8_fromTop_30 (by decide) ?_
    exact g_lret cx hr hlk hw h dX8_fromTop_31
  · rw [if_neg c2] at h
    refine lv_iload_n hx hb dX8_fromTop_13 rfl (lv_at hl 0 rfl) ?_
    refine lv_aload_n hx hb dX8_fromTop_14 rfl (lv_at hl 1 rfl) ?_
    refine g_get cx hw inX8 (ci := 7) rfl 7 (by decide) rfl (v := .int (μ.1 30 7)) shx_30 rfl fl_X8_45 dX8_fromTop_15 ?_
    refine lv_icmp_ge (tgt := 30) hx hb dX8_fromTop_18 (by decide) (fun c3 => ?_) (fun c3 => ?_)
    · rw [if_pos c3] at h
      refine lv_lconst (v := 0) hx hb dX8_fromTop_30 (by decide) ?_
      exact g_lret cx hr hlk hw h dX8_fromTop_31
    · rw [if_neg c3] at h
      refine lv_aload_n hx hb dX8_fromTop_21 rfl (lv_at hl 1 rfl) ?_
      refine g_get cx hw inX8 (ci := 7) rfl 6 (by decide) rfl (v := .ref (ad 36)) shx_30 rfl fl_X8_32 dX8_fromTop_22 ?_
      refine lv_iload_n hx hb dX8_fromTop_25 rfl (lv_at hl 0 rfl) ?_
      refine g_lald cx hw shx_36 h dX8_fromTop_26 (fun h => ?_)
      refine lv_goto (tgt := 31) hx hb dX8_fromTop_27 (by decide) ?_
      exact g_lret cx hr hlk hw h dX8_fromTop_31

theorem s_X0_stored_ex : ∃ f : Int32 → Int64 → Int64, ∀ (a0 : Int32) (a1 : Int64), f a0 a1 = (if (4 : Int32) ≤ a0 then (s_X0_make (1 : Int32) (s_X0_floatBits a1)) else (s_X0_make (0 : Int32) (s_X0_cut a1))) := ⟨fun (a0 : Int32) (a1 : Int64) => (if (4 : Int32) ≤ a0 then (s_X0_make (1 : Int32) (s_X0_floatBits a1)) else (s_X0_make (0 : Int32) (s_X0_cut a1))), fun _ _ => rfl⟩
noncomputable def s_X0_stored : Int32 → Int64 → Int64 := Classical.choose s_X0_stored_ex
theorem s_X0_stored_eq (a0 : Int32) (a1 : Int64) : s_X0_stored a0 a1 = (if (4 : Int32) ≤ a0 then (s_X0_make (1 : Int32) (s_X0_floatBits a1)) else (s_X0_make (0 : Int32) (s_X0_cut a1))) := Classical.choose_spec s_X0_stored_ex a0 a1
set_option maxHeartbeats 4000000 in
set_option maxRecDepth 100000 in
theorem t_X0_stored (l : Launch) (G : Gt) (a0 : Int32) (a1 : Int64) : Mt l yX0_stored cX0_stored 3 (some .long) ({ frames := 4, cells := 0, slots := 0, locals := 99 } : Room) G [.int a0, .long a1] [] (sJ G (s_X0_stored a0 a1)) := by
  obtain ⟨r, h⟩ : ∃ r, s_X0_stored a0 a1 = r := ⟨_, rfl⟩
  rw [h]
  refine Bk.mt (by decide) rfl (Nat.le_of_ble_eq_true rfl) ?_
  intro p e s m below meth c A ls H locs cx hr hlk hA hl hw
  have hx := cx.1
  have hb := cx.2.1
  have hl : lv_has ls 3 [(0, .int a0), (1, .long a1)] := hl
  rw [s_X0_stored_eq] at h
  refine lv_iload_n hx hb dX0_stored_0 rfl (lv_at hl 0 rfl) ?_
  refine lv_iconst (v := 4) hx hb dX0_stored_1 (by decide) ?_
  refine lv_icmp_ge (tgt := 16) hx hb dX0_stored_2 (by decide) (fun c1 => ?_) (fun c1 => ?_)
  · rw [if_pos c1] at h
    refine lv_iconst (v := 1) hx hb dX0_stored_16 (by decide) ?_
    refine lv_lload_n hx hb dX0_stored_17 rfl (lv_at hl 1 rfl) ?_
    refine s_callI (As := [.long a1]) (rest := [.int 1]) cx hw hA (t_X0_floatBits l G a1) ml_X0_33 st_X0_floatBits in_X0 co_X0_floatBits hd_X0_floatBits rfl ⟨(Nat.le_of_ble_eq_true rfl), (Nat.le_of_ble_eq_true rfl)⟩ hl.1 rfl (Nat.le_of_ble_eq_true rfl) dX0_stored_18 rfl (fun H locs hw => ?_)
    refine s_callL (As := [.int 1, .int (s_X0_floatBits a1)]) (rest := []) cx hw hA (t_X0_make l G (1 : Int32) (s_X0_floatBits a1)) ml_X0_19 st_X0_make in_X0 co_X0_make hd_X0_make rfl ⟨(Nat.le_of_ble_eq_true rfl), (Nat.le_of_ble_eq_true rfl)⟩ hl.1 rfl (Nat.le_of_ble_eq_true rfl) dX0_stored_21 rfl (fun H locs hw => ?_)
    exact s_lret cx hr hlk hw h dX0_stored_24
  · rw [if_neg c1] at h
    refine lv_iconst (v := 0) hx hb dX0_stored_5 (by decide) ?_
    refine lv_lload_n hx hb dX0_stored_6 rfl (lv_at hl 1 rfl) ?_
    refine s_callI (As := [.long a1]) (rest := [.int 0]) cx hw hA (t_X0_cut l G a1) ml_X0_11 st_X0_cut in_X0 co_X0_cut hd_X0_cut rfl ⟨(Nat.le_of_ble_eq_true rfl), (Nat.le_of_ble_eq_true rfl)⟩ hl.1 rfl (Nat.le_of_ble_eq_true rfl) dX0_stored_7 rfl (fun H locs hw => ?_)
    refine s_callL (As := [.int 0, .int (s_X0_cut a1)]) (rest := []) cx hw hA (t_X0_make l G (0 : Int32) (s_X0_cut a1)) ml_X0_19 st_X0_make in_X0 co_X0_make hd_X0_make rfl ⟨(Nat.le_of_ble_eq_true rfl), (Nat.le_of_ble_eq_true rfl)⟩ hl.1 rfl (Nat.le_of_ble_eq_true rfl) dX0_stored_10 rfl (fun H locs hw => ?_)
    refine lv_goto (tgt := 24) hx hb dX0_stored_13 (by decide) ?_
    exact s_lret cx hr hlk hw h dX0_stored_24

theorem p_X10_putAt_ex : ∃ f : Int32 → Mem → Option Mem, ∀ (a1 : Int32) (μ : Mem), f a1 μ = bd (p_X8_popNum μ) (fun r2 μ1 => bd (p_X10_leave (8 : Int32) a1 r2 (0 : Int64) μ1) (fun r4 μ3 => (if (s_X0_isKnown r2) = (0 : Int32) then bw (p_X8_push r4 μ3) (fun μ6 => some μ6) else bw (p_X8_push (s_X0_stored a1 r2) μ3) (fun μ8 => some μ8)))) := ⟨fun (a1 : Int32) (μ : Mem) => bd (p_X8_popNum μ) (fun r2 μ1 => bd (p_X10_leave (8 : Int32) a1 r2 (0 : Int64) μ1) (fun r4 μ3 => (if (s_X0_isKnown r2) = (0 : Int32) then bw (p_X8_push r4 μ3) (fun μ6 => some μ6) else bw (p_X8_push (s_X0_stored a1 r2) μ3) (fun μ8 => some μ8)))), fun _ _ => rfl⟩
noncomputable def p_X10_putAt : Int32 → Mem → Option Mem := Classical.choose p_X10_putAt_ex
theorem p_X10_putAt_eq (a1 : Int32) (μ : Mem) : p_X10_putAt a1 μ = bd (p_X8_popNum μ) (fun r2 μ1 => bd (p_X10_leave (8 : Int32) a1 r2 (0 : Int64) μ1) (fun r4 μ3 => (if (s_X0_isKnown r2) = (0 : Int32) then bw (p_X8_push r4 μ3) (fun μ6 => some μ6) else bw (p_X8_push (s_X0_stored a1 r2) μ3) (fun μ8 => some μ8)))) := Classical.choose_spec p_X10_putAt_ex a1 μ
set_option maxHeartbeats 4000000 in
set_option maxRecDepth 100000 in
theorem t_X10_putAt (l : Launch) (G : Gt) (ad : Nat → Nat) (a1 : Int32) (μ : Mem) {μz : Mem} (h : p_X10_putAt a1 μ = some μz) : Mt l yX10_putAt cX10_putAt 6 none ({ frames := 5, cells := 0, slots := 0, locals := 121 } : Room) G [.ref (ad 137), .int a1] (wd 0 G ad μ) (eV 0 G ad μz) := by
  refine Bk.mt (by decide) rfl (Nat.le_of_ble_eq_true rfl) ?_
  intro p e s m below meth c A ls H locs cx hr hlk hA hl hw
  have hx := cx.1
  have hb := cx.2.1
  have hl : lv_has ls 6 [(0, .ref (ad 137)), (1, .int a1)] := hl
  rw [p_X10_putAt_eq] at h
  refine lv_aload_n hx hb dX10_putAt_0 rfl (lv_at hl 0 rfl) ?_
  refine g_get cx hw inX10 (ci := 9) rfl 3 (by decide) rfl (v := .ref (ad 30)) shx_137 rfl fl_X10_21 dX10_putAt_1 ?_
  obtain ⟨r2, μ1, gr2, h⟩ := bd_some h
  refine g_callVL (As := []) (rest := []) cx hw hA (t_X8_popNum l G ad μ gr2) shx_30 rfl ml_X10_212 im_X8_popNum se_X8_popNum in_X8 co_X8_popNum rfl hd_X8_popNum rfl ⟨(Nat.le_of_ble_eq_true rfl), (Nat.le_of_ble_eq_true rfl)⟩ hl.1 rfl (Nat.le_of_ble_eq_true rfl) dX10_putAt_4 ⟨rfl, rfl⟩ (fun H locs hw => ?_)
  refine lv_lstore_n (lv' := [(2, .long r2), (0, .ref (ad 137)), (1, .int a1)]) hx hb dX10_putAt_7 rfl hl (by decide) rfl (fun ls hl => ?_)
  refine lv_aload_n hx hb dX10_putAt_8 rfl (lv_at hl 1 rfl) ?_
  refine lv_bipush (v := 8) hx hb dX10_putAt_9 (by decide) ?_
  refine lv_iload_n hx hb dX10_putAt_11 rfl (lv_at hl 2 rfl) ?_
  refine lv_lload_n hx hb dX10_putAt_12 rfl (lv_at hl 0 rfl) ?_
  refine lv_lconst (v := 0) hx hb dX10_putAt_13 (by decide) ?_
  obtain ⟨r4, μ3, gr4, h⟩ := bd_some h
  refine g_callVL (As := [.int 8, .int a1, .long r2, .long 0]) (rest := []) cx hw hA (t_X10_leave l G ad (8 : Int32) a1 r2 (0 : Int64) μ1 gr4) shx_137 rfl ml_X10_191 im_X10_leave se_X10_leave in_X10 co_X10_leave rfl hd_X10_leave rfl ⟨(Nat.le_of_ble_eq_true rfl), (Nat.le_of_ble_eq_true rfl)⟩ hl.1 rfl (Nat.le_of_ble_eq_true rfl) dX10_putAt_14 ⟨rfl, rfl⟩ (fun H locs hw => ?_)
  refine lv_lstore (lv' := [(4, .long r4), (2, .long r2), (0, .ref (ad 137)), (1, .int a1)]) hx hb dX10_putAt_17 hl (by decide) rfl (fun ls hl => ?_)
  refine lv_aload_n hx hb dX10_putAt_19 rfl (lv_at hl 2 rfl) ?_
  refine g_get cx hw inX10 (ci := 9) rfl 3 (by decide) rfl (v := .ref (ad 30)) shx_137 rfl fl_X10_21 dX10_putAt_20 ?_
  refine lv_lload_n hx hb dX10_putAt_23 rfl (lv_at hl 1 rfl) ?_
  refine s_callI (As := [.long r2]) (rest := [.ref (ad 30)]) cx hw hA (t_X0_isKnown l G r2) ml_X10_215 st_X0_isKnown in_X0 co_X0_isKnown hd_X0_isKnown rfl ⟨(Nat.le_of_ble_eq_true rfl), (Nat.le_of_ble_eq_true rfl)⟩ hl.1 rfl (Nat.le_of_ble_eq_true rfl) dX10_putAt_24 rfl (fun H locs hw => ?_)
  refine lv_if_eq (tgt := 38) hx hb dX10_putAt_27 (by decide) (fun c5 => ?_) (fun c5 => ?_)
  · rw [if_pos c5] at h
    refine lv_lload hx hb dX10_putAt_38 (lv_at hl 0 rfl) ?_
    obtain ⟨μ6, gμ6, h⟩ := bw_some h
    refine g_callVV (As := [.long r4]) (rest := []) cx hw hA (t_X8_push l G ad r4 μ3 gμ6) shx_30 rfl ml_X10_155 im_X8_push se_X8_push in_X8 co_X8_push rfl hd_X8_push rfl ⟨(Nat.le_of_ble_eq_true rfl), (Nat.le_of_ble_eq_true rfl)⟩ hl.1 rfl (Nat.le_of_ble_eq_true rfl) dX10_putAt_40 ⟨rfl, rfl⟩ (fun H locs hw => ?_)
    exact g_vret cx hr hlk hw h dX10_putAt_43
  · rw [if_neg c5] at h
    refine lv_iload_n hx hb dX10_putAt_30 rfl (lv_at hl 3 rfl) ?_
    refine lv_lload_n hx hb dX10_putAt_31 rfl (lv_at hl 1 rfl) ?_
    refine s_callL (As := [.int a1, .long r2]) (rest := [.ref (ad 30)]) cx hw hA (t_X0_stored l G a1 r2) ml_X10_219 st_X0_stored in_X0 co_X0_stored hd_X0_stored rfl ⟨(Nat.le_of_ble_eq_true rfl), (Nat.le_of_ble_eq_true rfl)⟩ hl.1 rfl (Nat.le_of_ble_eq_true rfl) dX10_putAt_32 rfl (fun H locs hw => ?_)
    refine lv_goto (tgt := 40) hx hb dX10_putAt_35 (by decide) ?_
    obtain ⟨μ8, gμ8, h⟩ := bw_some h
    refine g_callVV (As := [.long (s_X0_stored a1 r2)]) (rest := []) cx hw hA (t_X8_push l G ad (s_X0_stored a1 r2) μ3 gμ8) shx_30 rfl ml_X10_155 im_X8_push se_X8_push in_X8 co_X8_push rfl hd_X8_push rfl ⟨(Nat.le_of_ble_eq_true rfl), (Nat.le_of_ble_eq_true rfl)⟩ hl.1 rfl (Nat.le_of_ble_eq_true rfl) dX10_putAt_40 ⟨rfl, rfl⟩ (fun H locs hw => ?_)
    exact g_vret cx hr hlk hw h dX10_putAt_43

theorem p_X8_drop_ex : ∃ f : Int32 → Mem → Option Mem, ∀ (a1 : Int32) (μ : Mem), f a1 μ = bv (sF μ 30 7 (imax (0 : Int32) ((μ.1 30 7) - a1))) (fun μ1 => some μ1) := ⟨fun (a1 : Int32) (μ : Mem) => bv (sF μ 30 7 (imax (0 : Int32) ((μ.1 30 7) - a1))) (fun μ1 => some μ1), fun _ _ => rfl⟩
noncomputable def p_X8_drop : Int32 → Mem → Option Mem := Classical.choose p_X8_drop_ex
theorem p_X8_drop_eq (a1 : Int32) (μ : Mem) : p_X8_drop a1 μ = bv (sF μ 30 7 (imax (0 : Int32) ((μ.1 30 7) - a1))) (fun μ1 => some μ1) := Classical.choose_spec p_X8_drop_ex a1 μ
set_option maxHeartbeats 4000000 in
set_option maxRecDepth 100000 in
theorem t_X8_drop (l : Launch) (G : Gt) (ad : Nat → Nat) (a1 : Int32) (μ : Mem) {μz : Mem} (h : p_X8_drop a1 μ = some μz) : Mt l yX8_drop cX8_drop 2 none ({ frames := 1, cells := 0, slots := 0, locals := 24 } : Room) G [.ref (ad 30), .int a1] (wd 0 G ad μ) (eV 0 G ad μz) := by
  refine Bk.mt (by decide) rfl (Nat.le_of_ble_eq_true rfl) ?_
  intro p e s m below meth c A ls H locs cx hr hlk hA hl hw
  have hx := cx.1
  have hb := cx.2.1
  have hl : lv_has ls 2 [(0, .ref (ad 30)), (1, .int a1)] := hl
  rw [p_X8_drop_eq] at h
  refine lv_aload_n hx hb dX8_drop_0 rfl (lv_at hl 0 rfl) ?_
  refine lv_iconst (v := 0) hx hb dX8_drop_1 (by decide) ?_
  refine lv_aload_n hx hb dX8_drop_2 rfl (lv_at hl 0 rfl) ?_
  refine g_get cx hw inX8 (ci := 7) rfl 7 (by decide) rfl (v := .int (μ.1 30 7)) shx_30 rfl fl_X8_45 dX8_drop_3 ?_
  refine lv_iload_n hx hb dX8_drop_6 rfl (lv_at hl 1 rfl) ?_
  refine lv_isub hx hb dX8_drop_7 ?_
  refine r_mmax (v := (imax (0 : Int32) ((μ.1 30 7) - a1))) cx ml_X8_61 hl.1 (Nat.le_of_ble_eq_true rfl) (Nat.le_of_ble_eq_true rfl) (Nat.le_of_ble_eq_true rfl) (Nat.le_of_ble_eq_true rfl) rfl dX8_drop_8 ?_
  refine g_put cx hw inX8 (ci := 7) rfl tyX8_ok nmX8 7 (by decide) rfl rfl rfl rfl shx_30 h fl_X8_45 dX8_drop_11 (fun μ1 H locs h hw => ?_)
  exact g_vret cx hr hlk hw h dX8_drop_14

theorem p_X8_bindArguments_b4_ex : ∃ f : Nat → Int32 → Mem → Option Mem, (∀ (a2 : Int32) (μ : Mem), f  0 a2 μ = none) ∧ (∀ (n : Nat) (a2 : Int32) (μ : Mem), f  (n + 1) a2 μ = (if a2 < (0 : Int32) then some μ else bd (p_X8_pop μ) (fun r4 μ3 => bw (p_X8_setVar a2 r4 μ3) (fun μ5 => bv (a2 + (-1)) (fun v7 => f n v7 μ5))))) := ⟨fun n => Nat.rec (fun (a2 : Int32) (μ : Mem) => none) (fun _ ih => fun (a2 : Int32) (μ : Mem) => (if a2 < (0 : Int32) then some μ else bd (p_X8_pop μ) (fun r4 μ3 => bw (p_X8_setVar a2 r4 μ3) (fun μ5 => bv (a2 + (-1)) (fun v7 => ih v7 μ5))))) n, fun  _ _ => rfl, fun  _ _ _ => rfl⟩
noncomputable def p_X8_bindArguments_b4 : Nat → Int32 → Mem → Option Mem := Classical.choose p_X8_bindArguments_b4_ex
theorem p_X8_bindArguments_b4_z (a2 : Int32) (μ : Mem) : p_X8_bindArguments_b4  0 a2 μ = none := (Classical.choose_spec p_X8_bindArguments_b4_ex).1  a2 μ
theorem p_X8_bindArguments_b4_s (n : Nat) (a2 : Int32) (μ : Mem) : p_X8_bindArguments_b4  (n + 1) a2 μ = (if a2 < (0 : Int32) then some μ else bd (p_X8_pop μ) (fun r4 μ3 => bw (p_X8_setVar a2 r4 μ3) (fun μ5 => bv (a2 + (-1)) (fun v7 => p_X8_bindArguments_b4  n v7 μ5)))) := (Classical.choose_spec p_X8_bindArguments_b4_ex).2  n a2 μ
set_option maxHeartbeats 4000000 in
set_option maxRecDepth 100000 in
theorem t_X8_bindArguments_b4 (l : Launch) (G : Gt) (ad : Nat → Nat) (av : List Value) {μz : Mem} : ∀ (n : Nat) (a2 : Int32) (μ : Mem), p_X8_bindArguments_b4  n a2 μ = some μz → Bk l cX8_bindArguments 3 RX8 none ({ frames := 1, cells := 0, slots := 0, locals := 24 } : Room) G av (eV 0 G ad μz) (wd 0 G ad μ) 4 [(0, .ref (ad 30)), (2, .int a2)] [] := by
  intro n
  induction n with
  | zero => intro a2 μ h; rw [p_X8_bindArguments_b4_z] at h; cases h
  | succ n ih =>
    intro a2 μ h p e s m below meth c A ls H locs cx hr hlk hA hl hw
    have hx := cx.1
    have hb := cx.2.1
    rw [p_X8_bindArguments_b4_s] at h
    refine lv_iload_n hx hb dX8_bindArguments_4 rfl (lv_at hl 1 rfl) ?_
    refine lv_if_lt (tgt := 23) hx hb dX8_bindArguments_5 (by decide) (fun c2 => ?_) (fun c2 => ?_)
    · rw [if_pos c2] at h
      exact g_vret cx hr hlk hw h dX8_bindArguments_23
    · rw [if_neg c2] at h
      refine lv_aload_n hx hb dX8_bindArguments_8 rfl (lv_at hl 0 rfl) ?_
      refine lv_iload_n hx hb dX8_bindArguments_9 rfl (lv_at hl 1 rfl) ?_
      refine lv_aload_n hx hb dX8_bindArguments_10 rfl (lv_at hl 0 rfl) ?_
      obtain ⟨r4, μ3, gr4, h⟩ := bd_some h
      refine g_callVL (As := []) (rest := [.int a2, .ref (ad 30)]) cx hw hA (t_X8_pop l G ad μ gr4) shx_30 rfl ml_X8_53 im_X8_pop se_X8_pop in_X8 co_X8_pop rfl hd_X8_pop rfl ⟨(Nat.le_of_ble_eq_true rfl), (Nat.le_of_ble_eq_true rfl)⟩ hl.1 rfl (Nat.le_of_ble_eq_true rfl) dX8_bindArguments_11 ⟨rfl, rfl⟩ (fun H locs hw => ?_)
      obtain ⟨μ5, gμ5, h⟩ := bw_some h
      refine g_callVV (As := [.int a2, .long r4]) (rest := []) cx hw hA (t_X8_setVar l G ad a2 r4 μ3 gμ5) shx_30 rfl ml_X8_67 im_X8_setVar se_X8_setVar in_X8 co_X8_setVar rfl hd_X8_setVar rfl ⟨(Nat.le_of_ble_eq_true rfl), (Nat.le_of_ble_eq_true rfl)⟩ hl.1 rfl (Nat.le_of_ble_eq_true rfl) dX8_bindArguments_14 ⟨rfl, rfl⟩ (fun H locs hw => ?_)
      obtain ⟨v7, ev7, h⟩ := bv_ex h
      refine lv_iinc (v := v7) (lv' := [(2, .int v7), (0, .ref (ad 30))]) hx hb dX8_bindArguments_17 hl (k := 1) rfl (by rw [ev7]; rfl) (by decide) rfl (fun ls hl => ?_)
      refine lv_goto (tgt := 4) hx hb dX8_bindArguments_20 (by decide) ?_
      exact ih v7 μ5 h p e s m below meth c A ls H locs cx hr hlk hA (lv_sub hl [1, 0] rfl) hw
theorem p_X8_bindArguments_ex : ∃ f : Int32 → Mem → Option Mem, ∀ (a1 : Int32) (μ : Mem), f a1 μ = bv (a1 - (1 : Int32)) (fun v1 => p_X8_bindArguments_b4  FUEL v1 μ) := ⟨fun (a1 : Int32) (μ : Mem) => bv (a1 - (1 : Int32)) (fun v1 => p_X8_bindArguments_b4  FUEL v1 μ), fun _ _ => rfl⟩
noncomputable def p_X8_bindArguments : Int32 → Mem → Option Mem := Classical.choose p_X8_bindArguments_ex
theorem p_X8_bindArguments_eq (a1 : Int32) (μ : Mem) : p_X8_bindArguments a1 μ = bv (a1 - (1 : Int32)) (fun v1 => p_X8_bindArguments_b4  FUEL v1 μ) := Classical.choose_spec p_X8_bindArguments_ex a1 μ
set_option maxHeartbeats 4000000 in
set_option maxRecDepth 100000 in
theorem t_X8_bindArguments (l : Launch) (G : Gt) (ad : Nat → Nat) (a1 : Int32) (μ : Mem) {μz : Mem} (h : p_X8_bindArguments a1 μ = some μz) : Mt l yX8_bindArguments cX8_bindArguments 3 none ({ frames := 1, cells := 0, slots := 0, locals := 24 } : Room) G [.ref (ad 30), .int a1] (wd 0 G ad μ) (eV 0 G ad μz) := by
  refine Bk.mt (by decide) rfl (Nat.le_of_ble_eq_true rfl) ?_
  intro p e s m below meth c A ls H locs cx hr hlk hA hl hw
  have hx := cx.1
  have hb := cx.2.1
  have hl : lv_has ls 3 [(0, .ref (ad 30)), (1, .int a1)] := hl
  rw [p_X8_bindArguments_eq] at h
  refine lv_iload_n hx hb dX8_bindArguments_0 rfl (lv_at hl 1 rfl) ?_
  refine lv_iconst (v := 1) hx hb dX8_bindArguments_1 (by decide) ?_
  refine lv_isub hx hb dX8_bindArguments_2 ?_
  obtain ⟨v1, ev1, h⟩ := bv_ex h
  refine lv_topi (fun y9 z9 => ?_)
  obtain rfl : v1 = y9 := ev1.trans z9.symm
  refine lv_istore_n (lv' := [(2, .int v1), (0, .ref (ad 30)), (1, .int a1)]) hx hb dX8_bindArguments_3 rfl hl (by decide) rfl (fun ls hl => ?_)
  exact t_X8_bindArguments_b4 l G ad _  FUEL v1 μ h p e s m below meth c A ls H locs cx hr hlk hA (lv_sub hl [1, 0] rfl) hw

theorem p_X8_openFrame_ex : ∃ f : Int32 → Int32 → Mem → Option Mem, ∀ (a1 : Int32) (a2 : Int32) (μ : Mem), f a1 a2 μ = (if ((μ.1 30 10) + (1 : Int32)) < (31 : Int32) then bv (sF μ 30 10 ((μ.1 30 10) + (1 : Int32))) (fun μ2 => gd (inb (μ2.1 30 10) 31) (bv (sF μ2 38 (μ2.1 30 10).toNatClampNeg a2) (fun μ3 => bw (p_X8_bindArguments a1 μ3) (fun μ4 => some μ4)))) else some μ) := ⟨fun (a1 : Int32) (a2 : Int32) (μ : Mem) => (if ((μ.1 30 10) + (1 : Int32)) < (31 : Int32) then bv (sF μ 30 10 ((μ.1 30 10) + (1 : Int32))) (fun μ2 => gd (inb (μ2.1 30 10) 31) (bv (sF μ2 38 (μ2.1 30 10).toNatClampNeg a2) (fun μ3 => bw (p_X8_bindArguments a1 μ3) (fun μ4 => some μ4)))) else some μ), fun _ _ _ => rfl⟩
noncomputable def p_X8_openFrame : Int32 → Int32 → Mem → Option Mem := Classical.choose p_X8_openFrame_ex
theorem p_X8_openFrame_eq (a1 : Int32) (a2 : Int32) (μ : Mem) : p_X8_openFrame a1 a2 μ = (if ((μ.1 30 10) + (1 : Int32)) < (31 : Int32) then bv (sF μ 30 10 ((μ.1 30 10) + (1 : Int32))) (fun μ2 => gd (inb (μ2.1 30 10) 31) (bv (sF μ2 38 (μ2.1 30 10).toNatClampNeg a2) (fun μ3 => bw (p_X8_bindArguments a1 μ3) (fun μ4 => some μ4)))) else some μ) := Classical.choose_spec p_X8_openFrame_ex a1 a2 μ
set_option maxHeartbeats 4000000 in
set_option maxRecDepth 100000 in
theorem t_X8_openFrame (l : Launch) (G : Gt) (ad : Nat → Nat) (a1 : Int32) (a2 : Int32) (μ : Mem) {μz : Mem} (h : p_X8_openFrame a1 a2 μ = some μz) : Mt l yX8_openFrame cX8_openFrame 3 none ({ frames := 2, cells := 0, slots := 0, locals := 46 } : Room) G [.ref (ad 30), .int a1, .int a2] (wd 0 G ad μ) (eV 0 G ad μz) := by
  refine Bk.mt (by decide) rfl (Nat.le_of_ble_eq_true rfl) ?_
  intro p e s m below meth c A ls H locs cx hr hlk hA hl hw
  have hx := cx.1
  have hb := cx.2.1
  have hl : lv_has ls 3 [(0, .ref (ad 30)), (1, .int a1), (2, .int a2)] := hl
  rw [p_X8_openFrame_eq] at h
  refine lv_aload_n hx hb dX8_openFrame_0 rfl (lv_at hl 0 rfl) ?_
  refine g_get cx hw inX8 (ci := 7) rfl 10 (by decide) rfl (v := .int (μ.1 30 10)) shx_30 rfl fl_X8_48 dX8_openFrame_1 ?_
  refine lv_iconst (v := 1) hx hb dX8_openFrame_4 (by decide) ?_
  refine lv_iadd hx hb dX8_openFrame_5 ?_
  refine lv_bipush (v := 31) hx hb dX8_openFrame_6 (by decide) ?_
  refine lv_icmp_lt (tgt := 12) hx hb dX8_openFrame_8 (by decide) (fun c1 => ?_) (fun c1 => ?_)
  · rw [if_pos c1] at h
    refine lv_aload_n hx hb dX8_openFrame_12 rfl (lv_at hl 0 rfl) ?_
    refine lv_dup hx hb dX8_openFrame_13 rfl ?_
    refine g_get cx hw inX8 (ci := 7) rfl 10 (by decide) rfl (v := .int (μ.1 30 10)) shx_30 rfl fl_X8_48 dX8_openFrame_14 ?_
    refine lv_iconst (v := 1) hx hb dX8_openFrame_17 (by decide) ?_
    refine lv_iadd hx hb dX8_openFrame_18 ?_
    refine g_put cx hw inX8 (ci := 7) rfl tyX8_ok nmX8 10 (by decide) rfl rfl rfl rfl shx_30 h fl_X8_48 dX8_openFrame_19 (fun μ2 H locs h hw => ?_)
    refine lv_aload_n hx hb dX8_openFrame_22 rfl (lv_at hl 0 rfl) ?_
    refine g_get cx hw inX8 (ci := 7) rfl 9 (by decide) rfl (v := .ref (ad 38)) shx_30 rfl fl_X8_38 dX8_openFrame_23 ?_
    refine lv_aload_n hx hb dX8_openFrame_26 rfl (lv_at hl 0 rfl) ?_
    refine g_get cx hw inX8 (ci := 7) rfl 10 (by decide) rfl (v := .int (μ2.1 30 10)) shx_30 rfl fl_X8_48 dX8_openFrame_27 ?_
    refine lv_iload_n hx hb dX8_openFrame_30 rfl (lv_at hl 2 rfl) ?_
    refine g_iast cx hw shx_38 h dX8_openFrame_31 (fun μ3 H locs h hw => ?_)
    refine lv_aload_n hx hb dX8_openFrame_32 rfl (lv_at hl 0 rfl) ?_
    refine lv_iload_n hx hb dX8_openFrame_33 rfl (lv_at hl 1 rfl) ?_
    obtain ⟨μ4, gμ4, h⟩ := bw_some h
    refine g_callVV (As := [.int a1]) (rest := []) cx hw hA (t_X8_bindArguments l G ad a1 μ3 gμ4) shx_30 rfl ml_X8_71 im_X8_bindArguments se_X8_bindArguments in_X8 co_X8_bindArguments rfl hd_X8_bindArguments rfl ⟨(Nat.le_of_ble_eq_true rfl), (Nat.le_of_ble_eq_true rfl)⟩ hl.1 rfl (Nat.le_of_ble_eq_true rfl) dX8_openFrame_34 ⟨rfl, rfl⟩ (fun H locs hw => ?_)
    exact g_vret cx hr hlk hw h dX8_openFrame_37
  · rw [if_neg c1] at h
    exact g_vret cx hr hlk hw h dX8_openFrame_11

theorem p_X10_workCall_ex : ∃ f : Int32 → Int32 → Mem → Option (Int32 × Mem), ∀ (a1 : Int32) (a2 : Int32) (μ : Mem), f a1 a2 μ = bd (p_X3_startOf (sel 2 (μ.2.2 137 5)) a1 μ) (fun r2 μ1 => (if r2 = (-1 : Int32) then bw (p_X8_drop a2 μ1) (fun μ13 => bd (p_X10_leave (12 : Int32) (0 : Int32) (0 : Int64) (0 : Int64) μ13) (fun r16 μ15 => bw (p_X8_push r16 μ15) (fun μ17 => some ((1 : Int32), μ17)))) else (if (0 : Int32) < (μ1.1 137 13) then some ((0 : Int32), μ1) else (if (μ1.1 30 10) < (μ1.1 137 0) then (if (μ1.1 39 3) < (200 : Int32) then bv (sF μ1 39 3 ((μ1.1 39 3) + (1 : Int32))) (fun μ7 => bw (p_X8_openFrame a2 (μ7.1 137 9) μ7) (fun μ8 => bv (sF μ8 137 9 r2) (fun μ10 => some ((1 : Int32), μ10)))) else bw (p_X10_breakOff (-3 : Int32) μ1) (fun μ11 => some ((1 : Int32), μ11))) else some ((0 : Int32), μ1))))) := ⟨fun (a1 : Int32) (a2 : Int32) (μ : Mem) => bd (p_X3_startOf (sel 2 (μ.2.2 137 5)) a1 μ) (fun r2 μ1 => (if r2 = (-1 : Int32) then bw (p_X8_drop a2 μ1) (fun μ13 => bd (p_X10_leave (12 : Int32) (0 : Int32) (0 : Int64) (0 : Int64) μ13) (fun r16 μ15 => bw (p_X8_push r16 μ15) (fun μ17 => some ((1 : Int32), μ17)))) else (if (0 : Int32) < (μ1.1 137 13) then some ((0 : Int32), μ1) else (if (μ1.1 30 10) < (μ1.1 137 0) then (if (μ1.1 39 3) < (200 : Int32) then bv (sF μ1 39 3 ((μ1.1 39 3) + (1 : Int32))) (fun μ7 => bw (p_X8_openFrame a2 (μ7.1 137 9) μ7) (fun μ8 => bv (sF μ8 137 9 r2) (fun μ10 => some ((1 : Int32), μ10)))) else bw (p_X10_breakOff (-3 : Int32) μ1) (fun μ11 => some ((1 : Int32), μ11))) else some ((0 : Int32), μ1))))), fun _ _ _ => rfl⟩
noncomputable def p_X10_workCall : Int32 → Int32 → Mem → Option (Int32 × Mem) := Classical.choose p_X10_workCall_ex
theorem p_X10_workCall_eq (a1 : Int32) (a2 : Int32) (μ : Mem) : p_X10_workCall a1 a2 μ = bd (p_X3_startOf (sel 2 (μ.2.2 137 5)) a1 μ) (fun r2 μ1 => (if r2 = (-1 : Int32) then bw (p_X8_drop a2 μ1) (fun μ13 => bd (p_X10_leave (12 : Int32) (0 : Int32) (0 : Int64) (0 : Int64) μ13) (fun r16 μ15 => bw (p_X8_push r16 μ15) (fun μ17 => some ((1 : Int32), μ17)))) else (if (0 : Int32) < (μ1.1 137 13) then some ((0 : Int32), μ1) else (if (μ1.1 30 10) < (μ1.1 137 0) then (if (μ1.1 39 3) < (200 : Int32) then bv (sF μ1 39 3 ((μ1.1 39 3) + (1 : Int32))) (fun μ7 => bw (p_X8_openFrame a2 (μ7.1 137 9) μ7) (fun μ8 => bv (sF μ8 137 9 r2) (fun μ10 => some ((1 : Int32), μ10)))) else bw (p_X10_breakOff (-3 : Int32) μ1) (fun μ11 => some ((1 : Int32), μ11))) else some ((0 : Int32), μ1))))) := Classical.choose_spec p_X10_workCall_ex a1 a2 μ
set_option maxHeartbeats 4000000 in
set_option maxRecDepth 100000 in
theorem t_X10_workCall (l : Launch) (G : Gt) (ad : Nat → Nat) (a1 : Int32) (a2 : Int32) (μ : Mem) {r : Int32} {μz : Mem} (h : p_X10_workCall a1 a2 μ = some (r, μz)) : Mt l yX10_workCall cX10_workCall 4 (some .boolean) ({ frames := 3, cells := 0, slots := 0, locals := 68 } : Room) G [.ref (ad 137), .int a1, .int a2] (wd 0 G ad μ) (eI 0 G ad r μz) := by
  refine Bk.mt (by decide) rfl (Nat.le_of_ble_eq_true rfl) ?_
  intro p e s m below meth c A ls H locs cx hr hlk hA hl hw
  have hx := cx.1
  have hb := cx.2.1
  have hl : lv_has ls 4 [(0, .ref (ad 137)), (1, .int a1), (2, .int a2)] := hl
  rw [p_X10_workCall_eq] at h
  refine lv_aload_n hx hb dX10_workCall_0 rfl (lv_at hl 0 rfl) ?_
  refine g_get cx hw inX10 (ci := 9) rfl 5 (by decide) rfl (v := .ref (ad (sel 2 (μ.2.2 137 5)))) shx_137 rfl fl_X10_29 dX10_workCall_1 ?_
  refine lv_iload_n hx hb dX10_workCall_4 rfl (lv_at hl 1 rfl) ?_
  obtain ⟨r2, μ1, gr2, h⟩ := bd_some h
  refine g_callVI (As := [.int a1]) (rest := []) cx hw hA (t_X3_startOf l G ad (sel 2 (μ.2.2 137 5)) (sel_2 _) a1 μ gr2) (sel_2 _) rfl ml_X10_79 im_X3_startOf se_X3_startOf in_X3 co_X3_startOf rfl hd_X3_startOf rfl ⟨(Nat.le_of_ble_eq_true rfl), (Nat.le_of_ble_eq_true rfl)⟩ hl.1 rfl (Nat.le_of_ble_eq_true rfl) dX10_workCall_5 ⟨rfl, rfl⟩ (fun H locs hw => ?_)
  refine lv_istore_n (lv' := [(3, .int r2), (0, .ref (ad 137)), (1, .int a1), (2, .int a2)]) hx hb dX10_workCall_8 rfl hl (by decide) rfl (fun ls hl => ?_)
  refine lv_iload_n hx hb dX10_workCall_9 rfl (lv_at hl 0 rfl) ?_
  refine lv_iconst (v := (-1)) hx hb dX10_workCall_10 (by decide) ?_
  refine lv_icmp_ne (tgt := 40) hx hb dX10_workCall_11 (by decide) (fun c3 => ?_) (fun c3 => ?_)
  · rw [if_neg c3] at h
    refine lv_aload_n hx hb dX10_workCall_40 rfl (lv_at hl 1 rfl) ?_
    refine g_get cx hw inX10 (ci := 9) rfl 13 (by decide) rfl (v := .int (μ1.1 137 13)) shx_137 rfl fl_X10_121 dX10_workCall_41 ?_
    refine lv_if_gt (tgt := 61) hx hb dX10_workCall_44 (by decide) (fun c4 => ?_) (fun c4 => ?_)
    · rw [if_pos c4] at h
      refine lv_iconst (v := 0) hx hb dX10_workCall_61 (by decide) ?_
      exact g_zret cx hr hlk rfl hw h dX10_workCall_62
    · rw [if_neg c4] at h
      refine lv_aload_n hx hb dX10_workCall_47 rfl (lv_at hl 1 rfl) ?_
      refine g_get cx hw inX10 (ci := 9) rfl 3 (by decide) rfl (v := .ref (ad 30)) shx_137 rfl fl_X10_21 dX10_workCall_48 ?_
      refine g_get cx hw inX8 (ci := 7) rfl 10 (by decide) rfl (v := .int (μ1.1 30 10)) shx_30 rfl fl_X10_298 dX10_workCall_51 ?_
      refine lv_aload_n hx hb dX10_workCall_54 rfl (lv_at hl 1 rfl) ?_
      refine g_get cx hw inX10 (ci := 9) rfl 0 (by decide) rfl (v := .int (μ1.1 137 0)) shx_137 rfl fl_X10_11 dX10_workCall_55 ?_
      refine lv_icmp_lt (tgt := 63) hx hb dX10_workCall_58 (by decide) (fun c5 => ?_) (fun c5 => ?_)
      · rw [if_pos c5] at h
        refine lv_aload_n hx hb dX10_workCall_63 rfl (lv_at hl 1 rfl) ?_
        refine g_get cx hw inX10 (ci := 9) rfl 4 (by decide) rfl (v := .ref (ad 39)) shx_137 rfl fl_X10_25 dX10_workCall_64 ?_
        refine g_get cx hw inX5 (ci := 4) rfl 3 (by decide) rfl (v := .int (μ1.1 39 3)) shx_39 rfl fl_X10_301 dX10_workCall_67 ?_
        refine lv_sipush (v := 200) hx hb dX10_workCall_70 (by decide) ?_
        refine lv_icmp_lt (tgt := 84) hx hb dX10_workCall_73 (by decide) (fun c6 => ?_) (fun c6 => ?_)
        · rw [if_pos c6] at h
          refine lv_aload_n hx hb dX10_workCall_84 rfl (lv_at hl 1 rfl) ?_
          refine g_get cx hw inX10 (ci := 9) rfl 4 (by decide) rfl (v := .ref (ad 39)) shx_137 rfl fl_X10_25 dX10_workCall_85 ?_
          refine lv_dup hx hb dX10_workCall_88 rfl ?_
          refine g_get cx hw inX5 (ci := 4) rfl 3 (by decide) rfl (v := .int (μ1.1 39 3)) shx_39 rfl fl_X10_301 dX10_workCall_89 ?_
          refine lv_iconst (v := 1) hx hb dX10_workCall_92 (by decide) ?_
          refine lv_iadd hx hb dX10_workCall_93 ?_
          refine g_put cx hw inX5 (ci := 4) rfl tyX5_ok nmX5 3 (by decide) rfl rfl rfl rfl shx_39 h fl_X10_301 dX10_workCall_94 (fun μ7 H locs h hw => ?_)
          refine lv_aload_n hx hb dX10_workCall_97 rfl (lv_at hl 1 rfl) ?_
          refine g_get cx hw inX10 (ci := 9) rfl 3 (by decide) rfl (v := .ref (ad 30)) shx_137 rfl fl_X10_21 dX10_workCall_98 ?_
          refine lv_iload_n hx hb dX10_workCall_101 rfl (lv_at hl 3 rfl) ?_
          refine lv_aload_n hx hb dX10_workCall_102 rfl (lv_at hl 1 rfl) ?_
          refine g_get cx hw inX10 (ci := 9) rfl 9 (by decide) rfl (v := .int (μ7.1 137 9)) shx_137 rfl fl_X10_73 dX10_workCall_103 ?_
          obtain ⟨μ8, gμ8, h⟩ := bw_some h
          refine g_callVV (As := [.int a2, .int (μ7.1 137 9)]) (rest := []) cx hw hA (t_X8_openFrame l G ad a2 (μ7.1 137 9) μ7 gμ8) shx_30 rfl ml_X10_304 im_X8_openFrame se_X8_openFrame in_X8 co_X8_openFrame rfl hd_X8_openFrame rfl ⟨(Nat.le_of_ble_eq_true rfl), (Nat.le_of_ble_eq_true rfl)⟩ hl.1 rfl (Nat.le_of_ble_eq_true rfl) dX10_workCall_106 ⟨rfl, rfl⟩ (fun H locs hw => ?_)
          refine lv_aload_n hx hb dX10_workCall_109 rfl (lv_at hl 1 rfl) ?_
          refine lv_iload_n hx hb dX10_workCall_110 rfl (lv_at hl 0 rfl) ?_
          refine g_put cx hw inX10 (ci := 9) rfl tyX10_ok nmX10 9 (by decide) rfl rfl rfl rfl shx_137 h fl_X10_73 dX10_workCall_111 (fun μ10 H locs h hw => ?_)
          refine lv_iconst (v := 1) hx hb dX10_workCall_114 (by decide) ?_
          exact g_zret cx hr hlk rfl hw h dX10_workCall_115
        · rw [if_neg c6] at h
          refine lv_aload_n hx hb dX10_workCall_76 rfl (lv_at hl 1 rfl) ?_
          refine lv_bipush (v := (-3)) hx hb dX10_workCall_77 (by decide) ?_
          obtain ⟨μ11, gμ11, h⟩ := bw_some h
          refine g_callVV (As := [.int (-3)]) (rest := []) cx hw hA (t_X10_breakOff l G ad (-3 : Int32) μ1 gμ11) shx_137 rfl ml_X10_227 im_X10_breakOff se_X10_breakOff in_X10 co_X10_breakOff rfl hd_X10_breakOff rfl ⟨(Nat.le_of_ble_eq_true rfl), (Nat.le_of_ble_eq_true rfl)⟩ hl.1 rfl (Nat.le_of_ble_eq_true rfl) dX10_workCall_79 ⟨rfl, rfl⟩ (fun H locs hw => ?_)
          refine lv_iconst (v := 1) hx hb dX10_workCall_82 (by decide) ?_
          exact g_zret cx hr hlk rfl hw h dX10_workCall_83
      · rw [if_neg c5] at h
        refine lv_iconst (v := 0) hx hb dX10_workCall_61 (by decide) ?_
        exact g_zret cx hr hlk rfl hw h dX10_workCall_62
  · rw [if_pos c3] at h
    refine lv_aload_n hx hb dX10_workCall_14 rfl (lv_at hl 1 rfl) ?_
    refine g_get cx hw inX10 (ci := 9) rfl 3 (by decide) rfl (v := .ref (ad 30)) shx_137 rfl fl_X10_21 dX10_workCall_15 ?_
    refine lv_iload_n hx hb dX10_workCall_18 rfl (lv_at hl 3 rfl) ?_
    obtain ⟨μ13, gμ13, h⟩ := bw_some h
    refine g_callVV (As := [.int a2]) (rest := []) cx hw hA (t_X8_drop l G ad a2 μ1 gμ13) shx_30 rfl ml_X10_295 im_X8_drop se_X8_drop in_X8 co_X8_drop rfl hd_X8_drop rfl ⟨(Nat.le_of_ble_eq_true rfl), (Nat.le_of_ble_eq_true rfl)⟩ hl.1 rfl (Nat.le_of_ble_eq_true rfl) dX10_workCall_19 ⟨rfl, rfl⟩ (fun H locs hw => ?_)
    refine lv_aload_n hx hb dX10_workCall_22 rfl (lv_at hl 1 rfl) ?_
    refine g_get cx hw inX10 (ci := 9) rfl 3 (by decide) rfl (v := .ref (ad 30)) shx_137 rfl fl_X10_21 dX10_workCall_23 ?_
    refine lv_aload_n hx hb dX10_workCall_26 rfl (lv_at hl 1 rfl) ?_
    refine lv_bipush (v := 12) hx hb dX10_workCall_27 (by decide) ?_
    refine lv_iconst (v := 0) hx hb dX10_workCall_29 (by decide) ?_
    refine lv_lconst (v := 0) hx hb dX10_workCall_30 (by decide) ?_
    refine lv_lconst (v := 0) hx hb dX10_workCall_31 (by decide) ?_
    obtain ⟨r16, μ15, gr16, h⟩ := bd_some h
    refine g_callVL (As := [.int 12, .int 0, .long 0, .long 0]) (rest := [.ref (ad 30)]) cx hw hA (t_X10_leave l G ad (12 : Int32) (0 : Int32) (0 : Int64) (0 : Int64) μ13 gr16) shx_137 rfl ml_X10_191 im_X10_leave se_X10_leave in_X10 co_X10_leave rfl hd_X10_leave rfl ⟨(Nat.le_of_ble_eq_true rfl), (Nat.le_of_ble_eq_true rfl)⟩ hl.1 rfl (Nat.le_of_ble_eq_true rfl) dX10_workCall_32 ⟨rfl, rfl⟩ (fun H locs hw => ?_)
    obtain ⟨μ17, gμ17, h⟩ := bw_some h
    refine g_callVV (As := [.long r16]) (rest := []) cx hw hA (t_X8_push l G ad r16 μ15 gμ17) shx_30 rfl ml_X10_155 im_X8_push se_X8_push in_X8 co_X8_push rfl hd_X8_push rfl ⟨(Nat.le_of_ble_eq_true rfl), (Nat.le_of_ble_eq_true rfl)⟩ hl.1 rfl (Nat.le_of_ble_eq_true rfl) dX10_workCall_35 ⟨rfl, rfl⟩ (fun H locs hw => ?_)
    refine lv_iconst (v := 1) hx hb dX10_workCall_38 (by decide) ?_
    exact g_zret cx hr hlk rfl hw h dX10_workCall_39
