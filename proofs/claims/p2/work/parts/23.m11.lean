theorem p_X6_call_b53_ex : ∃ f : Nat → Int32 → Int32 → Int32 → Int32 → Int32 → Mem → Option Mem, (∀ (a1 : Int32) (a2 : Int32) (a4 : Int32) (a5 : Int32) (a6 : Int32) (μ : Mem), f  0 a1 a2 a4 a5 a6 μ = none) ∧ (∀ (n : Nat) (a1 : Int32) (a2 : Int32) (a4 : Int32) (a5 : Int32) (a6 : Int32) (μ : Mem), f  (n + 1) a1 a2 a4 a5 a6 μ = (if a5 ≤ a6 then bv (sF μ 151 6 a4) (fun μ12 => bd (p_X5_ofVariant a2 (3 : Int32) μ12) (fun r14 μ13 => bw (p_X6_enter r14 μ13) (fun μ15 => some μ15))) else bd (p_X6_operand a1 ((2 : Int32) + a6) μ) (fun r18 μ17 => bw (p_X6_setRegister a4 a6 r18 μ17) (fun μ19 => bv (a6 + 1) (fun v21 => f n a1 a2 a4 a5 v21 μ19))))) := ⟨fun n => Nat.rec (fun (a1 : Int32) (a2 : Int32) (a4 : Int32) (a5 : Int32) (a6 : Int32) (μ : Mem) => none) (fun _ ih => fun (a1 : Int32) (a2 : Int32) (a4 : Int32) (a5 : Int32) (a6 : Int32) (μ : Mem) => (if a5 ≤ a6 then bv (sF μ 151 6 a4) (fun μ12 => bd (p_X5_ofVariant a2 (3 : Int32) μ12) (fun r14 μ13 => bw (p_X6_enter r14 μ13) (fun μ15 => some μ15))) else bd (p_X6_operand a1 ((2 : Int32) + a6) μ) (fun r18 μ17 => bw (p_X6_setRegister a4 a6 r18 μ17) (fun μ19 => bv (a6 + 1) (fun v21 => ih a1 a2 a4 a5 v21 μ19))))) n, fun  _ _ _ _ _ _ => rfl, fun  _ _ _ _ _ _ _ => rfl⟩
noncomputable def p_X6_call_b53 : Nat → Int32 → Int32 → Int32 → Int32 → Int32 → Mem → Option Mem := Classical.choose p_X6_call_b53_ex
theorem p_X6_call_b53_z (a1 : Int32) (a2 : Int32) (a4 : Int32) (a5 : Int32) (a6 : Int32) (μ : Mem) : p_X6_call_b53  0 a1 a2 a4 a5 a6 μ = none := (Classical.choose_spec p_X6_call_b53_ex).1  a1 a2 a4 a5 a6 μ
theorem p_X6_call_b53_s (n : Nat) (a1 : Int32) (a2 : Int32) (a4 : Int32) (a5 : Int32) (a6 : Int32) (μ : Mem) : p_X6_call_b53  (n + 1) a1 a2 a4 a5 a6 μ = (if a5 ≤ a6 then bv (sF μ 151 6 a4) (fun μ12 => bd (p_X5_ofVariant a2 (3 : Int32) μ12) (fun r14 μ13 => bw (p_X6_enter r14 μ13) (fun μ15 => some μ15))) else bd (p_X6_operand a1 ((2 : Int32) + a6) μ) (fun r18 μ17 => bw (p_X6_setRegister a4 a6 r18 μ17) (fun μ19 => bv (a6 + 1) (fun v21 => p_X6_call_b53  n a1 a2 a4 a5 v21 μ19)))) := (Classical.choose_spec p_X6_call_b53_ex).2  n a1 a2 a4 a5 a6 μ
set_option maxHeartbeats 4000000 in
set_option maxRecDepth 100000 in
theorem t_X6_call_b53 (l : Launch) (G : Gt) (ad : Nat → Nat) (av : List Value) {μz : Mem} : ∀ (n : Nat) (a1 : Int32) (a2 : Int32) (a4 : Int32) (a5 : Int32) (a6 : Int32) (μ : Mem), p_X6_call_b53  n a1 a2 a4 a5 a6 μ = some μz → Bk l cX6_call 7 RX6 none ({ frames := 3, cells := 0, slots := 0, locals := 66 } : Room) G av (eV G ad μz) (wd G ad μ) 53 [(0, .ref (ad 151)), (1, .int a1), (2, .int a2), (4, .int a4), (5, .int a5), (6, .int a6)] [] := by
  intro n
  induction n with
  | zero => intro a1 a2 a4 a5 a6 μ h; rw [p_X6_call_b53_z] at h; cases h
  | succ n ih =>
    intro a1 a2 a4 a5 a6 μ h p e s m below meth c A ls H locs cx hr hlk hA hl hw
    have hx := cx.1
    have hb := cx.2.1
    rw [p_X6_call_b53_s] at h
    refine lv_iload hx hb dX6_call_53 (lv_at hl 5 rfl) ?_
    refine lv_iload hx hb dX6_call_55 (lv_at hl 4 rfl) ?_
    refine lv_icmp_ge (tgt := 83) hx hb dX6_call_57 (by decide) (fun c11 => ?_) (fun c11 => ?_)
    · rw [if_pos c11] at h
      refine lv_aload_n hx hb dX6_call_83 rfl (lv_at hl 0 rfl) ?_
      refine lv_iload hx hb dX6_call_84 (lv_at hl 3 rfl) ?_
      refine g_put cx hw inX6 (ci := 5) rfl tyX6_ok nmX6 6 (by decide) rfl rfl rfl rfl sh_151 h fl_X6_45 dX6_call_86 (fun μ12 H locs h hw => ?_)
      refine lv_aload_n hx hb dX6_call_89 rfl (lv_at hl 0 rfl) ?_
      refine lv_aload_n hx hb dX6_call_90 rfl (lv_at hl 0 rfl) ?_
      refine g_get cx hw inX6 (ci := 5) rfl 7 (by decide) rfl sh_151 rfl fl_X6_33 dX6_call_91 ?_
      refine lv_iload_n hx hb dX6_call_94 rfl (lv_at hl 2 rfl) ?_
      refine lv_iconst (v := 3) hx hb dX6_call_95 (by decide) ?_
      obtain ⟨r14, μ13, gr14, h⟩ := bd_some h
      refine g_callVI (As := [.int a2, .int 3]) (rest := [.ref (ad 151)]) cx hw hA (t_X5_ofVariant l G ad a2 (3 : Int32) μ12 gr14) sh_39 rfl ml_X6_66 im_X5_ofVariant se_X5_ofVariant in_X5 co_X5_ofVariant rfl hd_X5_ofVariant rfl ⟨(Nat.le_of_ble_eq_true rfl), (Nat.le_of_ble_eq_true rfl)⟩ hl.1 rfl (Nat.le_of_ble_eq_true rfl) dX6_call_96 ⟨rfl, rfl⟩ (fun H locs hw => ?_)
      obtain ⟨μ15, gμ15, h⟩ := bw_some h
      refine g_callVV (As := [.int r14]) (rest := []) cx hw hA (t_X6_enter l G ad r14 μ13 gμ15) sh_151 rfl ml_X6_70 im_X6_enter se_X6_enter in_X6 co_X6_enter rfl hd_X6_enter rfl ⟨(Nat.le_of_ble_eq_true rfl), (Nat.le_of_ble_eq_true rfl)⟩ hl.1 rfl (Nat.le_of_ble_eq_true rfl) dX6_call_99 ⟨rfl, rfl⟩ (fun H locs hw => ?_)
      exact g_vret cx hr hlk hw h dX6_call_102
    · rw [if_neg c11] at h
      refine lv_aload_n hx hb dX6_call_60 rfl (lv_at hl 0 rfl) ?_
      refine lv_iload hx hb dX6_call_61 (lv_at hl 3 rfl) ?_
      refine lv_iload hx hb dX6_call_63 (lv_at hl 5 rfl) ?_
      refine lv_aload_n hx hb dX6_call_65 rfl (lv_at hl 0 rfl) ?_
      refine lv_iload_n hx hb dX6_call_66 rfl (lv_at hl 1 rfl) ?_
      refine lv_iconst (v := 2) hx hb dX6_call_67 (by decide) ?_
      refine lv_iload hx hb dX6_call_68 (lv_at hl 5 rfl) ?_
      refine lv_iadd hx hb dX6_call_70 ?_
      obtain ⟨r18, μ17, gr18, h⟩ := bd_some h
      refine g_callVL (As := [.int a1, .int ((2 : Int32) + a6)]) (rest := [.int a6, .int a4, .ref (ad 151)]) cx hw hA (t_X6_operand l G ad a1 ((2 : Int32) + a6) μ gr18) sh_151 rfl ml_X6_105 im_X6_operand se_X6_operand in_X6 co_X6_operand rfl hd_X6_operand rfl ⟨(Nat.le_of_ble_eq_true rfl), (Nat.le_of_ble_eq_true rfl)⟩ hl.1 rfl (Nat.le_of_ble_eq_true rfl) dX6_call_71 ⟨rfl, rfl⟩ (fun H locs hw => ?_)
      obtain ⟨μ19, gμ19, h⟩ := bw_some h
      refine g_callVV (As := [.int a4, .int a6, .long r18]) (rest := []) cx hw hA (t_X6_setRegister l G ad a4 a6 r18 μ17 gμ19) sh_151 rfl ml_X6_62 im_X6_setRegister se_X6_setRegister in_X6 co_X6_setRegister rfl hd_X6_setRegister rfl ⟨(Nat.le_of_ble_eq_true rfl), (Nat.le_of_ble_eq_true rfl)⟩ hl.1 rfl (Nat.le_of_ble_eq_true rfl) dX6_call_74 ⟨rfl, rfl⟩ (fun H locs hw => ?_)
      obtain ⟨v21, ev21, h⟩ := bv_ex h
      refine lv_iinc (v := v21) (lv' := [(6, .int v21), (0, .ref (ad 151)), (1, .int a1), (2, .int a2), (4, .int a4), (5, .int a5)]) hx hb dX6_call_77 hl (k := 5) rfl (by rw [ev21]; rfl) (by decide) rfl (fun ls hl => ?_)
      refine lv_goto (tgt := 53) hx hb dX6_call_80 (by decide) ?_
      exact ih a1 a2 a4 a5 v21 μ19 h p e s m below meth c A ls H locs cx hr hlk hA (lv_sub hl [1, 2, 3, 4, 5, 0] rfl) hw
theorem p_X6_call_ex : ∃ f : Int32 → Int32 → Mem → Option Mem, ∀ (a1 : Int32) (a2 : Int32) (μ : Mem), f a1 a2 μ = bd (p_X5_cell a1 (6 : Int32) μ) (fun r2 μ1 => bd (p_X1_beginCall (sel 0 (μ1.2.2 151 8)) μ1) (fun r4 μ3 => (if r4 = (0 : Int32) then some μ3 else bd (p_X5_ofVariant r2 (2 : Int32) μ3) (fun r7 μ6 => bv ((μ3.1 151 6) + r7) (fun v8 => bd (p_X5_cell a1 (7 : Int32) μ6) (fun r10 μ9 => p_X6_call_b53  FUEL a1 a2 v8 r10 (0 : Int32) μ9)))))) := ⟨fun (a1 : Int32) (a2 : Int32) (μ : Mem) => bd (p_X5_cell a1 (6 : Int32) μ) (fun r2 μ1 => bd (p_X1_beginCall (sel 0 (μ1.2.2 151 8)) μ1) (fun r4 μ3 => (if r4 = (0 : Int32) then some μ3 else bd (p_X5_ofVariant r2 (2 : Int32) μ3) (fun r7 μ6 => bv ((μ3.1 151 6) + r7) (fun v8 => bd (p_X5_cell a1 (7 : Int32) μ6) (fun r10 μ9 => p_X6_call_b53  FUEL a1 a2 v8 r10 (0 : Int32) μ9)))))), fun _ _ _ => rfl⟩
noncomputable def p_X6_call : Int32 → Int32 → Mem → Option Mem := Classical.choose p_X6_call_ex
theorem p_X6_call_eq (a1 : Int32) (a2 : Int32) (μ : Mem) : p_X6_call a1 a2 μ = bd (p_X5_cell a1 (6 : Int32) μ) (fun r2 μ1 => bd (p_X1_beginCall (sel 0 (μ1.2.2 151 8)) μ1) (fun r4 μ3 => (if r4 = (0 : Int32) then some μ3 else bd (p_X5_ofVariant r2 (2 : Int32) μ3) (fun r7 μ6 => bv ((μ3.1 151 6) + r7) (fun v8 => bd (p_X5_cell a1 (7 : Int32) μ6) (fun r10 μ9 => p_X6_call_b53  FUEL a1 a2 v8 r10 (0 : Int32) μ9)))))) := Classical.choose_spec p_X6_call_ex a1 a2 μ
set_option maxHeartbeats 4000000 in
set_option maxRecDepth 100000 in
theorem t_X6_call (l : Launch) (G : Gt) (ad : Nat → Nat) (a1 : Int32) (a2 : Int32) (μ : Mem) {μz : Mem} (h : p_X6_call a1 a2 μ = some μz) : Mt l yX6_call cX6_call 7 none ({ frames := 3, cells := 0, slots := 0, locals := 66 } : Room) G [.ref (ad 151), .int a1, .int a2] (wd G ad μ) (eV G ad μz) := by
  refine Bk.mt (by decide) rfl (Nat.le_of_ble_eq_true rfl) ?_
  intro p e s m below meth c A ls H locs cx hr hlk hA hl hw
  have hx := cx.1
  have hb := cx.2.1
  have hl : lv_has ls 7 [(0, .ref (ad 151)), (1, .int a1), (2, .int a2)] := hl
  rw [p_X6_call_eq] at h
  refine lv_aload_n hx hb dX6_call_0 rfl (lv_at hl 0 rfl) ?_
  refine g_get cx hw inX6 (ci := 5) rfl 7 (by decide) rfl sh_151 rfl fl_X6_33 dX6_call_1 ?_
  refine lv_iload_n hx hb dX6_call_4 rfl (lv_at hl 1 rfl) ?_
  refine lv_bipush (v := 6) hx hb dX6_call_5 (by decide) ?_
  obtain ⟨r2, μ1, gr2, h⟩ := bd_some h
  refine g_callVI (As := [.int a1, .int 6]) (rest := []) cx hw hA (t_X5_cell l G ad a1 (6 : Int32) μ gr2) sh_39 rfl ml_X6_117 im_X5_cell se_X5_cell in_X5 co_X5_cell rfl hd_X5_cell rfl ⟨(Nat.le_of_ble_eq_true rfl), (Nat.le_of_ble_eq_true rfl)⟩ hl.1 rfl (Nat.le_of_ble_eq_true rfl) dX6_call_7 ⟨rfl, rfl⟩ (fun H locs hw => ?_)
  refine lv_istore_n (lv' := [(3, .int r2), (0, .ref (ad 151)), (1, .int a1), (2, .int a2)]) hx hb dX6_call_10 rfl hl (by decide) rfl (fun ls hl => ?_)
  refine lv_aload_n hx hb dX6_call_11 rfl (lv_at hl 1 rfl) ?_
  refine g_get cx hw inX6 (ci := 5) rfl 8 (by decide) rfl sh_151 rfl fl_X6_37 dX6_call_12 ?_
  obtain ⟨r4, μ3, gr4, h⟩ := bd_some h
  refine g_callVI (As := []) (rest := []) cx hw hA (t_X1_beginCall l G ad (sel 0 (μ1.2.2 151 8)) (sel_0 _) μ1 gr4) (sel_0 _) rfl ml_X6_58 im_X1_beginCall se_X1_beginCall in_X1 co_X1_beginCall rfl hd_X1_beginCall rfl ⟨(Nat.le_of_ble_eq_true rfl), (Nat.le_of_ble_eq_true rfl)⟩ hl.1 rfl (Nat.le_of_ble_eq_true rfl) dX6_call_15 ⟨rfl, rfl⟩ (fun H locs hw => ?_)
  refine lv_if_ne (tgt := 22) hx hb dX6_call_18 (by decide) (fun c5 => ?_) (fun c5 => ?_)
  · rw [if_neg c5] at h
    refine lv_aload_n hx hb dX6_call_22 rfl (lv_at hl 1 rfl) ?_
    refine g_get cx hw inX6 (ci := 5) rfl 6 (by decide) rfl sh_151 rfl fl_X6_45 dX6_call_23 ?_
    refine lv_aload_n hx hb dX6_call_26 rfl (lv_at hl 1 rfl) ?_
    refine g_get cx hw inX6 (ci := 5) rfl 7 (by decide) rfl sh_151 rfl fl_X6_33 dX6_call_27 ?_
    refine lv_iload_n hx hb dX6_call_30 rfl (lv_at hl 0 rfl) ?_
    refine lv_iconst (v := 2) hx hb dX6_call_31 (by decide) ?_
    obtain ⟨r7, μ6, gr7, h⟩ := bd_some h
    refine g_callVI (As := [.int r2, .int 2]) (rest := [.int (μ3.1 151 6)]) cx hw hA (t_X5_ofVariant l G ad r2 (2 : Int32) μ3 gr7) sh_39 rfl ml_X6_66 im_X5_ofVariant se_X5_ofVariant in_X5 co_X5_ofVariant rfl hd_X5_ofVariant rfl ⟨(Nat.le_of_ble_eq_true rfl), (Nat.le_of_ble_eq_true rfl)⟩ hl.1 rfl (Nat.le_of_ble_eq_true rfl) dX6_call_32 ⟨rfl, rfl⟩ (fun H locs hw => ?_)
    refine lv_iadd hx hb dX6_call_35 ?_
    obtain ⟨v8, ev8, h⟩ := bv_ex h
    refine lv_topi (fun y9 z9 => ?_)
    obtain rfl : y9 = v8 := z9.trans ev8.symm
    refine lv_istore (lv' := [(4, .int v8), (3, .int r2), (0, .ref (ad 151)), (1, .int a1), (2, .int a2)]) hx hb dX6_call_36 hl (by decide) rfl (fun ls hl => ?_)
    refine lv_aload_n hx hb dX6_call_38 rfl (lv_at hl 2 rfl) ?_
    refine g_get cx hw inX6 (ci := 5) rfl 7 (by decide) rfl sh_151 rfl fl_X6_33 dX6_call_39 ?_
    refine lv_iload_n hx hb dX6_call_42 rfl (lv_at hl 3 rfl) ?_
    refine lv_bipush (v := 7) hx hb dX6_call_43 (by decide) ?_
    obtain ⟨r10, μ9, gr10, h⟩ := bd_some h
    refine g_callVI (As := [.int a1, .int 7]) (rest := []) cx hw hA (t_X5_cell l G ad a1 (7 : Int32) μ6 gr10) sh_39 rfl ml_X6_117 im_X5_cell se_X5_cell in_X5 co_X5_cell rfl hd_X5_cell rfl ⟨(Nat.le_of_ble_eq_true rfl), (Nat.le_of_ble_eq_true rfl)⟩ hl.1 rfl (Nat.le_of_ble_eq_true rfl) dX6_call_45 ⟨rfl, rfl⟩ (fun H locs hw => ?_)
    refine lv_istore (lv' := [(5, .int r10), (4, .int v8), (3, .int r2), (0, .ref (ad 151)), (1, .int a1), (2, .int a2)]) hx hb dX6_call_48 hl (by decide) rfl (fun ls hl => ?_)
    refine lv_iconst (v := 0) hx hb dX6_call_50 (by decide) ?_
    refine lv_istore (lv' := [(6, .int 0), (5, .int r10), (4, .int v8), (3, .int r2), (0, .ref (ad 151)), (1, .int a1), (2, .int a2)]) hx hb dX6_call_51 hl (by decide) rfl (fun ls hl => ?_)
    exact t_X6_call_b53 l G ad _  FUEL a1 a2 v8 r10 (0 : Int32) μ9 h p e s m below meth c A ls H locs cx hr hlk hA (lv_sub hl [4, 5, 6, 2, 1, 0] rfl) hw
  · rw [if_pos c5] at h
    exact g_vret cx hr hlk hw h dX6_call_21

theorem p_X6_step_ex : ∃ f : Int32 → Mem → Option Mem, ∀ (a1 : Int32) (μ : Mem), f a1 μ = bd (p_X5_cell a1 (2 : Int32) μ) (fun r2 μ1 => bd (p_X5_cell a1 (0 : Int32) μ1) (fun r4 μ3 => (if r4 = (0 : Int32) then bd (p_X6_num a1 (0 : Int32) μ3) (fun r8 μ7 => bd (p_X6_num a1 (1 : Int32) μ7) (fun r10 μ9 => bw (p_X6_goOn a1 (s_X0_apply r2 r8 r10) μ9) (fun μ11 => some μ11))) else (if r4 = (1 : Int32) then bd (p_X6_num a1 (0 : Int32) μ3) (fun r15 μ14 => bw (p_X6_goOn a1 (s_X0_turn (36 : Int32) r15) μ14) (fun μ16 => some μ16)) else (if r4 = (2 : Int32) then bd (p_X6_num a1 (0 : Int32) μ3) (fun r20 μ19 => bw (p_X6_goOn a1 (s_X0_turn (94 : Int32) r20) μ19) (fun μ21 => some μ21)) else (if r4 = (3 : Int32) then bd (p_X6_num a1 (0 : Int32) μ3) (fun r25 μ24 => bw (p_X6_goOn a1 (s_X0_turn (35 : Int32) r25) μ24) (fun μ26 => some μ26)) else (if r4 = (4 : Int32) then bd (p_X6_operand a1 (0 : Int32) μ3) (fun r30 μ29 => bd (p_X8_firstOf r30 μ29) (fun r32 μ31 => bw (p_X6_goOn a1 r32 μ31) (fun μ33 => some μ33))) else (if r4 = (5 : Int32) then bd (p_X6_operand a1 (0 : Int32) μ3) (fun r37 μ36 => bd (p_X8_secondOf r37 μ36) (fun r39 μ38 => bw (p_X6_goOn a1 r39 μ38) (fun μ40 => some μ40))) else (if r4 = (6 : Int32) then bd (p_X6_num a1 (0 : Int32) μ3) (fun r44 μ43 => (if (s_X0_isTrue r44) = (0 : Int32) then bd (p_X5_cell a1 (4 : Int32) μ43) (fun r47 μ46 => bw (p_X6_enter r47 μ46) (fun μ48 => some μ48)) else bd (p_X5_cell a1 (3 : Int32) μ43) (fun r51 μ50 => bw (p_X6_enter r51 μ50) (fun μ52 => some μ52)))) else (if r4 = (7 : Int32) then bd (p_X6_num a1 (0 : Int32) μ3) (fun r56 μ55 => bw (p_X1_writeOut (sel 0 (μ3.2.2 151 8)) r56 μ55) (fun μ57 => bw (p_X6_goOn a1 (0 : Int64) μ57) (fun μ59 => some μ59))) else (if r4 = (8 : Int32) then bd (p_X6_num a1 (0 : Int32) μ3) (fun r63 μ62 => bd (p_X1_put (sel 0 (μ3.2.2 151 8)) r2 (s_X0_stored r2 r63) μ62) (fun r65 μ64 => bw (p_X6_goOn a1 r65 μ64) (fun μ66 => some μ66))) else (if r4 = (9 : Int32) then bd (p_X1_get (sel 0 (μ3.2.2 151 8)) r2 μ3) (fun r70 μ69 => bw (p_X6_goOn a1 r70 μ69) (fun μ71 => some μ71)) else (if r4 = (10 : Int32) then bw (p_X6_makePair a1 μ3) (fun μ74 => some μ74) else (if r4 = (11 : Int32) then bw (p_X6_call a1 r2 μ3) (fun μ77 => some μ77) else bv (sF μ3 (sel 0 (μ3.2.2 151 8)) 0 (4 : Int32)) (fun μ79 => some μ79))))))))))))))) := ⟨fun (a1 : Int32) (μ : Mem) => bd (p_X5_cell a1 (2 : Int32) μ) (fun r2 μ1 => bd (p_X5_cell a1 (0 : Int32) μ1) (fun r4 μ3 => (if r4 = (0 : Int32) then bd (p_X6_num a1 (0 : Int32) μ3) (fun r8 μ7 => bd (p_X6_num a1 (1 : Int32) μ7) (fun r10 μ9 => bw (p_X6_goOn a1 (s_X0_apply r2 r8 r10) μ9) (fun μ11 => some μ11))) else (if r4 = (1 : Int32) then bd (p_X6_num a1 (0 : Int32) μ3) (fun r15 μ14 => bw (p_X6_goOn a1 (s_X0_turn (36 : Int32) r15) μ14) (fun μ16 => some μ16)) else (if r4 = (2 : Int32) then bd (p_X6_num a1 (0 : Int32) μ3) (fun r20 μ19 => bw (p_X6_goOn a1 (s_X0_turn (94 : Int32) r20) μ19) (fun μ21 => some μ21)) else (if r4 = (3 : Int32) then bd (p_X6_num a1 (0 : Int32) μ3) (fun r25 μ24 => bw (p_X6_goOn a1 (s_X0_turn (35 : Int32) r25) μ24) (fun μ26 => some μ26)) else (if r4 = (4 : Int32) then bd (p_X6_operand a1 (0 : Int32) μ3) (fun r30 μ29 => bd (p_X8_firstOf r30 μ29) (fun r32 μ31 => bw (p_X6_goOn a1 r32 μ31) (fun μ33 => some μ33))) else (if r4 = (5 : Int32) then bd (p_X6_operand a1 (0 : Int32) μ3) (fun r37 μ36 => bd (p_X8_secondOf r37 μ36) (fun r39 μ38 => bw (p_X6_goOn a1 r39 μ38) (fun μ40 => some μ40))) else (if r4 = (6 : Int32) then bd (p_X6_num a1 (0 : Int32) μ3) (fun r44 μ43 => (if (s_X0_isTrue r44) = (0 : Int32) then bd (p_X5_cell a1 (4 : Int32) μ43) (fun r47 μ46 => bw (p_X6_enter r47 μ46) (fun μ48 => some μ48)) else bd (p_X5_cell a1 (3 : Int32) μ43) (fun r51 μ50 => bw (p_X6_enter r51 μ50) (fun μ52 => some μ52)))) else (if r4 = (7 : Int32) then bd (p_X6_num a1 (0 : Int32) μ3) (fun r56 μ55 => bw (p_X1_writeOut (sel 0 (μ3.2.2 151 8)) r56 μ55) (fun μ57 => bw (p_X6_goOn a1 (0 : Int64) μ57) (fun μ59 => some μ59))) else (if r4 = (8 : Int32) then bd (p_X6_num a1 (0 : Int32) μ3) (fun r63 μ62 => bd (p_X1_put (sel 0 (μ3.2.2 151 8)) r2 (s_X0_stored r2 r63) μ62) (fun r65 μ64 => bw (p_X6_goOn a1 r65 μ64) (fun μ66 => some μ66))) else (if r4 = (9 : Int32) then bd (p_X1_get (sel 0 (μ3.2.2 151 8)) r2 μ3) (fun r70 μ69 => bw (p_X6_goOn a1 r70 μ69) (fun μ71 => some μ71)) else (if r4 = (10 : Int32) then bw (p_X6_makePair a1 μ3) (fun μ74 => some μ74) else (if r4 = (11 : Int32) then bw (p_X6_call a1 r2 μ3) (fun μ77 => some μ77) else bv (sF μ3 (sel 0 (μ3.2.2 151 8)) 0 (4 : Int32)) (fun μ79 => some μ79))))))))))))))), fun _ _ => rfl⟩
noncomputable def p_X6_step : Int32 → Mem → Option Mem := Classical.choose p_X6_step_ex
theorem p_X6_step_eq (a1 : Int32) (μ : Mem) : p_X6_step a1 μ = bd (p_X5_cell a1 (2 : Int32) μ) (fun r2 μ1 => bd (p_X5_cell a1 (0 : Int32) μ1) (fun r4 μ3 => (if r4 = (0 : Int32) then bd (p_X6_num a1 (0 : Int32) μ3) (fun r8 μ7 => bd (p_X6_num a1 (1 : Int32) μ7) (fun r10 μ9 => bw (p_X6_goOn a1 (s_X0_apply r2 r8 r10) μ9) (fun μ11 => some μ11))) else (if r4 = (1 : Int32) then bd (p_X6_num a1 (0 : Int32) μ3) (fun r15 μ14 => bw (p_X6_goOn a1 (s_X0_turn (36 : Int32) r15) μ14) (fun μ16 => some μ16)) else (if r4 = (2 : Int32) then bd (p_X6_num a1 (0 : Int32) μ3) (fun r20 μ19 => bw (p_X6_goOn a1 (s_X0_turn (94 : Int32) r20) μ19) (fun μ21 => some μ21)) else (if r4 = (3 : Int32) then bd (p_X6_num a1 (0 : Int32) μ3) (fun r25 μ24 => bw (p_X6_goOn a1 (s_X0_turn (35 : Int32) r25) μ24) (fun μ26 => some μ26)) else (if r4 = (4 : Int32) then bd (p_X6_operand a1 (0 : Int32) μ3) (fun r30 μ29 => bd (p_X8_firstOf r30 μ29) (fun r32 μ31 => bw (p_X6_goOn a1 r32 μ31) (fun μ33 => some μ33))) else (if r4 = (5 : Int32) then bd (p_X6_operand a1 (0 : Int32) μ3) (fun r37 μ36 => bd (p_X8_secondOf r37 μ36) (fun r39 μ38 => bw (p_X6_goOn a1 r39 μ38) (fun μ40 => some μ40))) else (if r4 = (6 : Int32) then bd (p_X6_num a1 (0 : Int32) μ3) (fun r44 μ43 => (if (s_X0_isTrue r44) = (0 : Int32) then bd (p_X5_cell a1 (4 : Int32) μ43) (fun r47 μ46 => bw (p_X6_enter r47 μ46) (fun μ48 => some μ48)) else bd (p_X5_cell a1 (3 : Int32) μ43) (fun r51 μ50 => bw (p_X6_enter r51 μ50) (fun μ52 => some μ52)))) else (if r4 = (7 : Int32) then bd (p_X6_num a1 (0 : Int32) μ3) (fun r56 μ55 => bw (p_X1_writeOut (sel 0 (μ3.2.2 151 8)) r56 μ55) (fun μ57 => bw (p_X6_goOn a1 (0 : Int64) μ57) (fun μ59 => some μ59))) else (if r4 = (8 : Int32) then bd (p_X6_num a1 (0 : Int32) μ3) (fun r63 μ62 => bd (p_X1_put (sel 0 (μ3.2.2 151 8)) r2 (s_X0_stored r2 r63) μ62) (fun r65 μ64 => bw (p_X6_goOn a1 r65 μ64) (fun μ66 => some μ66))) else (if r4 = (9 : Int32) then bd (p_X1_get (sel 0 (μ3.2.2 151 8)) r2 μ3) (fun r70 μ69 => bw (p_X6_goOn a1 r70 μ69) (fun μ71 => some μ71)) else (if r4 = (10 : Int32) then bw (p_X6_makePair a1 μ3) (fun μ74 => some μ74) else (if r4 = (11 : Int32) then bw (p_X6_call a1 r2 μ3) (fun μ77 => some μ77) else bv (sF μ3 (sel 0 (μ3.2.2 151 8)) 0 (4 : Int32)) (fun μ79 => some μ79))))))))))))))) := Classical.choose_spec p_X6_step_ex a1 μ
set_option maxHeartbeats 4000000 in
set_option maxRecDepth 100000 in
theorem t_X6_step (l : Launch) (G : Gt) (ad : Nat → Nat) (a1 : Int32) (μ : Mem) {μz : Mem} (h : p_X6_step a1 μ = some μz) : Mt l yX6_step cX6_step 3 none ({ frames := 5, cells := 0, slots := 0, locals := 135 } : Room) G [.ref (ad 151), .int a1] (wd G ad μ) (eV G ad μz) := by
  refine Bk.mt (by decide) rfl (Nat.le_of_ble_eq_true rfl) ?_
  intro p e s m below meth c A ls H locs cx hr hlk hA hl hw
  have hx := cx.1
  have hb := cx.2.1
  have hl : lv_has ls 3 [(0, .ref (ad 151)), (1, .int a1)] := hl
  rw [p_X6_step_eq] at h
  refine lv_aload_n hx hb dX6_step_0 rfl (lv_at hl 0 rfl) ?_
  refine g_get cx hw inX6 (ci := 5) rfl 7 (by decide) rfl sh_151 rfl fl_X6_33 dX6_step_1 ?_
  refine lv_iload_n hx hb dX6_step_4 rfl (lv_at hl 1 rfl) ?_
  refine lv_iconst (v := 2) hx hb dX6_step_5 (by decide) ?_
  obtain ⟨r2, μ1, gr2, h⟩ := bd_some h
  refine g_callVI (As := [.int a1, .int 2]) (rest := []) cx hw hA (t_X5_cell l G ad a1 (2 : Int32) μ gr2) sh_39 rfl ml_X6_117 im_X5_cell se_X5_cell in_X5 co_X5_cell rfl hd_X5_cell rfl ⟨(Nat.le_of_ble_eq_true rfl), (Nat.le_of_ble_eq_true rfl)⟩ hl.1 rfl (Nat.le_of_ble_eq_true rfl) dX6_step_6 ⟨rfl, rfl⟩ (fun H locs hw => ?_)
  refine lv_istore_n (lv' := [(2, .int r2), (0, .ref (ad 151)), (1, .int a1)]) hx hb dX6_step_9 rfl hl (by decide) rfl (fun ls hl => ?_)
  refine lv_aload_n hx hb dX6_step_10 rfl (lv_at hl 1 rfl) ?_
  refine g_get cx hw inX6 (ci := 5) rfl 7 (by decide) rfl sh_151 rfl fl_X6_33 dX6_step_11 ?_
  refine lv_iload_n hx hb dX6_step_14 rfl (lv_at hl 2 rfl) ?_
  refine lv_iconst (v := 0) hx hb dX6_step_15 (by decide) ?_
  obtain ⟨r4, μ3, gr4, h⟩ := bd_some h
  refine g_callVI (As := [.int a1, .int 0]) (rest := []) cx hw hA (t_X5_cell l G ad a1 (0 : Int32) μ1 gr4) sh_39 rfl ml_X6_117 im_X5_cell se_X5_cell in_X5 co_X5_cell rfl hd_X5_cell rfl ⟨(Nat.le_of_ble_eq_true rfl), (Nat.le_of_ble_eq_true rfl)⟩ hl.1 rfl (Nat.le_of_ble_eq_true rfl) dX6_step_16 ⟨rfl, rfl⟩ (fun H locs hw => ?_)
  refine lv_topi (fun v5 ev5 => ?_)
  by_cases c6 : r4 = (0 : Int32)
  · rw [if_pos c6] at h
    have z9 := ev5.trans c6
    subst z9
    refine lv_tableIn (tgt := 80) hx hb dX6_step_19 (by decide +kernel) (by decide +kernel) rfl (by decide) ?_
    refine lv_aload_n hx hb dX6_step_80 rfl (lv_at hl 1 rfl) ?_
    refine lv_iload_n hx hb dX6_step_81 rfl (lv_at hl 2 rfl) ?_
    refine lv_iload_n hx hb dX6_step_82 rfl (lv_at hl 0 rfl) ?_
    refine lv_aload_n hx hb dX6_step_83 rfl (lv_at hl 1 rfl) ?_
    refine lv_iload_n hx hb dX6_step_84 rfl (lv_at hl 2 rfl) ?_
    refine lv_iconst (v := 0) hx hb dX6_step_85 (by decide) ?_
    obtain ⟨r8, μ7, gr8, h⟩ := bd_some h
    refine g_callVL (As := [.int a1, .int 0]) (rest := [.int r2, .int a1, .ref (ad 151)]) cx hw hA (t_X6_num l G ad a1 (0 : Int32) μ3 gr8) sh_151 rfl ml_X6_127 im_X6_num se_X6_num in_X6 co_X6_num rfl hd_X6_num rfl ⟨(Nat.le_of_ble_eq_true rfl), (Nat.le_of_ble_eq_true rfl)⟩ hl.1 rfl (Nat.le_of_ble_eq_true rfl) dX6_step_86 ⟨rfl, rfl⟩ (fun H locs hw => ?_)
    refine lv_aload_n hx hb dX6_step_89 rfl (lv_at hl 1 rfl) ?_
    refine lv_iload_n hx hb dX6_step_90 rfl (lv_at hl 2 rfl) ?_
    refine lv_iconst (v := 1) hx hb dX6_step_91 (by decide) ?_
    obtain ⟨r10, μ9, gr10, h⟩ := bd_some h
    refine g_callVL (As := [.int a1, .int 1]) (rest := [.long r8, .int r2, .int a1, .ref (ad 151)]) cx hw hA (t_X6_num l G ad a1 (1 : Int32) μ7 gr10) sh_151 rfl ml_X6_127 im_X6_num se_X6_num in_X6 co_X6_num rfl hd_X6_num rfl ⟨(Nat.le_of_ble_eq_true rfl), (Nat.le_of_ble_eq_true rfl)⟩ hl.1 rfl (Nat.le_of_ble_eq_true rfl) dX6_step_92 ⟨rfl, rfl⟩ (fun H locs hw => ?_)
    refine s_callL (As := [.int r2, .long r8, .long r10]) (rest := [.int a1, .ref (ad 151)]) cx hw hA (t_X0_apply l G r2 r8 r10) ml_X6_129 st_X0_apply in_X0 co_X0_apply hd_X0_apply rfl ⟨(Nat.le_of_ble_eq_true rfl), (Nat.le_of_ble_eq_true rfl)⟩ hl.1 rfl (Nat.le_of_ble_eq_true rfl) dX6_step_95 rfl (fun H locs hw => ?_)
    obtain ⟨μ11, gμ11, h⟩ := bw_some h
    refine g_callVV (As := [.int a1, .long (s_X0_apply r2 r8 r10)]) (rest := []) cx hw hA (t_X6_goOn l G ad a1 (s_X0_apply r2 r8 r10) μ9 gμ11) sh_151 rfl ml_X6_123 im_X6_goOn se_X6_goOn in_X6 co_X6_goOn rfl hd_X6_goOn rfl ⟨(Nat.le_of_ble_eq_true rfl), (Nat.le_of_ble_eq_true rfl)⟩ hl.1 rfl (Nat.le_of_ble_eq_true rfl) dX6_step_98 ⟨rfl, rfl⟩ (fun H locs hw => ?_)
    refine lv_goto (tgt := 324) hx hb dX6_step_101 (by decide) ?_
    exact g_vret cx hr hlk hw h dX6_step_324
  rw [if_neg c6] at h
  by_cases c13 : r4 = (1 : Int32)
  · rw [if_pos c13] at h
    have z9 := ev5.trans c13
    subst z9
    refine lv_tableIn (tgt := 104) hx hb dX6_step_19 (by decide +kernel) (by decide +kernel) rfl (by decide) ?_
    refine lv_aload_n hx hb dX6_step_104 rfl (lv_at hl 1 rfl) ?_
    refine lv_iload_n hx hb dX6_step_105 rfl (lv_at hl 2 rfl) ?_
    refine lv_bipush (v := 36) hx hb dX6_step_106 (by decide) ?_
    refine lv_aload_n hx hb dX6_step_108 rfl (lv_at hl 1 rfl) ?_
    refine lv_iload_n hx hb dX6_step_109 rfl (lv_at hl 2 rfl) ?_
    refine lv_iconst (v := 0) hx hb dX6_step_110 (by decide) ?_
    obtain ⟨r15, μ14, gr15, h⟩ := bd_some h
    refine g_callVL (As := [.int a1, .int 0]) (rest := [.int 36, .int a1, .ref (ad 151)]) cx hw hA (t_X6_num l G ad a1 (0 : Int32) μ3 gr15) sh_151 rfl ml_X6_127 im_X6_num se_X6_num in_X6 co_X6_num rfl hd_X6_num rfl ⟨(Nat.le_of_ble_eq_true rfl), (Nat.le_of_ble_eq_true rfl)⟩ hl.1 rfl (Nat.le_of_ble_eq_true rfl) dX6_step_111 ⟨rfl, rfl⟩ (fun H locs hw => ?_)
    refine s_callL (As := [.int 36, .long r15]) (rest := [.int a1, .ref (ad 151)]) cx hw hA (t_X0_turn l G (36 : Int32) r15) ml_X6_133 st_X0_turn in_X0 co_X0_turn hd_X0_turn rfl ⟨(Nat.le_of_ble_eq_true rfl), (Nat.le_of_ble_eq_true rfl)⟩ hl.1 rfl (Nat.le_of_ble_eq_true rfl) dX6_step_114 rfl (fun H locs hw => ?_)
    obtain ⟨μ16, gμ16, h⟩ := bw_some h
    refine g_callVV (As := [.int a1, .long (s_X0_turn (36 : Int32) r15)]) (rest := []) cx hw hA (t_X6_goOn l G ad a1 (s_X0_turn (36 : Int32) r15) μ14 gμ16) sh_151 rfl ml_X6_123 im_X6_goOn se_X6_goOn in_X6 co_X6_goOn rfl hd_X6_goOn rfl ⟨(Nat.le_of_ble_eq_true rfl), (Nat.le_of_ble_eq_true rfl)⟩ hl.1 rfl (Nat.le_of_ble_eq_true rfl) dX6_step_117 ⟨rfl, rfl⟩ (fun H locs hw => ?_)
    refine lv_goto (tgt := 324) hx hb dX6_step_120 (by decide) ?_
    exact g_vret cx hr hlk hw h dX6_step_324
  rw [if_neg c13] at h
  by_cases c18 : r4 = (2 : Int32)
  · rw [if_pos c18] at h
    have z9 := ev5.trans c18
    subst z9
    refine lv_tableIn (tgt := 123) hx hb dX6_step_19 (by decide +kernel) (by decide +kernel) rfl (by decide) ?_
    refine lv_aload_n hx hb dX6_step_123 rfl (lv_at hl 1 rfl) ?_
    refine lv_iload_n hx hb dX6_step_124 rfl (lv_at hl 2 rfl) ?_
    refine lv_bipush (v := 94) hx hb dX6_step_125 (by decide) ?_
    refine lv_aload_n hx hb dX6_step_127 rfl (lv_at hl 1 rfl) ?_
    refine lv_iload_n hx hb dX6_step_128 rfl (lv_at hl 2 rfl) ?_
    refine lv_iconst (v := 0) hx hb dX6_step_129 (by decide) ?_
    obtain ⟨r20, μ19, gr20, h⟩ := bd_some h
    refine g_callVL (As := [.int a1, .int 0]) (rest := [.int 94, .int a1, .ref (ad 151)]) cx hw hA (t_X6_num l G ad a1 (0 : Int32) μ3 gr20) sh_151 rfl ml_X6_127 im_X6_num se_X6_num in_X6 co_X6_num rfl hd_X6_num rfl ⟨(Nat.le_of_ble_eq_true rfl), (Nat.le_of_ble_eq_true rfl)⟩ hl.1 rfl (Nat.le_of_ble_eq_true rfl) dX6_step_130 ⟨rfl, rfl⟩ (fun H locs hw => ?_)
    refine s_callL (As := [.int 94, .long r20]) (rest := [.int a1, .ref (ad 151)]) cx hw hA (t_X0_turn l G (94 : Int32) r20) ml_X6_133 st_X0_turn in_X0 co_X0_turn hd_X0_turn rfl ⟨(Nat.le_of_ble_eq_true rfl), (Nat.le_of_ble_eq_true rfl)⟩ hl.1 rfl (Nat.le_of_ble_eq_true rfl) dX6_step_133 rfl (fun H locs hw => ?_)
    obtain ⟨μ21, gμ21, h⟩ := bw_some h
    refine g_callVV (As := [.int a1, .long (s_X0_turn (94 : Int32) r20)]) (rest := []) cx hw hA (t_X6_goOn l G ad a1 (s_X0_turn (94 : Int32) r20) μ19 gμ21) sh_151 rfl ml_X6_123 im_X6_goOn se_X6_goOn in_X6 co_X6_goOn rfl hd_X6_goOn rfl ⟨(Nat.le_of_ble_eq_true rfl), (Nat.le_of_ble_eq_true rfl)⟩ hl.1 rfl (Nat.le_of_ble_eq_true rfl) dX6_step_136 ⟨rfl, rfl⟩ (fun H locs hw => ?_)
    refine lv_goto (tgt := 324) hx hb dX6_step_139 (by decide) ?_
    exact g_vret cx hr hlk hw h dX6_step_324
  rw [if_neg c18] at h
  by_cases c23 : r4 = (3 : Int32)
  · rw [if_pos c23] at h
    have z9 := ev5.trans c23
    subst z9
    refine lv_tableIn (tgt := 142) hx hb dX6_step_19 (by decide +kernel) (by decide +kernel) rfl (by decide) ?_
    refine lv_aload_n hx hb dX6_step_142 rfl (lv_at hl 1 rfl) ?_
    refine lv_iload_n hx hb dX6_step_143 rfl (lv_at hl 2 rfl) ?_
    refine lv_bipush (v := 35) hx hb dX6_step_144 (by decide) ?_
    refine lv_aload_n hx hb dX6_step_146 rfl (lv_at hl 1 rfl) ?_
    refine lv_iload_n hx hb dX6_step_147 rfl (lv_at hl 2 rfl) ?_
    refine lv_iconst (v := 0) hx hb dX6_step_148 (by decide) ?_
    obtain ⟨r25, μ24, gr25, h⟩ := bd_some h
    refine g_callVL (As := [.int a1, .int 0]) (rest := [.int 35, .int a1, .ref (ad 151)]) cx hw hA (t_X6_num l G ad a1 (0 : Int32) μ3 gr25) sh_151 rfl ml_X6_127 im_X6_num se_X6_num in_X6 co_X6_num rfl hd_X6_num rfl ⟨(Nat.le_of_ble_eq_true rfl), (Nat.le_of_ble_eq_true rfl)⟩ hl.1 rfl (Nat.le_of_ble_eq_true rfl) dX6_step_149 ⟨rfl, rfl⟩ (fun H locs hw => ?_)
    refine s_callL (As := [.int 35, .long r25]) (rest := [.int a1, .ref (ad 151)]) cx hw hA (t_X0_turn l G (35 : Int32) r25) ml_X6_133 st_X0_turn in_X0 co_X0_turn hd_X0_turn rfl ⟨(Nat.le_of_ble_eq_true rfl), (Nat.le_of_ble_eq_true rfl)⟩ hl.1 rfl (Nat.le_of_ble_eq_true rfl) dX6_step_152 rfl (fun H locs hw => ?_)
    obtain ⟨μ26, gμ26, h⟩ := bw_some h
    refine g_callVV (As := [.int a1, .long (s_X0_turn (35 : Int32) r25)]) (rest := []) cx hw hA (t_X6_goOn l G ad a1 (s_X0_turn (35 : Int32) r25) μ24 gμ26) sh_151 rfl ml_X6_123 im_X6_goOn se_X6_goOn in_X6 co_X6_goOn rfl hd_X6_goOn rfl ⟨(Nat.le_of_ble_eq_true rfl), (Nat.le_of_ble_eq_true rfl)⟩ hl.1 rfl (Nat.le_of_ble_eq_true rfl) dX6_step_155 ⟨rfl, rfl⟩ (fun H locs hw => ?_)
    refine lv_goto (tgt := 324) hx hb dX6_step_158 (by decide) ?_
    exact g_vret cx hr hlk hw h dX6_step_324
  rw [if_neg c23] at h
  by_cases c28 : r4 = (4 : Int32)
  · rw [if_pos c28] at h
    have z9 := ev5.trans c28
    subst z9
    refine lv_tableIn (tgt := 161) hx hb dX6_step_19 (by decide +kernel) (by decide +kernel) rfl (by decide) ?_
    refine lv_aload_n hx hb dX6_step_161 rfl (lv_at hl 1 rfl) ?_
    refine lv_iload_n hx hb dX6_step_162 rfl (lv_at hl 2 rfl) ?_
    refine lv_aload_n hx hb dX6_step_163 rfl (lv_at hl 1 rfl) ?_
    refine g_get cx hw inX6 (ci := 5) rfl 0 (by decide) rfl sh_151 rfl fl_X6_13 dX6_step_164 ?_
    refine lv_aload_n hx hb dX6_step_167 rfl (lv_at hl 1 rfl) ?_
    refine lv_iload_n hx hb dX6_step_168 rfl (lv_at hl 2 rfl) ?_
    refine lv_iconst (v := 0) hx hb dX6_step_169 (by decide) ?_
    obtain ⟨r30, μ29, gr30, h⟩ := bd_some h
    refine g_callVL (As := [.int a1, .int 0]) (rest := [.ref (ad 30), .int a1, .ref (ad 151)]) cx hw hA (t_X6_operand l G ad a1 (0 : Int32) μ3 gr30) sh_151 rfl ml_X6_105 im_X6_operand se_X6_operand in_X6 co_X6_operand rfl hd_X6_operand rfl ⟨(Nat.le_of_ble_eq_true rfl), (Nat.le_of_ble_eq_true rfl)⟩ hl.1 rfl (Nat.le_of_ble_eq_true rfl) dX6_step_170 ⟨rfl, rfl⟩ (fun H locs hw => ?_)
    obtain ⟨r32, μ31, gr32, h⟩ := bd_some h
    refine g_callVL (As := [.long r30]) (rest := [.int a1, .ref (ad 151)]) cx hw hA (t_X8_firstOf l G ad r30 μ29 gr32) sh_30 rfl ml_X6_137 im_X8_firstOf se_X8_firstOf in_X8 co_X8_firstOf rfl hd_X8_firstOf rfl ⟨(Nat.le_of_ble_eq_true rfl), (Nat.le_of_ble_eq_true rfl)⟩ hl.1 rfl (Nat.le_of_ble_eq_true rfl) dX6_step_173 ⟨rfl, rfl⟩ (fun H locs hw => ?_)
    obtain ⟨μ33, gμ33, h⟩ := bw_some h
    refine g_callVV (As := [.int a1, .long r32]) (rest := []) cx hw hA (t_X6_goOn l G ad a1 r32 μ31 gμ33) sh_151 rfl ml_X6_123 im_X6_goOn se_X6_goOn in_X6 co_X6_goOn rfl hd_X6_goOn rfl ⟨(Nat.le_of_ble_eq_true rfl), (Nat.le_of_ble_eq_true rfl)⟩ hl.1 rfl (Nat.le_of_ble_eq_true rfl) dX6_step_176 ⟨rfl, rfl⟩ (fun H locs hw => ?_)
    refine lv_goto (tgt := 324) hx hb dX6_step_179 (by decide) ?_
    exact g_vret cx hr hlk hw h dX6_step_324
  rw [if_neg c28] at h
  by_cases c35 : r4 = (5 : Int32)
  · rw [if_pos c35] at h
    have z9 := ev5.trans c35
    subst z9
    refine lv_tableIn (tgt := 182) hx hb dX6_step_19 (by decide +kernel) (by decide +kernel) rfl (by decide) ?_
    refine lv_aload_n hx hb dX6_step_182 rfl (lv_at hl 1 rfl) ?_
    refine lv_iload_n hx hb dX6_step_183 rfl (lv_at hl 2 rfl) ?_
    refine lv_aload_n hx hb dX6_step_184 rfl (lv_at hl 1 rfl) ?_
    refine g_get cx hw inX6 (ci := 5) rfl 0 (by decide) rfl sh_151 rfl fl_X6_13 dX6_step_185 ?_
    refine lv_aload_n hx hb dX6_step_188 rfl (lv_at hl 1 rfl) ?_
    refine lv_iload_n hx hb dX6_step_189 rfl (lv_at hl 2 rfl) ?_
    refine lv_iconst (v := 0) hx hb dX6_step_190 (by decide) ?_
    obtain ⟨r37, μ36, gr37, h⟩ := bd_some h
    refine g_callVL (As := [.int a1, .int 0]) (rest := [.ref (ad 30), .int a1, .ref (ad 151)]) cx hw hA (t_X6_operand l G ad a1 (0 : Int32) μ3 gr37) sh_151 rfl ml_X6_105 im_X6_operand se_X6_operand in_X6 co_X6_operand rfl hd_X6_operand rfl ⟨(Nat.le_of_ble_eq_true rfl), (Nat.le_of_ble_eq_true rfl)⟩ hl.1 rfl (Nat.le_of_ble_eq_true rfl) dX6_step_191 ⟨rfl, rfl⟩ (fun H locs hw => ?_)
    obtain ⟨r39, μ38, gr39, h⟩ := bd_some h
    refine g_callVL (As := [.long r37]) (rest := [.int a1, .ref (ad 151)]) cx hw hA (t_X8_secondOf l G ad r37 μ36 gr39) sh_30 rfl ml_X6_139 im_X8_secondOf se_X8_secondOf in_X8 co_X8_secondOf rfl hd_X8_secondOf rfl ⟨(Nat.le_of_ble_eq_true rfl), (Nat.le_of_ble_eq_true rfl)⟩ hl.1 rfl (Nat.le_of_ble_eq_true rfl) dX6_step_194 ⟨rfl, rfl⟩ (fun H locs hw => ?_)
    obtain ⟨μ40, gμ40, h⟩ := bw_some h
    refine g_callVV (As := [.int a1, .long r39]) (rest := []) cx hw hA (t_X6_goOn l G ad a1 r39 μ38 gμ40) sh_151 rfl ml_X6_123 im_X6_goOn se_X6_goOn in_X6 co_X6_goOn rfl hd_X6_goOn rfl ⟨(Nat.le_of_ble_eq_true rfl), (Nat.le_of_ble_eq_true rfl)⟩ hl.1 rfl (Nat.le_of_ble_eq_true rfl) dX6_step_197 ⟨rfl, rfl⟩ (fun H locs hw => ?_)
    refine lv_goto (tgt := 324) hx hb dX6_step_200 (by decide) ?_
    exact g_vret cx hr hlk hw h dX6_step_324
  rw [if_neg c35] at h
  by_cases c42 : r4 = (6 : Int32)
  · rw [if_pos c42] at h
    have z9 := ev5.trans c42
    subst z9
    refine lv_tableIn (tgt := 203) hx hb dX6_step_19 (by decide +kernel) (by decide +kernel) rfl (by decide) ?_
    refine lv_aload_n hx hb dX6_step_203 rfl (lv_at hl 1 rfl) ?_
    refine lv_aload_n hx hb dX6_step_204 rfl (lv_at hl 1 rfl) ?_
    refine g_get cx hw inX6 (ci := 5) rfl 7 (by decide) rfl sh_151 rfl fl_X6_33 dX6_step_205 ?_
    refine lv_iload_n hx hb dX6_step_208 rfl (lv_at hl 2 rfl) ?_
    refine lv_aload_n hx hb dX6_step_209 rfl (lv_at hl 1 rfl) ?_
    refine lv_iload_n hx hb dX6_step_210 rfl (lv_at hl 2 rfl) ?_
    refine lv_iconst (v := 0) hx hb dX6_step_211 (by decide) ?_
    obtain ⟨r44, μ43, gr44, h⟩ := bd_some h
    refine g_callVL (As := [.int a1, .int 0]) (rest := [.int a1, .ref (ad 39), .ref (ad 151)]) cx hw hA (t_X6_num l G ad a1 (0 : Int32) μ3 gr44) sh_151 rfl ml_X6_127 im_X6_num se_X6_num in_X6 co_X6_num rfl hd_X6_num rfl ⟨(Nat.le_of_ble_eq_true rfl), (Nat.le_of_ble_eq_true rfl)⟩ hl.1 rfl (Nat.le_of_ble_eq_true rfl) dX6_step_212 ⟨rfl, rfl⟩ (fun H locs hw => ?_)
    refine s_callI (As := [.long r44]) (rest := [.int a1, .ref (ad 39), .ref (ad 151)]) cx hw hA (t_X0_isTrue l G r44) ml_X6_142 st_X0_isTrue in_X0 co_X0_isTrue hd_X0_isTrue rfl ⟨(Nat.le_of_ble_eq_true rfl), (Nat.le_of_ble_eq_true rfl)⟩ hl.1 rfl (Nat.le_of_ble_eq_true rfl) dX6_step_215 rfl (fun H locs hw => ?_)
    refine lv_if_eq (tgt := 225) hx hb dX6_step_218 (by decide) (fun c45 => ?_) (fun c45 => ?_)
    · rw [if_pos c45] at h
      refine lv_iconst (v := 4) hx hb dX6_step_225 (by decide) ?_
      obtain ⟨r47, μ46, gr47, h⟩ := bd_some h
      refine g_callVI (As := [.int a1, .int 4]) (rest := [.ref (ad 151)]) cx hw hA (t_X5_cell l G ad a1 (4 : Int32) μ43 gr47) sh_39 rfl ml_X6_117 im_X5_cell se_X5_cell in_X5 co_X5_cell rfl hd_X5_cell rfl ⟨(Nat.le_of_ble_eq_true rfl), (Nat.le_of_ble_eq_true rfl)⟩ hl.1 rfl (Nat.le_of_ble_eq_true rfl) dX6_step_226 ⟨rfl, rfl⟩ (fun H locs hw => ?_)
      obtain ⟨μ48, gμ48, h⟩ := bw_some h
      refine g_callVV (As := [.int r47]) (rest := []) cx hw hA (t_X6_enter l G ad r47 μ46 gμ48) sh_151 rfl ml_X6_70 im_X6_enter se_X6_enter in_X6 co_X6_enter rfl hd_X6_enter rfl ⟨(Nat.le_of_ble_eq_true rfl), (Nat.le_of_ble_eq_true rfl)⟩ hl.1 rfl (Nat.le_of_ble_eq_true rfl) dX6_step_229 ⟨rfl, rfl⟩ (fun H locs hw => ?_)
      refine lv_goto (tgt := 324) hx hb dX6_step_232 (by decide) ?_
      exact g_vret cx hr hlk hw h dX6_step_324
    · rw [if_neg c45] at h
      refine lv_iconst (v := 3) hx hb dX6_step_221 (by decide) ?_
      refine lv_goto (tgt := 226) hx hb dX6_step_222 (by decide) ?_
      obtain ⟨r51, μ50, gr51, h⟩ := bd_some h
      refine g_callVI (As := [.int a1, .int 3]) (rest := [.ref (ad 151)]) cx hw hA (t_X5_cell l G ad a1 (3 : Int32) μ43 gr51) sh_39 rfl ml_X6_117 im_X5_cell se_X5_cell in_X5 co_X5_cell rfl hd_X5_cell rfl ⟨(Nat.le_of_ble_eq_true rfl), (Nat.le_of_ble_eq_true rfl)⟩ hl.1 rfl (Nat.le_of_ble_eq_true rfl) dX6_step_226 ⟨rfl, rfl⟩ (fun H locs hw => ?_)
      obtain ⟨μ52, gμ52, h⟩ := bw_some h
      refine g_callVV (As := [.int r51]) (rest := []) cx hw hA (t_X6_enter l G ad r51 μ50 gμ52) sh_151 rfl ml_X6_70 im_X6_enter se_X6_enter in_X6 co_X6_enter rfl hd_X6_enter rfl ⟨(Nat.le_of_ble_eq_true rfl), (Nat.le_of_ble_eq_true rfl)⟩ hl.1 rfl (Nat.le_of_ble_eq_true rfl) dX6_step_229 ⟨rfl, rfl⟩ (fun H locs hw => ?_)
      refine lv_goto (tgt := 324) hx hb dX6_step_232 (by decide) ?_
      exact g_vret cx hr hlk hw h dX6_step_324
  rw [if_neg c42] at h
  by_cases c54 : r4 = (7 : Int32)
  · rw [if_pos c54] at h
    have z9 := ev5.trans c54
    subst z9
    refine lv_tableIn (tgt := 235) hx hb dX6_step_19 (by decide +kernel) (by decide +kernel) rfl (by decide) ?_
    refine lv_aload_n hx hb dX6_step_235 rfl (lv_at hl 1 rfl) ?_
    refine g_get cx hw inX6 (ci := 5) rfl 8 (by decide) rfl sh_151 rfl fl_X6_37 dX6_step_236 ?_
    refine lv_aload_n hx hb dX6_step_239 rfl (lv_at hl 1 rfl) ?_
    refine lv_iload_n hx hb dX6_step_240 rfl (lv_at hl 2 rfl) ?_
    refine lv_iconst (v := 0) hx hb dX6_step_241 (by decide) ?_
    obtain ⟨r56, μ55, gr56, h⟩ := bd_some h
    refine g_callVL (As := [.int a1, .int 0]) (rest := [.ref (ad (sel 0 (μ3.2.2 151 8)))]) cx hw hA (t_X6_num l G ad a1 (0 : Int32) μ3 gr56) sh_151 rfl ml_X6_127 im_X6_num se_X6_num in_X6 co_X6_num rfl hd_X6_num rfl ⟨(Nat.le_of_ble_eq_true rfl), (Nat.le_of_ble_eq_true rfl)⟩ hl.1 rfl (Nat.le_of_ble_eq_true rfl) dX6_step_242 ⟨rfl, rfl⟩ (fun H locs hw => ?_)
    obtain ⟨μ57, gμ57, h⟩ := bw_some h
    refine g_callVV (As := [.long r56]) (rest := []) cx hw hA (t_X1_writeOut l G ad (sel 0 (μ3.2.2 151 8)) (sel_0 _) r56 μ55 gμ57) (sel_0 _) rfl ml_X6_146 im_X1_writeOut se_X1_writeOut in_X1 co_X1_writeOut rfl hd_X1_writeOut rfl ⟨(Nat.le_of_ble_eq_true rfl), (Nat.le_of_ble_eq_true rfl)⟩ hl.1 rfl (Nat.le_of_ble_eq_true rfl) dX6_step_245 ⟨rfl, rfl⟩ (fun H locs hw => ?_)
    refine lv_aload_n hx hb dX6_step_248 rfl (lv_at hl 1 rfl) ?_
    refine lv_iload_n hx hb dX6_step_249 rfl (lv_at hl 2 rfl) ?_
    refine lv_lconst (v := 0) hx hb dX6_step_250 (by decide) ?_
    obtain ⟨μ59, gμ59, h⟩ := bw_some h
    refine g_callVV (As := [.int a1, .long 0]) (rest := []) cx hw hA (t_X6_goOn l G ad a1 (0 : Int64) μ57 gμ59) sh_151 rfl ml_X6_123 im_X6_goOn se_X6_goOn in_X6 co_X6_goOn rfl hd_X6_goOn rfl ⟨(Nat.le_of_ble_eq_true rfl), (Nat.le_of_ble_eq_true rfl)⟩ hl.1 rfl (Nat.le_of_ble_eq_true rfl) dX6_step_251 ⟨rfl, rfl⟩ (fun H locs hw => ?_)
    refine lv_goto (tgt := 324) hx hb dX6_step_254 (by decide) ?_
    exact g_vret cx hr hlk hw h dX6_step_324
  rw [if_neg c54] at h
  by_cases c61 : r4 = (8 : Int32)
  · rw [if_pos c61] at h
    have z9 := ev5.trans c61
    subst z9
    refine lv_tableIn (tgt := 257) hx hb dX6_step_19 (by decide +kernel) (by decide +kernel) rfl (by decide) ?_
    refine lv_aload_n hx hb dX6_step_257 rfl (lv_at hl 1 rfl) ?_
    refine lv_iload_n hx hb dX6_step_258 rfl (lv_at hl 2 rfl) ?_
    refine lv_aload_n hx hb dX6_step_259 rfl (lv_at hl 1 rfl) ?_
    refine g_get cx hw inX6 (ci := 5) rfl 8 (by decide) rfl sh_151 rfl fl_X6_37 dX6_step_260 ?_
    refine lv_iload_n hx hb dX6_step_263 rfl (lv_at hl 0 rfl) ?_
    refine lv_iload_n hx hb dX6_step_264 rfl (lv_at hl 0 rfl) ?_
    refine lv_aload_n hx hb dX6_step_265 rfl (lv_at hl 1 rfl) ?_
    refine lv_iload_n hx hb dX6_step_266 rfl (lv_at hl 2 rfl) ?_
    refine lv_iconst (v := 0) hx hb dX6_step_267 (by decide) ?_
    obtain ⟨r63, μ62, gr63, h⟩ := bd_some h
    refine g_callVL (As := [.int a1, .int 0]) (rest := [.int r2, .int r2, .ref (ad (sel 0 (μ3.2.2 151 8))), .int a1, .ref (ad 151)]) cx hw hA (t_X6_num l G ad a1 (0 : Int32) μ3 gr63) sh_151 rfl ml_X6_127 im_X6_num se_X6_num in_X6 co_X6_num rfl hd_X6_num rfl ⟨(Nat.le_of_ble_eq_true rfl), (Nat.le_of_ble_eq_true rfl)⟩ hl.1 rfl (Nat.le_of_ble_eq_true rfl) dX6_step_268 ⟨rfl, rfl⟩ (fun H locs hw => ?_)
    refine s_callL (As := [.int r2, .long r63]) (rest := [.int r2, .ref (ad (sel 0 (μ3.2.2 151 8))), .int a1, .ref (ad 151)]) cx hw hA (t_X0_stored l G r2 r63) ml_X6_150 st_X0_stored in_X0 co_X0_stored hd_X0_stored rfl ⟨(Nat.le_of_ble_eq_true rfl), (Nat.le_of_ble_eq_true rfl)⟩ hl.1 rfl (Nat.le_of_ble_eq_true rfl) dX6_step_271 rfl (fun H locs hw => ?_)
    obtain ⟨r65, μ64, gr65, h⟩ := bd_some h
    refine g_callVL (As := [.int r2, .long (s_X0_stored r2 r63)]) (rest := [.int a1, .ref (ad 151)]) cx hw hA (t_X1_put l G ad (sel 0 (μ3.2.2 151 8)) (sel_0 _) r2 (s_X0_stored r2 r63) μ62 gr65) (sel_0 _) rfl ml_X6_153 im_X1_put se_X1_put in_X1 co_X1_put rfl hd_X1_put rfl ⟨(Nat.le_of_ble_eq_true rfl), (Nat.le_of_ble_eq_true rfl)⟩ hl.1 rfl (Nat.le_of_ble_eq_true rfl) dX6_step_274 ⟨rfl, rfl⟩ (fun H locs hw => ?_)
    obtain ⟨μ66, gμ66, h⟩ := bw_some h
    refine g_callVV (As := [.int a1, .long r65]) (rest := []) cx hw hA (t_X6_goOn l G ad a1 r65 μ64 gμ66) sh_151 rfl ml_X6_123 im_X6_goOn se_X6_goOn in_X6 co_X6_goOn rfl hd_X6_goOn rfl ⟨(Nat.le_of_ble_eq_true rfl), (Nat.le_of_ble_eq_true rfl)⟩ hl.1 rfl (Nat.le_of_ble_eq_true rfl) dX6_step_277 ⟨rfl, rfl⟩ (fun H locs hw => ?_)
    refine lv_goto (tgt := 324) hx hb dX6_step_280 (by decide) ?_
    exact g_vret cx hr hlk hw h dX6_step_324
  rw [if_neg c61] at h
  by_cases c68 : r4 = (9 : Int32)
  · rw [if_pos c68] at h
    have z9 := ev5.trans c68
    subst z9
    refine lv_tableIn (tgt := 283) hx hb dX6_step_19 (by decide +kernel) (by decide +kernel) rfl (by decide) ?_
    refine lv_aload_n hx hb dX6_step_283 rfl (lv_at hl 1 rfl) ?_
    refine lv_iload_n hx hb dX6_step_284 rfl (lv_at hl 2 rfl) ?_
    refine lv_aload_n hx hb dX6_step_285 rfl (lv_at hl 1 rfl) ?_
    refine g_get cx hw inX6 (ci := 5) rfl 8 (by decide) rfl sh_151 rfl fl_X6_37 dX6_step_286 ?_
    refine lv_iload_n hx hb dX6_step_289 rfl (lv_at hl 0 rfl) ?_
    obtain ⟨r70, μ69, gr70, h⟩ := bd_some h
    refine g_callVL (As := [.int r2]) (rest := [.int a1, .ref (ad 151)]) cx hw hA (t_X1_get l G ad (sel 0 (μ3.2.2 151 8)) (sel_0 _) r2 μ3 gr70) (sel_0 _) rfl ml_X6_156 im_X1_get se_X1_get in_X1 co_X1_get rfl hd_X1_get rfl ⟨(Nat.le_of_ble_eq_true rfl), (Nat.le_of_ble_eq_true rfl)⟩ hl.1 rfl (Nat.le_of_ble_eq_true rfl) dX6_step_290 ⟨rfl, rfl⟩ (fun H locs hw => ?_)
    obtain ⟨μ71, gμ71, h⟩ := bw_some h
    refine g_callVV (As := [.int a1, .long r70]) (rest := []) cx hw hA (t_X6_goOn l G ad a1 r70 μ69 gμ71) sh_151 rfl ml_X6_123 im_X6_goOn se_X6_goOn in_X6 co_X6_goOn rfl hd_X6_goOn rfl ⟨(Nat.le_of_ble_eq_true rfl), (Nat.le_of_ble_eq_true rfl)⟩ hl.1 rfl (Nat.le_of_ble_eq_true rfl) dX6_step_293 ⟨rfl, rfl⟩ (fun H locs hw => ?_)
    refine lv_goto (tgt := 324) hx hb dX6_step_296 (by decide) ?_
    exact g_vret cx hr hlk hw h dX6_step_324
  rw [if_neg c68] at h
  by_cases c73 : r4 = (10 : Int32)
  · rw [if_pos c73] at h
    have z9 := ev5.trans c73
    subst z9
    refine lv_tableIn (tgt := 299) hx hb dX6_step_19 (by decide +kernel) (by decide +kernel) rfl (by decide) ?_
    refine lv_aload_n hx hb dX6_step_299 rfl (lv_at hl 1 rfl) ?_
    refine lv_iload_n hx hb dX6_step_300 rfl (lv_at hl 2 rfl) ?_
    obtain ⟨μ74, gμ74, h⟩ := bw_some h
    refine g_callVV (As := [.int a1]) (rest := []) cx hw hA (t_X6_makePair l G ad a1 μ3 gμ74) sh_151 rfl ml_X6_159 im_X6_makePair se_X6_makePair in_X6 co_X6_makePair rfl hd_X6_makePair rfl ⟨(Nat.le_of_ble_eq_true rfl), (Nat.le_of_ble_eq_true rfl)⟩ hl.1 rfl (Nat.le_of_ble_eq_true rfl) dX6_step_301 ⟨rfl, rfl⟩ (fun H locs hw => ?_)
    refine lv_goto (tgt := 324) hx hb dX6_step_304 (by decide) ?_
    exact g_vret cx hr hlk hw h dX6_step_324
  rw [if_neg c73] at h
  by_cases c76 : r4 = (11 : Int32)
  · rw [if_pos c76] at h
    have z9 := ev5.trans c76
    subst z9
    refine lv_tableIn (tgt := 307) hx hb dX6_step_19 (by decide +kernel) (by decide +kernel) rfl (by decide) ?_
    refine lv_aload_n hx hb dX6_step_307 rfl (lv_at hl 1 rfl) ?_
    refine lv_iload_n hx hb dX6_step_308 rfl (lv_at hl 2 rfl) ?_
    refine lv_iload_n hx hb dX6_step_309 rfl (lv_at hl 0 rfl) ?_
    obtain ⟨μ77, gμ77, h⟩ := bw_some h
    refine g_callVV (As := [.int a1, .int r2]) (rest := []) cx hw hA (t_X6_call l G ad a1 r2 μ3 gμ77) sh_151 rfl ml_X6_162 im_X6_call se_X6_call in_X6 co_X6_call rfl hd_X6_call rfl ⟨(Nat.le_of_ble_eq_true rfl), (Nat.le_of_ble_eq_true rfl)⟩ hl.1 rfl (Nat.le_of_ble_eq_true rfl) dX6_step_310 ⟨rfl, rfl⟩ (fun H locs hw => ?_)
    refine lv_goto (tgt := 324) hx hb dX6_step_313 (by decide) ?_
    exact g_vret cx hr hlk hw h dX6_step_324
  rw [if_neg c76] at h
  subst ev5
  refine lv_tableOut (tgt := 316) hx hb dX6_step_19 (sw_out (L := [(0 : Int32), (1 : Int32), (2 : Int32), (3 : Int32), (4 : Int32), (5 : Int32), (6 : Int32), (7 : Int32), (8 : Int32), (9 : Int32), (10 : Int32), (11 : Int32)]) (by decide +kernel) (by simp only [List.forall_mem_cons]; exact ⟨c6, c13, c18, c23, c28, c35, c42, c54, c61, c68, c73, c76, fun _ q => absurd q List.not_mem_nil⟩)) (by decide) ?_
  refine lv_aload_n hx hb dX6_step_316 rfl (lv_at hl 1 rfl) ?_
  refine g_get cx hw inX6 (ci := 5) rfl 8 (by decide) rfl sh_151 rfl fl_X6_37 dX6_step_317 ?_
  refine lv_iconst (v := 4) hx hb dX6_step_320 (by decide) ?_
  refine g_put cx hw inX1 (ci := 0) rfl tyX1_ok nmX1 0 (by decide) rfl rfl rfl rfl (sel_0 _) h fl_X6_166 dX6_step_321 (fun μ79 H locs h hw => ?_)
  exact g_vret cx hr hlk hw h dX6_step_324

theorem p_X6_runResidue_b166_ex : ∃ f : (Int32 → Mem → Option Mem) → Int32 → Mem → Option Mem, ∀ (K109 : Int32 → Mem → Option Mem) (a5 : Int32) (μ : Mem), f K109 a5 μ = bv (a5 + 1) (fun v27 => K109 v27 μ) := ⟨fun (K109 : Int32 → Mem → Option Mem) (a5 : Int32) (μ : Mem) => bv (a5 + 1) (fun v27 => K109 v27 μ), fun _ _ _ => rfl⟩
noncomputable def p_X6_runResidue_b166 : (Int32 → Mem → Option Mem) → Int32 → Mem → Option Mem := Classical.choose p_X6_runResidue_b166_ex
theorem p_X6_runResidue_b166_eq (K109 : Int32 → Mem → Option Mem) (a5 : Int32) (μ : Mem) : p_X6_runResidue_b166 K109 a5 μ = bv (a5 + 1) (fun v27 => K109 v27 μ) := Classical.choose_spec p_X6_runResidue_b166_ex K109 a5 μ
set_option maxHeartbeats 4000000 in
set_option maxRecDepth 100000 in
theorem t_X6_runResidue_b166 (l : Launch) (G : Gt) (ad : Nat → Nat) (av : List Value) {μz : Mem} (K109 : Int32 → Mem → Option Mem) (hK109 : ∀ (z5 : Int32) (μ1 : Mem), K109 z5 μ1 = some μz → Bk l cX6_runResidue 7 RX6 none ({ frames := 6, cells := 0, slots := 0, locals := 157 } : Room) G av (eV G ad μz) (wd G ad μ1) 109 [(0, .ref (ad 151)), (5, .int z5)] []) (a5 : Int32) (μ : Mem) (h : p_X6_runResidue_b166 K109 a5 μ = some μz) : Bk l cX6_runResidue 7 RX6 none ({ frames := 6, cells := 0, slots := 0, locals := 157 } : Room) G av (eV G ad μz) (wd G ad μ) 166 [(0, .ref (ad 151)), (5, .int a5)] [] := by
  intro p e s m below meth c A ls H locs cx hr hlk hA hl hw
  have hx := cx.1
  have hb := cx.2.1
  rw [p_X6_runResidue_b166_eq] at h
  obtain ⟨v27, ev27, h⟩ := bv_ex h
  refine lv_iinc (v := v27) (lv' := [(5, .int v27), (0, .ref (ad 151))]) hx hb dX6_runResidue_166 hl (k := 1) rfl (by rw [ev27]; rfl) (by decide) rfl (fun ls hl => ?_)
  refine lv_goto (tgt := 109) hx hb dX6_runResidue_169 (by decide) ?_
  exact hK109 v27 μ h p e s m below meth c A ls H locs cx hr hlk hA (lv_sub hl [1, 0] rfl) hw
theorem p_X6_runResidue_b109_ex : ∃ f : Nat → Int32 → Mem → Option Mem, (∀ (a5 : Int32) (μ : Mem), f  0 a5 μ = none) ∧ (∀ (n : Nat) (a5 : Int32) (μ : Mem), f  (n + 1) a5 μ = (if (1000000 : Int32) ≤ a5 then some μ else (if (μ.1 151 5) < (1 : Int32) then some μ else bd (p_X1_isRunning (sel 0 (μ.2.2 151 8)) μ) (fun r21 μ20 => (if r21 = (0 : Int32) then some μ20 else gd (inb ((μ20.1 151 5) - (1 : Int32)) 744) (bv (μ20.1 155 ((μ20.1 151 5) - (1 : Int32)).toNatClampNeg) (fun v23 => (if v23 = (-1 : Int32) then bw (p_X6_endBlock μ20) (fun μ28 => p_X6_runResidue_b166 (f n) a5 μ28) else bw (p_X6_step v23 μ20) (fun μ25 => p_X6_runResidue_b166 (f n) a5 μ25))))))))) := ⟨fun n => Nat.rec (fun (a5 : Int32) (μ : Mem) => none) (fun _ ih => fun (a5 : Int32) (μ : Mem) => (if (1000000 : Int32) ≤ a5 then some μ else (if (μ.1 151 5) < (1 : Int32) then some μ else bd (p_X1_isRunning (sel 0 (μ.2.2 151 8)) μ) (fun r21 μ20 => (if r21 = (0 : Int32) then some μ20 else gd (inb ((μ20.1 151 5) - (1 : Int32)) 744) (bv (μ20.1 155 ((μ20.1 151 5) - (1 : Int32)).toNatClampNeg) (fun v23 => (if v23 = (-1 : Int32) then bw (p_X6_endBlock μ20) (fun μ28 => p_X6_runResidue_b166 (ih) a5 μ28) else bw (p_X6_step v23 μ20) (fun μ25 => p_X6_runResidue_b166 (ih) a5 μ25))))))))) n, fun  _ _ => rfl, fun  _ _ _ => rfl⟩
noncomputable def p_X6_runResidue_b109 : Nat → Int32 → Mem → Option Mem := Classical.choose p_X6_runResidue_b109_ex
theorem p_X6_runResidue_b109_z (a5 : Int32) (μ : Mem) : p_X6_runResidue_b109  0 a5 μ = none := (Classical.choose_spec p_X6_runResidue_b109_ex).1  a5 μ
theorem p_X6_runResidue_b109_s (n : Nat) (a5 : Int32) (μ : Mem) : p_X6_runResidue_b109  (n + 1) a5 μ = (if (1000000 : Int32) ≤ a5 then some μ else (if (μ.1 151 5) < (1 : Int32) then some μ else bd (p_X1_isRunning (sel 0 (μ.2.2 151 8)) μ) (fun r21 μ20 => (if r21 = (0 : Int32) then some μ20 else gd (inb ((μ20.1 151 5) - (1 : Int32)) 744) (bv (μ20.1 155 ((μ20.1 151 5) - (1 : Int32)).toNatClampNeg) (fun v23 => (if v23 = (-1 : Int32) then bw (p_X6_endBlock μ20) (fun μ28 => p_X6_runResidue_b166 (p_X6_runResidue_b109  n) a5 μ28) else bw (p_X6_step v23 μ20) (fun μ25 => p_X6_runResidue_b166 (p_X6_runResidue_b109  n) a5 μ25)))))))) := (Classical.choose_spec p_X6_runResidue_b109_ex).2  n a5 μ
set_option maxHeartbeats 4000000 in
set_option maxRecDepth 100000 in
theorem t_X6_runResidue_b109 (l : Launch) (G : Gt) (ad : Nat → Nat) (av : List Value) {μz : Mem} : ∀ (n : Nat) (a5 : Int32) (μ : Mem), p_X6_runResidue_b109  n a5 μ = some μz → Bk l cX6_runResidue 7 RX6 none ({ frames := 6, cells := 0, slots := 0, locals := 157 } : Room) G av (eV G ad μz) (wd G ad μ) 109 [(0, .ref (ad 151)), (5, .int a5)] [] := by
  intro n
  induction n with
  | zero => intro a5 μ h; rw [p_X6_runResidue_b109_z] at h; cases h
  | succ n ih =>
    intro a5 μ h p e s m below meth c A ls H locs cx hr hlk hA hl hw
    have hx := cx.1
    have hb := cx.2.1
    rw [p_X6_runResidue_b109_s] at h
    refine lv_iload hx hb dX6_runResidue_109 (lv_at hl 1 rfl) ?_
    refine lv_ldc hx hb cx.2.2.2.1 (cx.2.2.2.2.1 _ cs_X6_74) dX6_runResidue_111 ?_
    refine lv_icmp_ge (tgt := 172) hx hb dX6_runResidue_113 (by decide) (fun c18 => ?_) (fun c18 => ?_)
    · rw [if_pos c18] at h
      exact g_vret cx hr hlk hw h dX6_runResidue_172
    · rw [if_neg c18] at h
      refine lv_aload_n hx hb dX6_runResidue_116 rfl (lv_at hl 0 rfl) ?_
      refine g_get cx hw inX6 (ci := 5) rfl 5 (by decide) rfl sh_151 rfl fl_X6_41 dX6_runResidue_117 ?_
      refine lv_iconst (v := 1) hx hb dX6_runResidue_120 (by decide) ?_
      refine lv_icmp_lt (tgt := 172) hx hb dX6_runResidue_121 (by decide) (fun c19 => ?_) (fun c19 => ?_)
      · rw [if_pos c19] at h
        exact g_vret cx hr hlk hw h dX6_runResidue_172
      · rw [if_neg c19] at h
        refine lv_aload_n hx hb dX6_runResidue_124 rfl (lv_at hl 0 rfl) ?_
        refine g_get cx hw inX6 (ci := 5) rfl 8 (by decide) rfl sh_151 rfl fl_X6_37 dX6_runResidue_125 ?_
        obtain ⟨r21, μ20, gr21, h⟩ := bd_some h
        refine g_callVI (As := []) (rest := []) cx hw hA (t_X1_isRunning l G ad (sel 0 (μ.2.2 151 8)) (sel_0 _) μ gr21) (sel_0 _) rfl ml_X6_75 im_X1_isRunning se_X1_isRunning in_X1 co_X1_isRunning rfl hd_X1_isRunning rfl ⟨(Nat.le_of_ble_eq_true rfl), (Nat.le_of_ble_eq_true rfl)⟩ hl.1 rfl (Nat.le_of_ble_eq_true rfl) dX6_runResidue_128 ⟨rfl, rfl⟩ (fun H locs hw => ?_)
        refine lv_if_eq (tgt := 172) hx hb dX6_runResidue_131 (by decide) (fun c22 => ?_) (fun c22 => ?_)
        · rw [if_pos c22] at h
          exact g_vret cx hr hlk hw h dX6_runResidue_172
        · rw [if_neg c22] at h
          refine lv_aload_n hx hb dX6_runResidue_134 rfl (lv_at hl 0 rfl) ?_
          refine g_get cx hw inX6 (ci := 5) rfl 4 (by decide) rfl sh_151 rfl fl_X6_30 dX6_runResidue_135 ?_
          refine lv_aload_n hx hb dX6_runResidue_138 rfl (lv_at hl 0 rfl) ?_
          refine g_get cx hw inX6 (ci := 5) rfl 5 (by decide) rfl sh_151 rfl fl_X6_41 dX6_runResidue_139 ?_
          refine lv_iconst (v := 1) hx hb dX6_runResidue_142 (by decide) ?_
          refine lv_isub hx hb dX6_runResidue_143 ?_
          refine g_iald cx hw sh_155 h dX6_runResidue_144 (fun h => ?_)
          obtain ⟨v23, ev23, h⟩ := bv_ex h
          refine lv_topi (fun y9 z9 => ?_)
          obtain rfl : y9 = v23 := z9.trans ev23.symm
          refine lv_istore (lv' := [(6, .int v23), (0, .ref (ad 151)), (5, .int a5)]) hx hb dX6_runResidue_145 hl (by decide) rfl (fun ls hl => ?_)
          refine lv_iload hx hb dX6_runResidue_147 (lv_at hl 0 rfl) ?_
          refine lv_iconst (v := (-1)) hx hb dX6_runResidue_149 (by decide) ?_
          refine lv_icmp_ne (tgt := 160) hx hb dX6_runResidue_150 (by decide) (fun c24 => ?_) (fun c24 => ?_)
          · rw [if_neg c24] at h
            refine lv_aload_n hx hb dX6_runResidue_160 rfl (lv_at hl 1 rfl) ?_
            refine lv_iload hx hb dX6_runResidue_161 (lv_at hl 0 rfl) ?_
            obtain ⟨μ25, gμ25, h⟩ := bw_some h
            refine g_callVV (As := [.int v23]) (rest := []) cx hw hA (t_X6_step l G ad v23 μ20 gμ25) sh_151 rfl ml_X6_81 im_X6_step se_X6_step in_X6 co_X6_step rfl hd_X6_step rfl ⟨(Nat.le_of_ble_eq_true rfl), (Nat.le_of_ble_eq_true rfl)⟩ hl.1 rfl (Nat.le_of_ble_eq_true rfl) dX6_runResidue_163 ⟨rfl, rfl⟩ (fun H locs hw => ?_)
            exact t_X6_runResidue_b166 l G ad av _ ih a5 μ25 h p e s m below meth c A ls H locs cx hr hlk hA (lv_sub hl [1, 2] rfl) hw
          · rw [if_pos c24] at h
            refine lv_aload_n hx hb dX6_runResidue_153 rfl (lv_at hl 1 rfl) ?_
            obtain ⟨μ28, gμ28, h⟩ := bw_some h
            refine g_callVV (As := []) (rest := []) cx hw hA (t_X6_endBlock l G ad μ20 gμ28) sh_151 rfl ml_X6_78 im_X6_endBlock se_X6_endBlock in_X6 co_X6_endBlock rfl hd_X6_endBlock rfl ⟨(Nat.le_of_ble_eq_true rfl), (Nat.le_of_ble_eq_true rfl)⟩ hl.1 rfl (Nat.le_of_ble_eq_true rfl) dX6_runResidue_154 ⟨rfl, rfl⟩ (fun H locs hw => ?_)
            refine lv_goto (tgt := 166) hx hb dX6_runResidue_157 (by decide) ?_
            exact t_X6_runResidue_b166 l G ad av _ ih a5 μ28 h p e s m below meth c A ls H locs cx hr hlk hA (lv_sub hl [1, 2] rfl) hw
theorem p_X6_runResidue_b63_ex : ∃ f : Nat → Int32 → Int32 → Mem → Option Mem, (∀ (a4 : Int32) (a5 : Int32) (μ : Mem), f  0 a4 a5 μ = none) ∧ (∀ (n : Nat) (a4 : Int32) (a5 : Int32) (μ : Mem), f  (n + 1) a4 a5 μ = (if a4 ≤ a5 then bd (p_X5_ofVariant (0 : Int32) (3 : Int32) μ) (fun r15 μ14 => bw (p_X6_enter r15 μ14) (fun μ16 => p_X6_runResidue_b109  FUEL (0 : Int32) μ16)) else gd (inb a5 8) (bw (p_X6_setRegister (μ.1 151 6) a5 (μ.2.1 153 a5.toNatClampNeg) μ) (fun μ30 => bv (a5 + 1) (fun v32 => f n a4 v32 μ30))))) := ⟨fun n => Nat.rec (fun (a4 : Int32) (a5 : Int32) (μ : Mem) => none) (fun _ ih => fun (a4 : Int32) (a5 : Int32) (μ : Mem) => (if a4 ≤ a5 then bd (p_X5_ofVariant (0 : Int32) (3 : Int32) μ) (fun r15 μ14 => bw (p_X6_enter r15 μ14) (fun μ16 => p_X6_runResidue_b109  FUEL (0 : Int32) μ16)) else gd (inb a5 8) (bw (p_X6_setRegister (μ.1 151 6) a5 (μ.2.1 153 a5.toNatClampNeg) μ) (fun μ30 => bv (a5 + 1) (fun v32 => ih a4 v32 μ30))))) n, fun  _ _ _ => rfl, fun  _ _ _ _ => rfl⟩
noncomputable def p_X6_runResidue_b63 : Nat → Int32 → Int32 → Mem → Option Mem := Classical.choose p_X6_runResidue_b63_ex
theorem p_X6_runResidue_b63_z (a4 : Int32) (a5 : Int32) (μ : Mem) : p_X6_runResidue_b63  0 a4 a5 μ = none := (Classical.choose_spec p_X6_runResidue_b63_ex).1  a4 a5 μ
theorem p_X6_runResidue_b63_s (n : Nat) (a4 : Int32) (a5 : Int32) (μ : Mem) : p_X6_runResidue_b63  (n + 1) a4 a5 μ = (if a4 ≤ a5 then bd (p_X5_ofVariant (0 : Int32) (3 : Int32) μ) (fun r15 μ14 => bw (p_X6_enter r15 μ14) (fun μ16 => p_X6_runResidue_b109  FUEL (0 : Int32) μ16)) else gd (inb a5 8) (bw (p_X6_setRegister (μ.1 151 6) a5 (μ.2.1 153 a5.toNatClampNeg) μ) (fun μ30 => bv (a5 + 1) (fun v32 => p_X6_runResidue_b63  n a4 v32 μ30)))) := (Classical.choose_spec p_X6_runResidue_b63_ex).2  n a4 a5 μ
set_option maxHeartbeats 4000000 in
set_option maxRecDepth 100000 in
theorem t_X6_runResidue_b63 (l : Launch) (G : Gt) (ad : Nat → Nat) (av : List Value) {μz : Mem} : ∀ (n : Nat) (a4 : Int32) (a5 : Int32) (μ : Mem), p_X6_runResidue_b63  n a4 a5 μ = some μz → Bk l cX6_runResidue 7 RX6 none ({ frames := 6, cells := 0, slots := 0, locals := 157 } : Room) G av (eV G ad μz) (wd G ad μ) 63 [(0, .ref (ad 151)), (4, .int a4), (5, .int a5)] [] := by
  intro n
  induction n with
  | zero => intro a4 a5 μ h; rw [p_X6_runResidue_b63_z] at h; cases h
  | succ n ih =>
    intro a4 a5 μ h p e s m below meth c A ls H locs cx hr hlk hA hl hw
    have hx := cx.1
    have hb := cx.2.1
    rw [p_X6_runResidue_b63_s] at h
    refine lv_iload hx hb dX6_runResidue_63 (lv_at hl 2 rfl) ?_
    refine lv_iload hx hb dX6_runResidue_65 (lv_at hl 1 rfl) ?_
    refine lv_icmp_ge (tgt := 93) hx hb dX6_runResidue_67 (by decide) (fun c13 => ?_) (fun c13 => ?_)
    · rw [if_pos c13] at h
      refine lv_aload_n hx hb dX6_runResidue_93 rfl (lv_at hl 0 rfl) ?_
      refine lv_aload_n hx hb dX6_runResidue_94 rfl (lv_at hl 0 rfl) ?_
      refine g_get cx hw inX6 (ci := 5) rfl 7 (by decide) rfl sh_151 rfl fl_X6_33 dX6_runResidue_95 ?_
      refine lv_iconst (v := 0) hx hb dX6_runResidue_98 (by decide) ?_
      refine lv_iconst (v := 3) hx hb dX6_runResidue_99 (by decide) ?_
      obtain ⟨r15, μ14, gr15, h⟩ := bd_some h
      refine g_callVI (As := [.int 0, .int 3]) (rest := [.ref (ad 151)]) cx hw hA (t_X5_ofVariant l G ad (0 : Int32) (3 : Int32) μ gr15) sh_39 rfl ml_X6_66 im_X5_ofVariant se_X5_ofVariant in_X5 co_X5_ofVariant rfl hd_X5_ofVariant rfl ⟨(Nat.le_of_ble_eq_true rfl), (Nat.le_of_ble_eq_true rfl)⟩ hl.1 rfl (Nat.le_of_ble_eq_true rfl) dX6_runResidue_100 ⟨rfl, rfl⟩ (fun H locs hw => ?_)
      obtain ⟨μ16, gμ16, h⟩ := bw_some h
      refine g_callVV (As := [.int r15]) (rest := []) cx hw hA (t_X6_enter l G ad r15 μ14 gμ16) sh_151 rfl ml_X6_70 im_X6_enter se_X6_enter in_X6 co_X6_enter rfl hd_X6_enter rfl ⟨(Nat.le_of_ble_eq_true rfl), (Nat.le_of_ble_eq_true rfl)⟩ hl.1 rfl (Nat.le_of_ble_eq_true rfl) dX6_runResidue_103 ⟨rfl, rfl⟩ (fun H locs hw => ?_)
      refine lv_iconst (v := 0) hx hb dX6_runResidue_106 (by decide) ?_
      refine lv_istore (lv' := [(5, .int 0), (0, .ref (ad 151)), (4, .int a4)]) hx hb dX6_runResidue_107 hl (by decide) rfl (fun ls hl => ?_)
      exact t_X6_runResidue_b109 l G ad av  FUEL (0 : Int32) μ16 h p e s m below meth c A ls H locs cx hr hlk hA (lv_sub hl [1, 0] rfl) hw
    · rw [if_neg c13] at h
      refine lv_aload_n hx hb dX6_runResidue_70 rfl (lv_at hl 0 rfl) ?_
      refine lv_aload_n hx hb dX6_runResidue_71 rfl (lv_at hl 0 rfl) ?_
      refine g_get cx hw inX6 (ci := 5) rfl 6 (by decide) rfl sh_151 rfl fl_X6_45 dX6_runResidue_72 ?_
      refine lv_iload hx hb dX6_runResidue_75 (lv_at hl 2 rfl) ?_
      refine lv_aload_n hx hb dX6_runResidue_77 rfl (lv_at hl 0 rfl) ?_
      refine g_get cx hw inX6 (ci := 5) rfl 2 (by decide) rfl sh_151 rfl fl_X6_23 dX6_runResidue_78 ?_
      refine lv_iload hx hb dX6_runResidue_81 (lv_at hl 2 rfl) ?_
      refine g_lald cx hw sh_153 h dX6_runResidue_83 (fun h => ?_)
      obtain ⟨μ30, gμ30, h⟩ := bw_some h
      refine g_callVV (As := [.int (μ.1 151 6), .int a5, .long (μ.2.1 153 a5.toNatClampNeg)]) (rest := []) cx hw hA (t_X6_setRegister l G ad (μ.1 151 6) a5 (μ.2.1 153 a5.toNatClampNeg) μ gμ30) sh_151 rfl ml_X6_62 im_X6_setRegister se_X6_setRegister in_X6 co_X6_setRegister rfl hd_X6_setRegister rfl ⟨(Nat.le_of_ble_eq_true rfl), (Nat.le_of_ble_eq_true rfl)⟩ hl.1 rfl (Nat.le_of_ble_eq_true rfl) dX6_runResidue_84 ⟨rfl, rfl⟩ (fun H locs hw => ?_)
      obtain ⟨v32, ev32, h⟩ := bv_ex h
      refine lv_iinc (v := v32) (lv' := [(5, .int v32), (0, .ref (ad 151)), (4, .int a4)]) hx hb dX6_runResidue_87 hl (k := 2) rfl (by rw [ev32]; rfl) (by decide) rfl (fun ls hl => ?_)
      refine lv_goto (tgt := 63) hx hb dX6_runResidue_90 (by decide) ?_
      exact ih a4 v32 μ30 h p e s m below meth c A ls H locs cx hr hlk hA (lv_sub hl [1, 2, 0] rfl) hw
theorem p_X6_runResidue_ex : ∃ f : Nat → Nat → Mem → Option Mem, ∀ (a2 : Nat) (a3 : Nat) (μ : Mem), f a2 a3 μ = bv (sR μ 151 8 a3) (fun μ2 => bw (p_X1_clear (sel 0 (μ2.2.2 151 8)) μ2) (fun μ3 => bw (p_X8_clear μ3) (fun μ5 => bv (sF μ5 151 5 (0 : Int32)) (fun μ7 => bv (sF μ7 151 6 (0 : Int32)) (fun μ8 => bd (p_X8_build a2 153 153 μ8) (fun r10 μ9 => bd (p_X1_beginCall (sel 0 (μ9.2.2 151 8)) μ9) (fun r12 μ11 => p_X6_runResidue_b63  FUEL r10 (0 : Int32) μ11))))))) := ⟨fun (a2 : Nat) (a3 : Nat) (μ : Mem) => bv (sR μ 151 8 a3) (fun μ2 => bw (p_X1_clear (sel 0 (μ2.2.2 151 8)) μ2) (fun μ3 => bw (p_X8_clear μ3) (fun μ5 => bv (sF μ5 151 5 (0 : Int32)) (fun μ7 => bv (sF μ7 151 6 (0 : Int32)) (fun μ8 => bd (p_X8_build a2 153 153 μ8) (fun r10 μ9 => bd (p_X1_beginCall (sel 0 (μ9.2.2 151 8)) μ9) (fun r12 μ11 => p_X6_runResidue_b63  FUEL r10 (0 : Int32) μ11))))))), fun _ _ _ => rfl⟩
noncomputable def p_X6_runResidue : Nat → Nat → Mem → Option Mem := Classical.choose p_X6_runResidue_ex
theorem p_X6_runResidue_eq (a2 : Nat) (a3 : Nat) (μ : Mem) : p_X6_runResidue a2 a3 μ = bv (sR μ 151 8 a3) (fun μ2 => bw (p_X1_clear (sel 0 (μ2.2.2 151 8)) μ2) (fun μ3 => bw (p_X8_clear μ3) (fun μ5 => bv (sF μ5 151 5 (0 : Int32)) (fun μ7 => bv (sF μ7 151 6 (0 : Int32)) (fun μ8 => bd (p_X8_build a2 153 153 μ8) (fun r10 μ9 => bd (p_X1_beginCall (sel 0 (μ9.2.2 151 8)) μ9) (fun r12 μ11 => p_X6_runResidue_b63  FUEL r10 (0 : Int32) μ11))))))) := Classical.choose_spec p_X6_runResidue_ex a2 a3 μ
set_option maxHeartbeats 4000000 in
set_option maxRecDepth 100000 in
theorem t_X6_runResidue (l : Launch) (G : Gt) (ad : Nat → Nat) (a2 : Nat) (q2 : sh a2 = (0, 1)) (a3 : Nat) (q3 : sh a3 = (0, 0)) (μ : Mem) {μz : Mem} (h : p_X6_runResidue a2 a3 μ = some μz) : Mt l yX6_runResidue cX6_runResidue 7 none ({ frames := 6, cells := 0, slots := 0, locals := 157 } : Room) G [.ref (ad 151), .ref (ad 39), .ref (ad a2), .ref (ad a3)] (wd G ad μ) (eV G ad μz) := by
  refine Bk.mt (by decide) rfl (Nat.le_of_ble_eq_true rfl) ?_
  intro p e s m below meth c A ls H locs cx hr hlk hA hl hw
  have hx := cx.1
  have hb := cx.2.1
  have hl : lv_has ls 7 [(0, .ref (ad 151)), (1, .ref (ad 39)), (2, .ref (ad a2)), (3, .ref (ad a3))] := hl
  rw [p_X6_runResidue_eq] at h
  refine lv_aload_n hx hb dX6_runResidue_0 rfl (lv_at hl 0 rfl) ?_
  refine lv_aload_n hx hb dX6_runResidue_1 rfl (lv_at hl 1 rfl) ?_
  refine g_putC cx hw inX6 (ci := 5) rfl tyX6_ok nmX6 7 (by decide) rfl rfl rfl rfl sh_151 fl_X6_33 dX6_runResidue_2 (fun H locs hw => ?_)
  refine lv_aload_n hx hb dX6_runResidue_5 rfl (lv_at hl 0 rfl) ?_
  refine lv_aload_n hx hb dX6_runResidue_6 rfl (lv_at hl 3 rfl) ?_
  refine g_putR cx hw inX6 (ci := 5) rfl tyX6_ok nmX6 8 (by decide) rfl rfl rfl rfl sh_151 q3 h fl_X6_37 dX6_runResidue_7 (fun μ2 H locs h hw => ?_)
  refine lv_aload_n hx hb dX6_runResidue_10 rfl (lv_at hl 0 rfl) ?_
  refine g_get cx hw inX6 (ci := 5) rfl 8 (by decide) rfl sh_151 rfl fl_X6_37 dX6_runResidue_11 ?_
  obtain ⟨μ3, gμ3, h⟩ := bw_some h
  refine g_callVV (As := []) (rest := []) cx hw hA (t_X1_clear l G ad (sel 0 (μ2.2.2 151 8)) (sel_0 _) μ2 gμ3) (sel_0 _) rfl ml_X6_48 im_X1_clear se_X1_clear in_X1 co_X1_clear rfl hd_X1_clear rfl ⟨(Nat.le_of_ble_eq_true rfl), (Nat.le_of_ble_eq_true rfl)⟩ hl.1 rfl (Nat.le_of_ble_eq_true rfl) dX6_runResidue_14 ⟨rfl, rfl⟩ (fun H locs hw => ?_)
  refine lv_aload_n hx hb dX6_runResidue_17 rfl (lv_at hl 0 rfl) ?_
  refine g_get cx hw inX6 (ci := 5) rfl 0 (by decide) rfl sh_151 rfl fl_X6_13 dX6_runResidue_18 ?_
  obtain ⟨μ5, gμ5, h⟩ := bw_some h
  refine g_callVV (As := []) (rest := []) cx hw hA (t_X8_clear l G ad μ3 gμ5) sh_30 rfl ml_X6_51 im_X8_clear se_X8_clear in_X8 co_X8_clear rfl hd_X8_clear rfl ⟨(Nat.le_of_ble_eq_true rfl), (Nat.le_of_ble_eq_true rfl)⟩ hl.1 rfl (Nat.le_of_ble_eq_true rfl) dX6_runResidue_21 ⟨rfl, rfl⟩ (fun H locs hw => ?_)
  refine lv_aload_n hx hb dX6_runResidue_24 rfl (lv_at hl 0 rfl) ?_
  refine lv_iconst (v := 0) hx hb dX6_runResidue_25 (by decide) ?_
  refine g_put cx hw inX6 (ci := 5) rfl tyX6_ok nmX6 5 (by decide) rfl rfl rfl rfl sh_151 h fl_X6_41 dX6_runResidue_26 (fun μ7 H locs h hw => ?_)
  refine lv_aload_n hx hb dX6_runResidue_29 rfl (lv_at hl 0 rfl) ?_
  refine lv_iconst (v := 0) hx hb dX6_runResidue_30 (by decide) ?_
  refine g_put cx hw inX6 (ci := 5) rfl tyX6_ok nmX6 6 (by decide) rfl rfl rfl rfl sh_151 h fl_X6_45 dX6_runResidue_31 (fun μ8 H locs h hw => ?_)
  refine lv_aload_n hx hb dX6_runResidue_34 rfl (lv_at hl 0 rfl) ?_
  refine g_get cx hw inX6 (ci := 5) rfl 0 (by decide) rfl sh_151 rfl fl_X6_13 dX6_runResidue_35 ?_
  refine lv_aload_n hx hb dX6_runResidue_38 rfl (lv_at hl 2 rfl) ?_
  refine lv_aload_n hx hb dX6_runResidue_39 rfl (lv_at hl 0 rfl) ?_
  refine g_get cx hw inX6 (ci := 5) rfl 2 (by decide) rfl sh_151 rfl fl_X6_23 dX6_runResidue_40 ?_
  refine lv_aload_n hx hb dX6_runResidue_43 rfl (lv_at hl 0 rfl) ?_
  refine g_get cx hw inX6 (ci := 5) rfl 2 (by decide) rfl sh_151 rfl fl_X6_23 dX6_runResidue_44 ?_
  obtain ⟨r10, μ9, gr10, h⟩ := bd_some h
  refine g_callVI (As := [.ref (ad a2), .ref (ad 153), .ref (ad 153)]) (rest := []) cx hw hA (t_X8_build l G ad a2 q2 153 (sh_f sh_153) 153 (sh_f sh_153) μ8 gr10) sh_30 rfl ml_X6_54 im_X8_build se_X8_build in_X8 co_X8_build rfl hd_X8_build rfl ⟨(Nat.le_of_ble_eq_true rfl), (Nat.le_of_ble_eq_true rfl)⟩ hl.1 rfl (Nat.le_of_ble_eq_true rfl) dX6_runResidue_47 ⟨rfl, rfl⟩ (fun H locs hw => ?_)
  refine lv_istore (lv' := [(4, .int r10), (0, .ref (ad 151)), (1, .ref (ad 39)), (2, .ref (ad a2)), (3, .ref (ad a3))]) hx hb dX6_runResidue_50 hl (by decide) rfl (fun ls hl => ?_)
  refine lv_aload_n hx hb dX6_runResidue_52 rfl (lv_at hl 1 rfl) ?_
  refine g_get cx hw inX6 (ci := 5) rfl 8 (by decide) rfl sh_151 rfl fl_X6_37 dX6_runResidue_53 ?_
  obtain ⟨r12, μ11, gr12, h⟩ := bd_some h
  refine g_callVI (As := []) (rest := []) cx hw hA (t_X1_beginCall l G ad (sel 0 (μ9.2.2 151 8)) (sel_0 _) μ9 gr12) (sel_0 _) rfl ml_X6_58 im_X1_beginCall se_X1_beginCall in_X1 co_X1_beginCall rfl hd_X1_beginCall rfl ⟨(Nat.le_of_ble_eq_true rfl), (Nat.le_of_ble_eq_true rfl)⟩ hl.1 rfl (Nat.le_of_ble_eq_true rfl) dX6_runResidue_56 ⟨rfl, rfl⟩ (fun H locs hw => ?_)
  refine lv_pop hx hb dX6_runResidue_59 rfl ?_
  refine lv_iconst (v := 0) hx hb dX6_runResidue_60 (by decide) ?_
  refine lv_istore (lv' := [(5, .int 0), (4, .int r10), (0, .ref (ad 151)), (1, .ref (ad 39)), (2, .ref (ad a2)), (3, .ref (ad a3))]) hx hb dX6_runResidue_61 hl (by decide) rfl (fun ls hl => ?_)
  exact t_X6_runResidue_b63 l G ad _  FUEL r10 (0 : Int32) μ11 h p e s m below meth c A ls H locs cx hr hlk hA (lv_sub hl [2, 1, 0] rfl) hw

theorem p_X1_about_ex : ∃ f : Nat → Int32 → Mem → Option (Int32 × Mem), ∀ (a0 : Nat) (a1 : Int32) (μ : Mem), f a0 a1 μ = (if a1 = (0 : Int32) then some ((μ.1 a0 0), μ) else (if a1 = (1 : Int32) then some ((μ.1 a0 1), μ) else (if a1 = (2 : Int32) then some ((μ.1 a0 4), μ) else (if a1 = (3 : Int32) then some ((μ.1 a0 5), μ) else (if a1 = (4 : Int32) then some ((μ.1 a0 6), μ) else (if a1 = (5 : Int32) then some ((μ.1 a0 3), μ) else some ((-1 : Int32), μ))))))) := ⟨fun (a0 : Nat) (a1 : Int32) (μ : Mem) => (if a1 = (0 : Int32) then some ((μ.1 a0 0), μ) else (if a1 = (1 : Int32) then some ((μ.1 a0 1), μ) else (if a1 = (2 : Int32) then some ((μ.1 a0 4), μ) else (if a1 = (3 : Int32) then some ((μ.1 a0 5), μ) else (if a1 = (4 : Int32) then some ((μ.1 a0 6), μ) else (if a1 = (5 : Int32) then some ((μ.1 a0 3), μ) else some ((-1 : Int32), μ))))))), fun _ _ _ => rfl⟩
noncomputable def p_X1_about : Nat → Int32 → Mem → Option (Int32 × Mem) := Classical.choose p_X1_about_ex
theorem p_X1_about_eq (a0 : Nat) (a1 : Int32) (μ : Mem) : p_X1_about a0 a1 μ = (if a1 = (0 : Int32) then some ((μ.1 a0 0), μ) else (if a1 = (1 : Int32) then some ((μ.1 a0 1), μ) else (if a1 = (2 : Int32) then some ((μ.1 a0 4), μ) else (if a1 = (3 : Int32) then some ((μ.1 a0 5), μ) else (if a1 = (4 : Int32) then some ((μ.1 a0 6), μ) else (if a1 = (5 : Int32) then some ((μ.1 a0 3), μ) else some ((-1 : Int32), μ))))))) := Classical.choose_spec p_X1_about_ex a0 a1 μ
set_option maxHeartbeats 4000000 in
set_option maxRecDepth 100000 in
theorem t_X1_about (l : Launch) (G : Gt) (ad : Nat → Nat) (a0 : Nat) (q0 : sh a0 = (0, 0)) (a1 : Int32) (μ : Mem) {r : Int32} {μz : Mem} (h : p_X1_about a0 a1 μ = some (r, μz)) : Mt l yX1_about cX1_about 2 (some .int) ({ frames := 0, cells := 0, slots := 0, locals := 0 } : Room) G [.ref (ad a0), .int a1] (wd G ad μ) (eI G ad r μz) := by
  refine Bk.mt (by decide) rfl (Nat.le_of_ble_eq_true rfl) ?_
  intro p e s m below meth c A ls H locs cx hr hlk hA hl hw
  have hx := cx.1
  have hb := cx.2.1
  have hl : lv_has ls 2 [(0, .ref (ad a0)), (1, .int a1)] := hl
  rw [p_X1_about_eq] at h
  refine lv_iload_n hx hb dX1_about_0 rfl (lv_at hl 1 rfl) ?_
  refine lv_topi (fun v1 ev1 => ?_)
  by_cases c2 : a1 = (0 : Int32)
  · rw [if_pos c2] at h
    have z9 := ev1.trans c2
    subst z9
    refine lv_tableIn (tgt := 40) hx hb dX1_about_1 (by decide +kernel) (by decide +kernel) rfl (by decide) ?_
    refine lv_aload_n hx hb dX1_about_40 rfl (lv_at hl 0 rfl) ?_
    refine g_get cx hw inX1 (ci := 0) rfl 0 (by decide) rfl q0 rfl fl_X1_31 dX1_about_41 ?_
    exact g_iret cx hr hlk hw h dX1_about_44
  rw [if_neg c2] at h
  by_cases c3 : a1 = (1 : Int32)
  · rw [if_pos c3] at h
    have z9 := ev1.trans c3
    subst z9
    refine lv_tableIn (tgt := 45) hx hb dX1_about_1 (by decide +kernel) (by decide +kernel) rfl (by decide) ?_
    refine lv_aload_n hx hb dX1_about_45 rfl (lv_at hl 0 rfl) ?_
    refine g_get cx hw inX1 (ci := 0) rfl 1 (by decide) rfl q0 rfl fl_X1_35 dX1_about_46 ?_
    exact g_iret cx hr hlk hw h dX1_about_49
  rw [if_neg c3] at h
  by_cases c4 : a1 = (2 : Int32)
  · rw [if_pos c4] at h
    have z9 := ev1.trans c4
    subst z9
    refine lv_tableIn (tgt := 50) hx hb dX1_about_1 (by decide +kernel) (by decide +kernel) rfl (by decide) ?_
    refine lv_aload_n hx hb dX1_about_50 rfl (lv_at hl 0 rfl) ?_
    refine g_get cx hw inX1 (ci := 0) rfl 4 (by decide) rfl q0 rfl fl_X1_44 dX1_about_51 ?_
    exact g_iret cx hr hlk hw h dX1_about_54
  rw [if_neg c4] at h
  by_cases c5 : a1 = (3 : Int32)
  · rw [if_pos c5] at h
    have z9 := ev1.trans c5
    subst z9
    refine lv_tableIn (tgt := 55) hx hb dX1_about_1 (by decide +kernel) (by decide +kernel) rfl (by decide) ?_
    refine lv_aload_n hx hb dX1_about_55 rfl (lv_at hl 0 rfl) ?_
    refine g_get cx hw inX1 (ci := 0) rfl 5 (by decide) rfl q0 rfl fl_X1_47 dX1_about_56 ?_
    exact g_iret cx hr hlk hw h dX1_about_59
  rw [if_neg c5] at h
  by_cases c6 : a1 = (4 : Int32)
  · rw [if_pos c6] at h
    have z9 := ev1.trans c6
    subst z9
    refine lv_tableIn (tgt := 60) hx hb dX1_about_1 (by decide +kernel) (by decide +kernel) rfl (by decide) ?_
    refine lv_aload_n hx hb dX1_about_60 rfl (lv_at hl 0 rfl) ?_
    refine g_get cx hw inX1 (ci := 0) rfl 6 (by decide) rfl q0 rfl fl_X1_50 dX1_about_61 ?_
    exact g_iret cx hr hlk hw h dX1_about_64
  rw [if_neg c6] at h
  by_cases c7 : a1 = (5 : Int32)
  · rw [if_pos c7] at h
    have z9 := ev1.trans c7
    subst z9
    refine lv_tableIn (tgt := 65) hx hb dX1_about_1 (by decide +kernel) (by decide +kernel) rfl (by decide) ?_
    refine lv_aload_n hx hb dX1_about_65 rfl (lv_at hl 0 rfl) ?_
    refine g_get cx hw inX1 (ci := 0) rfl 3 (by decide) rfl q0 rfl fl_X1_41 dX1_about_66 ?_
    exact g_iret cx hr hlk hw h dX1_about_69
  rw [if_neg c7] at h
  subst ev1
  refine lv_tableOut (tgt := 70) hx hb dX1_about_1 (sw_out (L := [(0 : Int32), (1 : Int32), (2 : Int32), (3 : Int32), (4 : Int32), (5 : Int32)]) (by decide +kernel) (by simp only [List.forall_mem_cons]; exact ⟨c2, c3, c4, c5, c6, c7, fun _ q => absurd q List.not_mem_nil⟩)) (by decide) ?_
  refine lv_iconst (v := (-1)) hx hb dX1_about_70 (by decide) ?_
  exact g_iret cx hr hlk hw h dX1_about_71

theorem p_X11_run_b69_ex : ∃ f : Int32 → Mem → Option (Int32 × Mem), ∀ (a2 : Int32) (μ : Mem), f a2 μ = (if (μ.1 119 0) = (0 : Int32) then bw (p_X2_copyFrom 156 122 μ) (fun μ12 => bd (p_X1_about 119 a2 μ12) (fun r15 μ14 => some (r15, μ14))) else bd (p_X1_about 119 a2 μ) (fun r11 μ10 => some (r11, μ10))) := ⟨fun (a2 : Int32) (μ : Mem) => (if (μ.1 119 0) = (0 : Int32) then bw (p_X2_copyFrom 156 122 μ) (fun μ12 => bd (p_X1_about 119 a2 μ12) (fun r15 μ14 => some (r15, μ14))) else bd (p_X1_about 119 a2 μ) (fun r11 μ10 => some (r11, μ10))), fun _ _ => rfl⟩
noncomputable def p_X11_run_b69 : Int32 → Mem → Option (Int32 × Mem) := Classical.choose p_X11_run_b69_ex
theorem p_X11_run_b69_eq (a2 : Int32) (μ : Mem) : p_X11_run_b69 a2 μ = (if (μ.1 119 0) = (0 : Int32) then bw (p_X2_copyFrom 156 122 μ) (fun μ12 => bd (p_X1_about 119 a2 μ12) (fun r15 μ14 => some (r15, μ14))) else bd (p_X1_about 119 a2 μ) (fun r11 μ10 => some (r11, μ10))) := Classical.choose_spec p_X11_run_b69_ex a2 μ
set_option maxHeartbeats 4000000 in
set_option maxRecDepth 100000 in
theorem t_X11_run_b69 (l : Launch) (G : Gt) (ad : Nat → Nat) (av : List Value) {r : Int32} {μz : Mem} (a2 : Int32) (μ : Mem) (h : p_X11_run_b69  a2 μ = some (r, μz)) : Bk l cX11_run 3 RX11 (some .int) ({ frames := 7, cells := 0, slots := 0, locals := 188 } : Room) G av (eI G ad r μz) (wd G ad μ) 69 [(0, .ref (ad 0)), (2, .int a2)] [] := by
  intro p e s m below meth c A ls H locs cx hr hlk hA hl hw
  have hx := cx.1
  have hb := cx.2.1
  rw [p_X11_run_b69_eq] at h
  refine lv_aload_n hx hb dX11_run_69 rfl (lv_at hl 0 rfl) ?_
  refine g_get cx hw inX11 (ci := 10) rfl 15 (by decide) rfl sh_0 rfl fl_X11_74 dX11_run_70 ?_
  refine g_get cx hw inX1 (ci := 0) rfl 0 (by decide) rfl sh_119 rfl fl_X11_214 dX11_run_73 ?_
  refine lv_if_ne (tgt := 93) hx hb dX11_run_76 (by decide) (fun c9 => ?_) (fun c9 => ?_)
  · rw [if_neg c9] at h
    refine lv_aload_n hx hb dX11_run_93 rfl (lv_at hl 0 rfl) ?_
    refine g_get cx hw inX11 (ci := 10) rfl 15 (by decide) rfl sh_0 rfl fl_X11_74 dX11_run_94 ?_
    refine lv_iload_n hx hb dX11_run_97 rfl (lv_at hl 1 rfl) ?_
    obtain ⟨r11, μ10, gr11, h⟩ := bd_some h
    refine g_callVI (As := [.int a2]) (rest := []) cx hw hA (t_X1_about l G ad 119 sh_119 a2 μ gr11) sh_119 rfl ml_X11_223 im_X1_about se_X1_about in_X1 co_X1_about rfl hd_X1_about rfl ⟨(Nat.le_of_ble_eq_true rfl), (Nat.le_of_ble_eq_true rfl)⟩ hl.1 rfl (Nat.le_of_ble_eq_true rfl) dX11_run_98 ⟨rfl, rfl⟩ (fun H locs hw => ?_)
    exact g_iret cx hr hlk hw h dX11_run_101
  · rw [if_pos c9] at h
    refine lv_aload_n hx hb dX11_run_79 rfl (lv_at hl 0 rfl) ?_
    refine g_get cx hw inX11 (ci := 10) rfl 18 (by decide) rfl sh_0 rfl fl_X11_111 dX11_run_80 ?_
    refine lv_aload_n hx hb dX11_run_83 rfl (lv_at hl 0 rfl) ?_
    refine g_get cx hw inX11 (ci := 10) rfl 15 (by decide) rfl sh_0 rfl fl_X11_74 dX11_run_84 ?_
    refine g_get cx hw inX1 (ci := 0) rfl 9 (by decide) rfl sh_119 rfl fl_X11_217 dX11_run_87 ?_
    obtain ⟨μ12, gμ12, h⟩ := bw_some h
    refine g_callVV (As := [.ref (ad 122)]) (rest := []) cx hw hA (t_X2_copyFrom l G ad 156 sh_156 122 sh_122 μ gμ12) sh_156 rfl ml_X11_220 im_X2_copyFrom se_X2_copyFrom in_X2 co_X2_copyFrom rfl hd_X2_copyFrom rfl ⟨(Nat.le_of_ble_eq_true rfl), (Nat.le_of_ble_eq_true rfl)⟩ hl.1 rfl (Nat.le_of_ble_eq_true rfl) dX11_run_90 ⟨rfl, rfl⟩ (fun H locs hw => ?_)
    refine lv_aload_n hx hb dX11_run_93 rfl (lv_at hl 0 rfl) ?_
    refine g_get cx hw inX11 (ci := 10) rfl 15 (by decide) rfl sh_0 rfl fl_X11_74 dX11_run_94 ?_
    refine lv_iload_n hx hb dX11_run_97 rfl (lv_at hl 1 rfl) ?_
    obtain ⟨r15, μ14, gr15, h⟩ := bd_some h
    refine g_callVI (As := [.int a2]) (rest := []) cx hw hA (t_X1_about l G ad 119 sh_119 a2 μ12 gr15) sh_119 rfl ml_X11_223 im_X1_about se_X1_about in_X1 co_X1_about rfl hd_X1_about rfl ⟨(Nat.le_of_ble_eq_true rfl), (Nat.le_of_ble_eq_true rfl)⟩ hl.1 rfl (Nat.le_of_ble_eq_true rfl) dX11_run_98 ⟨rfl, rfl⟩ (fun H locs hw => ?_)
    exact g_iret cx hr hlk hw h dX11_run_101
theorem p_X11_run_ex : ∃ f : Int32 → Int32 → Mem → Option (Int32 × Mem), ∀ (a1 : Int32) (a2 : Int32) (μ : Mem), f a1 a2 μ = (if a2 < (0 : Int32) then some ((-1 : Int32), μ) else (if (6 : Int32) ≤ a2 then some ((-1 : Int32), μ) else bd (p_X11_canRun a1 μ) (fun r4 μ3 => (if r4 = (0 : Int32) then some ((-1 : Int32), μ3) else (if a1 = (0 : Int32) then bw (p_X7_runTask (sel 2 (μ3.2.2 0 4)) (sel 1 (μ3.2.2 0 6)) (sel 1 (μ3.2.2 0 8)) 119 μ3) (fun μ16 => p_X11_run_b69  a2 μ16) else bw (p_X6_runResidue (sel 1 (μ3.2.2 0 8)) 119 μ3) (fun μ7 => p_X11_run_b69  a2 μ7)))))) := ⟨fun (a1 : Int32) (a2 : Int32) (μ : Mem) => (if a2 < (0 : Int32) then some ((-1 : Int32), μ) else (if (6 : Int32) ≤ a2 then some ((-1 : Int32), μ) else bd (p_X11_canRun a1 μ) (fun r4 μ3 => (if r4 = (0 : Int32) then some ((-1 : Int32), μ3) else (if a1 = (0 : Int32) then bw (p_X7_runTask (sel 2 (μ3.2.2 0 4)) (sel 1 (μ3.2.2 0 6)) (sel 1 (μ3.2.2 0 8)) 119 μ3) (fun μ16 => p_X11_run_b69  a2 μ16) else bw (p_X6_runResidue (sel 1 (μ3.2.2 0 8)) 119 μ3) (fun μ7 => p_X11_run_b69  a2 μ7)))))), fun _ _ _ => rfl⟩
noncomputable def p_X11_run : Int32 → Int32 → Mem → Option (Int32 × Mem) := Classical.choose p_X11_run_ex
theorem p_X11_run_eq (a1 : Int32) (a2 : Int32) (μ : Mem) : p_X11_run a1 a2 μ = (if a2 < (0 : Int32) then some ((-1 : Int32), μ) else (if (6 : Int32) ≤ a2 then some ((-1 : Int32), μ) else bd (p_X11_canRun a1 μ) (fun r4 μ3 => (if r4 = (0 : Int32) then some ((-1 : Int32), μ3) else (if a1 = (0 : Int32) then bw (p_X7_runTask (sel 2 (μ3.2.2 0 4)) (sel 1 (μ3.2.2 0 6)) (sel 1 (μ3.2.2 0 8)) 119 μ3) (fun μ16 => p_X11_run_b69  a2 μ16) else bw (p_X6_runResidue (sel 1 (μ3.2.2 0 8)) 119 μ3) (fun μ7 => p_X11_run_b69  a2 μ7)))))) := Classical.choose_spec p_X11_run_ex a1 a2 μ
set_option maxHeartbeats 4000000 in
set_option maxRecDepth 100000 in
theorem t_X11_run (l : Launch) (G : Gt) (ad : Nat → Nat) (a1 : Int32) (a2 : Int32) (μ : Mem) {r : Int32} {μz : Mem} (h : p_X11_run a1 a2 μ = some (r, μz)) : Mt l yX11_run cX11_run 3 (some .int) ({ frames := 7, cells := 0, slots := 0, locals := 188 } : Room) G [.ref (ad 0), .int a1, .int a2] (wd G ad μ) (eI G ad r μz) := by
  refine Bk.mt (by decide) rfl (Nat.le_of_ble_eq_true rfl) ?_
  intro p e s m below meth c A ls H locs cx hr hlk hA hl hw
  have hx := cx.1
  have hb := cx.2.1
  have hl : lv_has ls 3 [(0, .ref (ad 0)), (1, .int a1), (2, .int a2)] := hl
  rw [p_X11_run_eq] at h
  refine lv_iload_n hx hb dX11_run_0 rfl (lv_at hl 2 rfl) ?_
  refine lv_if_lt (tgt := 18) hx hb dX11_run_1 (by decide) (fun c1 => ?_) (fun c1 => ?_)
  · rw [if_pos c1] at h
    refine lv_iconst (v := (-1)) hx hb dX11_run_18 (by decide) ?_
    exact g_iret cx hr hlk hw h dX11_run_19
  · rw [if_neg c1] at h
    refine lv_iload_n hx hb dX11_run_4 rfl (lv_at hl 2 rfl) ?_
    refine lv_bipush (v := 6) hx hb dX11_run_5 (by decide) ?_
    refine lv_icmp_ge (tgt := 18) hx hb dX11_run_7 (by decide) (fun c2 => ?_) (fun c2 => ?_)
    · rw [if_pos c2] at h
      refine lv_iconst (v := (-1)) hx hb dX11_run_18 (by decide) ?_
      exact g_iret cx hr hlk hw h dX11_run_19
    · rw [if_neg c2] at h
      refine lv_aload_n hx hb dX11_run_10 rfl (lv_at hl 0 rfl) ?_
      refine lv_iload_n hx hb dX11_run_11 rfl (lv_at hl 1 rfl) ?_
      obtain ⟨r4, μ3, gr4, h⟩ := bd_some h
      refine g_callVI (As := [.int a1]) (rest := []) cx hw hA (t_X11_canRun l G ad a1 μ gr4) sh_0 rfl ml_X11_203 im_X11_canRun se_X11_canRun in_X11 co_X11_canRun rfl hd_X11_canRun rfl ⟨(Nat.le_of_ble_eq_true rfl), (Nat.le_of_ble_eq_true rfl)⟩ hl.1 rfl (Nat.le_of_ble_eq_true rfl) dX11_run_12 ⟨rfl, rfl⟩ (fun H locs hw => ?_)
      refine lv_if_ne (tgt := 20) hx hb dX11_run_15 (by decide) (fun c5 => ?_) (fun c5 => ?_)
      · rw [if_neg c5] at h
        refine lv_iload_n hx hb dX11_run_20 rfl (lv_at hl 1 rfl) ?_
        refine lv_if_ne (tgt := 50) hx hb dX11_run_21 (by decide) (fun c6 => ?_) (fun c6 => ?_)
        · rw [if_neg c6] at h
          refine lv_aload_n hx hb dX11_run_50 rfl (lv_at hl 0 rfl) ?_
          refine g_get cx hw inX11 (ci := 10) rfl 14 (by decide) rfl sh_0 rfl fl_X11_101 dX11_run_51 ?_
          refine lv_aload_n hx hb dX11_run_54 rfl (lv_at hl 0 rfl) ?_
          refine g_get cx hw inX11 (ci := 10) rfl 12 (by decide) rfl sh_0 rfl fl_X11_67 dX11_run_55 ?_
          refine lv_aload_n hx hb dX11_run_58 rfl (lv_at hl 0 rfl) ?_
          refine g_get cx hw inX11 (ci := 10) rfl 8 (by decide) rfl sh_0 rfl fl_X11_51 dX11_run_59 ?_
          refine lv_aload_n hx hb dX11_run_62 rfl (lv_at hl 0 rfl) ?_
          refine g_get cx hw inX11 (ci := 10) rfl 15 (by decide) rfl sh_0 rfl fl_X11_74 dX11_run_63 ?_
          obtain ⟨μ7, gμ7, h⟩ := bw_some h
          refine g_callVV (As := [.ref (ad 39), .ref (ad (sel 1 (μ3.2.2 0 8))), .ref (ad 119)]) (rest := []) cx hw hA (t_X6_runResidue l G ad (sel 1 (μ3.2.2 0 8)) (sel_1 _) 119 sh_119 μ3 gμ7) sh_151 rfl ml_X11_210 im_X6_runResidue se_X6_runResidue in_X6 co_X6_runResidue rfl hd_X6_runResidue rfl ⟨(Nat.le_of_ble_eq_true rfl), (Nat.le_of_ble_eq_true rfl)⟩ hl.1 rfl (Nat.le_of_ble_eq_true rfl) dX11_run_66 ⟨rfl, rfl⟩ (fun H locs hw => ?_)
          exact t_X11_run_b69 l G ad _  a2 μ7 h p e s m below meth c A ls H locs cx hr hlk hA (lv_sub hl [0, 2] rfl) hw
        · rw [if_pos c6] at h
          refine lv_aload_n hx hb dX11_run_24 rfl (lv_at hl 0 rfl) ?_
          refine g_get cx hw inX11 (ci := 10) rfl 13 (by decide) rfl sh_0 rfl fl_X11_92 dX11_run_25 ?_
          refine lv_aload_n hx hb dX11_run_28 rfl (lv_at hl 0 rfl) ?_
          refine g_get cx hw inX11 (ci := 10) rfl 4 (by decide) rfl sh_0 rfl fl_X11_23 dX11_run_29 ?_
          refine lv_aload_n hx hb dX11_run_32 rfl (lv_at hl 0 rfl) ?_
          refine g_get cx hw inX11 (ci := 10) rfl 6 (by decide) rfl sh_0 rfl fl_X11_44 dX11_run_33 ?_
          refine lv_aload_n hx hb dX11_run_36 rfl (lv_at hl 0 rfl) ?_
          refine g_get cx hw inX11 (ci := 10) rfl 8 (by decide) rfl sh_0 rfl fl_X11_51 dX11_run_37 ?_
          refine lv_aload_n hx hb dX11_run_40 rfl (lv_at hl 0 rfl) ?_
          refine g_get cx hw inX11 (ci := 10) rfl 15 (by decide) rfl sh_0 rfl fl_X11_74 dX11_run_41 ?_
          obtain ⟨μ16, gμ16, h⟩ := bw_some h
          refine g_callVV (As := [.ref (ad (sel 2 (μ3.2.2 0 4))), .ref (ad (sel 1 (μ3.2.2 0 6))), .ref (ad (sel 1 (μ3.2.2 0 8))), .ref (ad 119)]) (rest := []) cx hw hA (t_X7_runTask l G ad (sel 2 (μ3.2.2 0 4)) (sel_2 _) (sel 1 (μ3.2.2 0 6)) (sel_1 _) (sel 1 (μ3.2.2 0 8)) (sel_1 _) 119 sh_119 μ3 gμ16) sh_148 rfl ml_X11_206 im_X7_runTask se_X7_runTask in_X7 co_X7_runTask rfl hd_X7_runTask rfl ⟨(Nat.le_of_ble_eq_true rfl), (Nat.le_of_ble_eq_true rfl)⟩ hl.1 rfl (Nat.le_of_ble_eq_true rfl) dX11_run_44 ⟨rfl, rfl⟩ (fun H locs hw => ?_)
          refine lv_goto (tgt := 69) hx hb dX11_run_47 (by decide) ?_
          exact t_X11_run_b69 l G ad _  a2 μ16 h p e s m below meth c A ls H locs cx hr hlk hA (lv_sub hl [0, 2] rfl) hw
      · rw [if_pos c5] at h
        refine lv_iconst (v := (-1)) hx hb dX11_run_18 (by decide) ?_
        exact g_iret cx hr hlk hw h dX11_run_19

theorem p_X1_keptCount_ex : ∃ f : Nat → Mem → Option (Int32 × Mem), ∀ (a0 : Nat) (μ : Mem), f a0 μ = some ((imin (μ.1 a0 4) (60 : Int32)), μ) := ⟨fun (a0 : Nat) (μ : Mem) => some ((imin (μ.1 a0 4) (60 : Int32)), μ), fun _ _ => rfl⟩
noncomputable def p_X1_keptCount : Nat → Mem → Option (Int32 × Mem) := Classical.choose p_X1_keptCount_ex
theorem p_X1_keptCount_eq (a0 : Nat) (μ : Mem) : p_X1_keptCount a0 μ = some ((imin (μ.1 a0 4) (60 : Int32)), μ) := Classical.choose_spec p_X1_keptCount_ex a0 μ
set_option maxHeartbeats 4000000 in
set_option maxRecDepth 100000 in
theorem t_X1_keptCount (l : Launch) (G : Gt) (ad : Nat → Nat) (a0 : Nat) (q0 : sh a0 = (0, 0)) (μ : Mem) {r : Int32} {μz : Mem} (h : p_X1_keptCount a0 μ = some (r, μz)) : Mt l yX1_keptCount cX1_keptCount 1 (some .int) ({ frames := 1, cells := 0, slots := 0, locals := 24 } : Room) G [.ref (ad a0)] (wd G ad μ) (eI G ad r μz) := by
  refine Bk.mt (by decide) rfl (Nat.le_of_ble_eq_true rfl) ?_
  intro p e s m below meth c A ls H locs cx hr hlk hA hl hw
  have hx := cx.1
  have hb := cx.2.1
  have hl : lv_has ls 1 [(0, .ref (ad a0))] := hl
  rw [p_X1_keptCount_eq] at h
  refine lv_aload_n hx hb dX1_keptCount_0 rfl (lv_at hl 0 rfl) ?_
  refine g_get cx hw inX1 (ci := 0) rfl 4 (by decide) rfl q0 rfl fl_X1_44 dX1_keptCount_1 ?_
  refine lv_bipush (v := 60) hx hb dX1_keptCount_4 (by decide) ?_
  refine r_mmin (v := (imin (μ.1 a0 4) (60 : Int32))) cx ml_X1_91 hl.1 (Nat.le_of_ble_eq_true rfl) (Nat.le_of_ble_eq_true rfl) (Nat.le_of_ble_eq_true rfl) (Nat.le_of_ble_eq_true rfl) rfl dX1_keptCount_6 ?_
  exact g_iret cx hr hlk hw h dX1_keptCount_9

theorem p_X1_aboutOutput_ex : ∃ f : Nat → Int32 → Int32 → Mem → Option (Int32 × Mem), ∀ (a0 : Nat) (a1 : Int32) (a2 : Int32) (μ : Mem), f a0 a1 a2 μ = (if a1 < (0 : Int32) then some ((-1 : Int32), μ) else bd (p_X1_keptCount a0 μ) (fun r3 μ2 => (if r3 ≤ a1 then some ((-1 : Int32), μ2) else (if a2 < (0 : Int32) then some ((-1 : Int32), μ2) else (if a2 ≤ (1 : Int32) then (if a2 = (0 : Int32) then gd (inb a1 60) (some ((s_X0_kind (μ2.2.1 (a0 + 1) a1.toNatClampNeg)), μ2)) else gd (inb a1 60) (some ((s_X0_bits (μ2.2.1 (a0 + 1) a1.toNatClampNeg)), μ2))) else some ((-1 : Int32), μ2)))))) := ⟨fun (a0 : Nat) (a1 : Int32) (a2 : Int32) (μ : Mem) => (if a1 < (0 : Int32) then some ((-1 : Int32), μ) else bd (p_X1_keptCount a0 μ) (fun r3 μ2 => (if r3 ≤ a1 then some ((-1 : Int32), μ2) else (if a2 < (0 : Int32) then some ((-1 : Int32), μ2) else (if a2 ≤ (1 : Int32) then (if a2 = (0 : Int32) then gd (inb a1 60) (some ((s_X0_kind (μ2.2.1 (a0 + 1) a1.toNatClampNeg)), μ2)) else gd (inb a1 60) (some ((s_X0_bits (μ2.2.1 (a0 + 1) a1.toNatClampNeg)), μ2))) else some ((-1 : Int32), μ2)))))), fun _ _ _ _ => rfl⟩
noncomputable def p_X1_aboutOutput : Nat → Int32 → Int32 → Mem → Option (Int32 × Mem) := Classical.choose p_X1_aboutOutput_ex
theorem p_X1_aboutOutput_eq (a0 : Nat) (a1 : Int32) (a2 : Int32) (μ : Mem) : p_X1_aboutOutput a0 a1 a2 μ = (if a1 < (0 : Int32) then some ((-1 : Int32), μ) else bd (p_X1_keptCount a0 μ) (fun r3 μ2 => (if r3 ≤ a1 then some ((-1 : Int32), μ2) else (if a2 < (0 : Int32) then some ((-1 : Int32), μ2) else (if a2 ≤ (1 : Int32) then (if a2 = (0 : Int32) then gd (inb a1 60) (some ((s_X0_kind (μ2.2.1 (a0 + 1) a1.toNatClampNeg)), μ2)) else gd (inb a1 60) (some ((s_X0_bits (μ2.2.1 (a0 + 1) a1.toNatClampNeg)), μ2))) else some ((-1 : Int32), μ2)))))) := Classical.choose_spec p_X1_aboutOutput_ex a0 a1 a2 μ
set_option maxHeartbeats 4000000 in
set_option maxRecDepth 100000 in
theorem t_X1_aboutOutput (l : Launch) (G : Gt) (ad : Nat → Nat) (a0 : Nat) (q0 : sh a0 = (0, 0)) (a1 : Int32) (a2 : Int32) (μ : Mem) {r : Int32} {μz : Mem} (h : p_X1_aboutOutput a0 a1 a2 μ = some (r, μz)) : Mt l yX1_aboutOutput cX1_aboutOutput 3 (some .int) ({ frames := 2, cells := 0, slots := 0, locals := 44 } : Room) G [.ref (ad a0), .int a1, .int a2] (wd G ad μ) (eI G ad r μz) := by
  refine Bk.mt (by decide) rfl (Nat.le_of_ble_eq_true rfl) ?_
  intro p e s m below meth c A ls H locs cx hr hlk hA hl hw
  have hx := cx.1
  have hb := cx.2.1
  have hl : lv_has ls 3 [(0, .ref (ad a0)), (1, .int a1), (2, .int a2)] := hl
  rw [p_X1_aboutOutput_eq] at h
  refine lv_iload_n hx hb dX1_aboutOutput_0 rfl (lv_at hl 1 rfl) ?_
  refine lv_if_lt (tgt := 21) hx hb dX1_aboutOutput_1 (by decide) (fun c1 => ?_) (fun c1 => ?_)
  · rw [if_pos c1] at h
    refine lv_iconst (v := (-1)) hx hb dX1_aboutOutput_21 (by decide) ?_
    exact g_iret cx hr hlk hw h dX1_aboutOutput_22
  · rw [if_neg c1] at h
    refine lv_iload_n hx hb dX1_aboutOutput_4 rfl (lv_at hl 1 rfl) ?_
    refine lv_aload_n hx hb dX1_aboutOutput_5 rfl (lv_at hl 0 rfl) ?_
    obtain ⟨r3, μ2, gr3, h⟩ := bd_some h
    refine g_callVI (As := []) (rest := [.int a1]) cx hw hA (t_X1_keptCount l G ad a0 q0 μ gr3) q0 rfl ml_X1_94 im_X1_keptCount se_X1_keptCount in_X1 co_X1_keptCount rfl hd_X1_keptCount rfl ⟨(Nat.le_of_ble_eq_true rfl), (Nat.le_of_ble_eq_true rfl)⟩ hl.1 rfl (Nat.le_of_ble_eq_true rfl) dX1_aboutOutput_6 ⟨rfl, rfl⟩ (fun H locs hw => ?_)
    refine lv_icmp_ge (tgt := 21) hx hb dX1_aboutOutput_9 (by decide) (fun c4 => ?_) (fun c4 => ?_)
    · rw [if_pos c4] at h
      refine lv_iconst (v := (-1)) hx hb dX1_aboutOutput_21 (by decide) ?_
      exact g_iret cx hr hlk hw h dX1_aboutOutput_22
    · rw [if_neg c4] at h
      refine lv_iload_n hx hb dX1_aboutOutput_12 rfl (lv_at hl 2 rfl) ?_
      refine lv_if_lt (tgt := 21) hx hb dX1_aboutOutput_13 (by decide) (fun c5 => ?_) (fun c5 => ?_)
      · rw [if_pos c5] at h
        refine lv_iconst (v := (-1)) hx hb dX1_aboutOutput_21 (by decide) ?_
        exact g_iret cx hr hlk hw h dX1_aboutOutput_22
      · rw [if_neg c5] at h
        refine lv_iload_n hx hb dX1_aboutOutput_16 rfl (lv_at hl 2 rfl) ?_
        refine lv_iconst (v := 1) hx hb dX1_aboutOutput_17 (by decide) ?_
        refine lv_icmp_le (tgt := 23) hx hb dX1_aboutOutput_18 (by decide) (fun c6 => ?_) (fun c6 => ?_)
        · rw [if_pos c6] at h
          refine lv_iload_n hx hb dX1_aboutOutput_23 rfl (lv_at hl 2 rfl) ?_
          refine lv_if_ne (tgt := 39) hx hb dX1_aboutOutput_24 (by decide) (fun c7 => ?_) (fun c7 => ?_)
          · rw [if_neg c7] at h
            refine lv_aload_n hx hb dX1_aboutOutput_39 rfl (lv_at hl 0 rfl) ?_
            refine g_get cx hw inX1 (ci := 0) rfl 7 (by decide) rfl q0 rfl fl_X1_11 dX1_aboutOutput_40 ?_
            refine lv_iload_n hx hb dX1_aboutOutput_43 rfl (lv_at hl 1 rfl) ?_
            refine g_lald cx hw (rl_X1_7 q0) h dX1_aboutOutput_44 (fun h => ?_)
            refine s_callI (As := [.long (μ2.2.1 (a0 + 1) a1.toNatClampNeg)]) (rest := []) cx hw hA (t_X0_bits l G (μ2.2.1 (a0 + 1) a1.toNatClampNeg)) ml_X1_78 st_X0_bits in_X0 co_X0_bits hd_X0_bits rfl ⟨(Nat.le_of_ble_eq_true rfl), (Nat.le_of_ble_eq_true rfl)⟩ hl.1 rfl (Nat.le_of_ble_eq_true rfl) dX1_aboutOutput_45 rfl (fun H locs hw => ?_)
            exact g_iret cx hr hlk hw h dX1_aboutOutput_48
          · rw [if_pos c7] at h
            refine lv_aload_n hx hb dX1_aboutOutput_27 rfl (lv_at hl 0 rfl) ?_
            refine g_get cx hw inX1 (ci := 0) rfl 7 (by decide) rfl q0 rfl fl_X1_11 dX1_aboutOutput_28 ?_
            refine lv_iload_n hx hb dX1_aboutOutput_31 rfl (lv_at hl 1 rfl) ?_
            refine g_lald cx hw (rl_X1_7 q0) h dX1_aboutOutput_32 (fun h => ?_)
            refine s_callI (As := [.long (μ2.2.1 (a0 + 1) a1.toNatClampNeg)]) (rest := []) cx hw hA (t_X0_kind l G (μ2.2.1 (a0 + 1) a1.toNatClampNeg)) ml_X1_98 st_X0_kind in_X0 co_X0_kind hd_X0_kind rfl ⟨(Nat.le_of_ble_eq_true rfl), (Nat.le_of_ble_eq_true rfl)⟩ hl.1 rfl (Nat.le_of_ble_eq_true rfl) dX1_aboutOutput_33 rfl (fun H locs hw => ?_)
            refine lv_goto (tgt := 48) hx hb dX1_aboutOutput_36 (by decide) ?_
            exact g_iret cx hr hlk hw h dX1_aboutOutput_48
        · rw [if_neg c6] at h
          refine lv_iconst (v := (-1)) hx hb dX1_aboutOutput_21 (by decide) ?_
          exact g_iret cx hr hlk hw h dX1_aboutOutput_22

theorem p_X11_output_ex : ∃ f : Int32 → Int32 → Mem → Option (Int32 × Mem), ∀ (a1 : Int32) (a2 : Int32) (μ : Mem), f a1 a2 μ = bd (p_X1_aboutOutput 119 a1 a2 μ) (fun r2 μ1 => some (r2, μ1)) := ⟨fun (a1 : Int32) (a2 : Int32) (μ : Mem) => bd (p_X1_aboutOutput 119 a1 a2 μ) (fun r2 μ1 => some (r2, μ1)), fun _ _ _ => rfl⟩
noncomputable def p_X11_output : Int32 → Int32 → Mem → Option (Int32 × Mem) := Classical.choose p_X11_output_ex
theorem p_X11_output_eq (a1 : Int32) (a2 : Int32) (μ : Mem) : p_X11_output a1 a2 μ = bd (p_X1_aboutOutput 119 a1 a2 μ) (fun r2 μ1 => some (r2, μ1)) := Classical.choose_spec p_X11_output_ex a1 a2 μ
set_option maxHeartbeats 4000000 in
set_option maxRecDepth 100000 in
theorem t_X11_output (l : Launch) (G : Gt) (ad : Nat → Nat) (a1 : Int32) (a2 : Int32) (μ : Mem) {r : Int32} {μz : Mem} (h : p_X11_output a1 a2 μ = some (r, μz)) : Mt l yX11_output cX11_output 3 (some .int) ({ frames := 3, cells := 0, slots := 0, locals := 66 } : Room) G [.ref (ad 0), .int a1, .int a2] (wd G ad μ) (eI G ad r μz) := by
  refine Bk.mt (by decide) rfl (Nat.le_of_ble_eq_true rfl) ?_
  intro p e s m below meth c A ls H locs cx hr hlk hA hl hw
  have hx := cx.1
  have hb := cx.2.1
  have hl : lv_has ls 3 [(0, .ref (ad 0)), (1, .int a1), (2, .int a2)] := hl
  rw [p_X11_output_eq] at h
  refine lv_aload_n hx hb dX11_output_0 rfl (lv_at hl 0 rfl) ?_
  refine g_get cx hw inX11 (ci := 10) rfl 15 (by decide) rfl sh_0 rfl fl_X11_74 dX11_output_1 ?_
  refine lv_iload_n hx hb dX11_output_4 rfl (lv_at hl 1 rfl) ?_
  refine lv_iload_n hx hb dX11_output_5 rfl (lv_at hl 2 rfl) ?_
  obtain ⟨r2, μ1, gr2, h⟩ := bd_some h
  refine g_callVI (As := [.int a1, .int a2]) (rest := []) cx hw hA (t_X1_aboutOutput l G ad 119 sh_119 a1 a2 μ gr2) sh_119 rfl ml_X11_227 im_X1_aboutOutput se_X1_aboutOutput in_X1 co_X1_aboutOutput rfl hd_X1_aboutOutput rfl ⟨(Nat.le_of_ble_eq_true rfl), (Nat.le_of_ble_eq_true rfl)⟩ hl.1 rfl (Nat.le_of_ble_eq_true rfl) dX11_output_6 ⟨rfl, rfl⟩ (fun H locs hw => ?_)
  exact g_iret cx hr hlk hw h dX11_output_9

theorem p_X11_place_ex : ∃ f : Int32 → Mem → Option (Int32 × Mem), ∀ (a1 : Int32) (μ : Mem), f a1 μ = bd (p_X1_placeBits 119 a1 μ) (fun r2 μ1 => some (r2, μ1)) := ⟨fun (a1 : Int32) (μ : Mem) => bd (p_X1_placeBits 119 a1 μ) (fun r2 μ1 => some (r2, μ1)), fun _ _ => rfl⟩
noncomputable def p_X11_place : Int32 → Mem → Option (Int32 × Mem) := Classical.choose p_X11_place_ex
theorem p_X11_place_eq (a1 : Int32) (μ : Mem) : p_X11_place a1 μ = bd (p_X1_placeBits 119 a1 μ) (fun r2 μ1 => some (r2, μ1)) := Classical.choose_spec p_X11_place_ex a1 μ
set_option maxHeartbeats 4000000 in
set_option maxRecDepth 100000 in
theorem t_X11_place (l : Launch) (G : Gt) (ad : Nat → Nat) (a1 : Int32) (μ : Mem) {r : Int32} {μz : Mem} (h : p_X11_place a1 μ = some (r, μz)) : Mt l yX11_place cX11_place 2 (some .int) ({ frames := 1, cells := 0, slots := 0, locals := 21 } : Room) G [.ref (ad 0), .int a1] (wd G ad μ) (eI G ad r μz) := by
  refine Bk.mt (by decide) rfl (Nat.le_of_ble_eq_true rfl) ?_
  intro p e s m below meth c A ls H locs cx hr hlk hA hl hw
  have hx := cx.1
  have hb := cx.2.1
  have hl : lv_has ls 2 [(0, .ref (ad 0)), (1, .int a1)] := hl
  rw [p_X11_place_eq] at h
  refine lv_aload_n hx hb dX11_place_0 rfl (lv_at hl 0 rfl) ?_
  refine g_get cx hw inX11 (ci := 10) rfl 15 (by decide) rfl sh_0 rfl fl_X11_74 dX11_place_1 ?_
  refine lv_iload_n hx hb dX11_place_4 rfl (lv_at hl 1 rfl) ?_
  obtain ⟨r2, μ1, gr2, h⟩ := bd_some h
  refine g_callVI (As := [.int a1]) (rest := []) cx hw hA (t_X1_placeBits l G ad 119 sh_119 a1 μ gr2) sh_119 rfl ml_X11_230 im_X1_placeBits se_X1_placeBits in_X1 co_X1_placeBits rfl hd_X1_placeBits rfl ⟨(Nat.le_of_ble_eq_true rfl), (Nat.le_of_ble_eq_true rfl)⟩ hl.1 rfl (Nat.le_of_ble_eq_true rfl) dX11_place_5 ⟨rfl, rfl⟩ (fun H locs hw => ?_)
  exact g_iret cx hr hlk hw h dX11_place_8

theorem p_X9_add_ex : ∃ f : Int32 → Mem → Option Mem, ∀ (a1 : Int32) (μ : Mem), f a1 μ = (if (40000 : Int32) ≤ (μ.1 159 1) then some μ else gd (inb (μ.1 159 1) 40000) (bv (sF μ 160 (μ.1 159 1).toNatClampNeg (vp_nar .byte (a1.toInt8.toInt32))) (fun μ2 => bv (sF μ2 159 1 ((μ2.1 159 1) + (1 : Int32))) (fun μ3 => some μ3)))) := ⟨fun (a1 : Int32) (μ : Mem) => (if (40000 : Int32) ≤ (μ.1 159 1) then some μ else gd (inb (μ.1 159 1) 40000) (bv (sF μ 160 (μ.1 159 1).toNatClampNeg (vp_nar .byte (a1.toInt8.toInt32))) (fun μ2 => bv (sF μ2 159 1 ((μ2.1 159 1) + (1 : Int32))) (fun μ3 => some μ3)))), fun _ _ => rfl⟩
noncomputable def p_X9_add : Int32 → Mem → Option Mem := Classical.choose p_X9_add_ex
theorem p_X9_add_eq (a1 : Int32) (μ : Mem) : p_X9_add a1 μ = (if (40000 : Int32) ≤ (μ.1 159 1) then some μ else gd (inb (μ.1 159 1) 40000) (bv (sF μ 160 (μ.1 159 1).toNatClampNeg (vp_nar .byte (a1.toInt8.toInt32))) (fun μ2 => bv (sF μ2 159 1 ((μ2.1 159 1) + (1 : Int32))) (fun μ3 => some μ3)))) := Classical.choose_spec p_X9_add_ex a1 μ
set_option maxHeartbeats 4000000 in
set_option maxRecDepth 100000 in
theorem t_X9_add (l : Launch) (G : Gt) (ad : Nat → Nat) (a1 : Int32) (μ : Mem) {μz : Mem} (h : p_X9_add a1 μ = some μz) : Mt l yX9_add cX9_add 2 none ({ frames := 0, cells := 0, slots := 0, locals := 0 } : Room) G [.ref (ad 159), .int a1] (wd G ad μ) (eV G ad μz) := by
  refine Bk.mt (by decide) rfl (Nat.le_of_ble_eq_true rfl) ?_
  intro p e s m below meth c A ls H locs cx hr hlk hA hl hw
  have hx := cx.1
  have hb := cx.2.1
  have hl : lv_has ls 2 [(0, .ref (ad 159)), (1, .int a1)] := hl
  rw [p_X9_add_eq] at h
  refine lv_aload_n hx hb dX9_add_0 rfl (lv_at hl 0 rfl) ?_
  refine g_get cx hw inX9 (ci := 8) rfl 1 (by decide) rfl sh_159 rfl fl_X9_16 dX9_add_1 ?_
  refine lv_ldc hx hb cx.2.2.2.1 (cx.2.2.2.2.1 _ cs_X9_11) dX9_add_4 ?_
  refine lv_icmp_ge (tgt := 30) hx hb dX9_add_6 (by decide) (fun c1 => ?_) (fun c1 => ?_)
  · rw [if_pos c1] at h
    exact g_vret cx hr hlk hw h dX9_add_30
  · rw [if_neg c1] at h
    refine lv_aload_n hx hb dX9_add_9 rfl (lv_at hl 0 rfl) ?_
    refine g_get cx hw inX9 (ci := 8) rfl 0 (by decide) rfl sh_159 rfl fl_X9_12 dX9_add_10 ?_
    refine lv_aload_n hx hb dX9_add_13 rfl (lv_at hl 0 rfl) ?_
    refine g_get cx hw inX9 (ci := 8) rfl 1 (by decide) rfl sh_159 rfl fl_X9_16 dX9_add_14 ?_
    refine lv_iload_n hx hb dX9_add_17 rfl (lv_at hl 1 rfl) ?_
    refine lv_i2b hx hb dX9_add_18 rfl ?_
    refine g_bast cx hw sh_160 h dX9_add_19 (fun μ2 H locs h hw => ?_)
    refine lv_aload_n hx hb dX9_add_20 rfl (lv_at hl 0 rfl) ?_
    refine lv_dup hx hb dX9_add_21 rfl ?_
    refine g_get cx hw inX9 (ci := 8) rfl 1 (by decide) rfl sh_159 rfl fl_X9_16 dX9_add_22 ?_
    refine lv_iconst (v := 1) hx hb dX9_add_25 (by decide) ?_
    refine lv_iadd hx hb dX9_add_26 ?_
    refine g_put cx hw inX9 (ci := 8) rfl tyX9_ok nmX9 1 (by decide) rfl rfl rfl rfl sh_159 h fl_X9_16 dX9_add_27 (fun μ3 H locs h hw => ?_)
    exact g_vret cx hr hlk hw h dX9_add_30

theorem p_X9_addInt_b59_ex : ∃ f : Nat → Int64 → Int64 → Int32 → Mem → Option Mem, (∀ (a2 : Int64) (a4 : Int64) (a6 : Int32) (μ : Mem), f  0 a2 a4 a6 μ = none) ∧ (∀ (n : Nat) (a2 : Int64) (a4 : Int64) (a6 : Int32) (μ : Mem), f  (n + 1) a2 a4 a6 μ = (if (10 : Int32) < a6 then some μ else (if (lg_cmp a4 (0 : Int64)) ≤ (0 : Int32) then some μ else gd (!(a4 == 0)) (bw (p_X9_add ((48 : Int32) + (((a2 / a4) - (a2 / a4) / (10 : Int64) * (10 : Int64)).toInt32)) μ) (fun μ7 => bv (a4 / (10 : Int64)) (fun v9 => bv (a6 + 1) (fun v10 => f n a2 v9 v10 μ7))))))) := ⟨fun n => Nat.rec (fun (a2 : Int64) (a4 : Int64) (a6 : Int32) (μ : Mem) => none) (fun _ ih => fun (a2 : Int64) (a4 : Int64) (a6 : Int32) (μ : Mem) => (if (10 : Int32) < a6 then some μ else (if (lg_cmp a4 (0 : Int64)) ≤ (0 : Int32) then some μ else gd (!(a4 == 0)) (bw (p_X9_add ((48 : Int32) + (((a2 / a4) - (a2 / a4) / (10 : Int64) * (10 : Int64)).toInt32)) μ) (fun μ7 => bv (a4 / (10 : Int64)) (fun v9 => bv (a6 + 1) (fun v10 => ih a2 v9 v10 μ7))))))) n, fun  _ _ _ _ => rfl, fun  _ _ _ _ _ => rfl⟩
noncomputable def p_X9_addInt_b59 : Nat → Int64 → Int64 → Int32 → Mem → Option Mem := Classical.choose p_X9_addInt_b59_ex
theorem p_X9_addInt_b59_z (a2 : Int64) (a4 : Int64) (a6 : Int32) (μ : Mem) : p_X9_addInt_b59  0 a2 a4 a6 μ = none := (Classical.choose_spec p_X9_addInt_b59_ex).1  a2 a4 a6 μ
theorem p_X9_addInt_b59_s (n : Nat) (a2 : Int64) (a4 : Int64) (a6 : Int32) (μ : Mem) : p_X9_addInt_b59  (n + 1) a2 a4 a6 μ = (if (10 : Int32) < a6 then some μ else (if (lg_cmp a4 (0 : Int64)) ≤ (0 : Int32) then some μ else gd (!(a4 == 0)) (bw (p_X9_add ((48 : Int32) + (((a2 / a4) - (a2 / a4) / (10 : Int64) * (10 : Int64)).toInt32)) μ) (fun μ7 => bv (a4 / (10 : Int64)) (fun v9 => bv (a6 + 1) (fun v10 => p_X9_addInt_b59  n a2 v9 v10 μ7)))))) := (Classical.choose_spec p_X9_addInt_b59_ex).2  n a2 a4 a6 μ
set_option maxHeartbeats 4000000 in
set_option maxRecDepth 100000 in
theorem t_X9_addInt_b59 (l : Launch) (G : Gt) (ad : Nat → Nat) (av : List Value) {μz : Mem} : ∀ (n : Nat) (a2 : Int64) (a4 : Int64) (a6 : Int32) (μ : Mem), p_X9_addInt_b59  n a2 a4 a6 μ = some μz → Bk l cX9_addInt 7 RX9 none ({ frames := 1, cells := 0, slots := 0, locals := 21 } : Room) G av (eV G ad μz) (wd G ad μ) 59 [(0, .ref (ad 159)), (2, .long a2), (4, .long a4), (6, .int a6)] [] := by
  intro n
  induction n with
  | zero => intro a2 a4 a6 μ h; rw [p_X9_addInt_b59_z] at h; cases h
  | succ n ih =>
    intro a2 a4 a6 μ h p e s m below meth c A ls H locs cx hr hlk hA hl hw
    have hx := cx.1
    have hb := cx.2.1
    rw [p_X9_addInt_b59_s] at h
    refine lv_iload hx hb dX9_addInt_59 (lv_at hl 3 rfl) ?_
    refine lv_bipush (v := 10) hx hb dX9_addInt_61 (by decide) ?_
    refine lv_icmp_gt (tgt := 103) hx hb dX9_addInt_63 (by decide) (fun c4 => ?_) (fun c4 => ?_)
    · rw [if_pos c4] at h
      exact g_vret cx hr hlk hw h dX9_addInt_103
    · rw [if_neg c4] at h
      refine lv_lload hx hb dX9_addInt_66 (lv_at hl 2 rfl) ?_
      refine lv_lconst (v := 0) hx hb dX9_addInt_68 (by decide) ?_
      refine W.lcmp hx hb dX9_addInt_69 ?_
      refine lv_if_le (tgt := 103) hx hb dX9_addInt_70 (by decide) (fun c5 => ?_) (fun c5 => ?_)
      · rw [if_pos c5] at h
        exact g_vret cx hr hlk hw h dX9_addInt_103
      · rw [if_neg c5] at h
        refine lv_aload_n hx hb dX9_addInt_73 rfl (lv_at hl 0 rfl) ?_
        refine lv_bipush (v := 48) hx hb dX9_addInt_74 (by decide) ?_
        refine lv_lload_n hx hb dX9_addInt_76 rfl (lv_at hl 1 rfl) ?_
        refine lv_lload hx hb dX9_addInt_77 (lv_at hl 2 rfl) ?_
        obtain ⟨c6, h⟩ := gd_some h
        refine lv_ldiv hx hb dX9_addInt_79 (nz_of c6) ?_
        refine lv_ldc2 hx hb cx.2.2.2.1 (cx.2.2.2.2.1 _ cs_X9_46) dX9_addInt_80 ?_
        refine lv_lrem hx hb dX9_addInt_83 (by decide) ?_
        refine lv_l2i hx hb dX9_addInt_84 rfl ?_
        refine lv_iadd hx hb dX9_addInt_85 ?_
        obtain ⟨μ7, gμ7, h⟩ := bw_some h
        refine g_callVV (As := [.int ((48 : Int32) + (((a2 / a4) - (a2 / a4) / (10 : Int64) * (10 : Int64)).toInt32))]) (rest := []) cx hw hA (t_X9_add l G ad ((48 : Int32) + (((a2 / a4) - (a2 / a4) / (10 : Int64) * (10 : Int64)).toInt32)) μ gμ7) sh_159 rfl ml_X9_34 im_X9_add se_X9_add in_X9 co_X9_add rfl hd_X9_add rfl ⟨(Nat.le_of_ble_eq_true rfl), (Nat.le_of_ble_eq_true rfl)⟩ hl.1 rfl (Nat.le_of_ble_eq_true rfl) dX9_addInt_86 ⟨rfl, rfl⟩ (fun H locs hw => ?_)
        refine lv_lload hx hb dX9_addInt_89 (lv_at hl 2 rfl) ?_
        refine lv_ldc2 hx hb cx.2.2.2.1 (cx.2.2.2.2.1 _ cs_X9_46) dX9_addInt_91 ?_
        refine lv_ldiv hx hb dX9_addInt_94 (by decide) ?_
        obtain ⟨v9, ev9, h⟩ := bv_ex h
        refine lv_topl (fun y9 z9 => ?_)
        obtain rfl : y9 = v9 := z9.trans ev9.symm
        refine lv_lstore (lv' := [(4, .long v9), (0, .ref (ad 159)), (2, .long a2), (6, .int a6)]) hx hb dX9_addInt_95 hl (by decide) rfl (fun ls hl => ?_)
        obtain ⟨v10, ev10, h⟩ := bv_ex h
        refine lv_iinc (v := v10) (lv' := [(6, .int v10), (4, .long v9), (0, .ref (ad 159)), (2, .long a2)]) hx hb dX9_addInt_97 hl (k := 3) rfl (by rw [ev10]; rfl) (by decide) rfl (fun ls hl => ?_)
        refine lv_goto (tgt := 59) hx hb dX9_addInt_100 (by decide) ?_
        exact ih a2 v9 v10 μ7 h p e s m below meth c A ls H locs cx hr hlk hA (lv_sub hl [2, 3, 1, 0] rfl) hw
theorem p_X9_addInt_b56_ex : ∃ f : Int64 → Int64 → Mem → Option Mem, ∀ (a2 : Int64) (a4 : Int64) (μ : Mem), f a2 a4 μ = p_X9_addInt_b59  FUEL a2 a4 (0 : Int32) μ := ⟨fun (a2 : Int64) (a4 : Int64) (μ : Mem) => p_X9_addInt_b59  FUEL a2 a4 (0 : Int32) μ, fun _ _ _ => rfl⟩
noncomputable def p_X9_addInt_b56 : Int64 → Int64 → Mem → Option Mem := Classical.choose p_X9_addInt_b56_ex
theorem p_X9_addInt_b56_eq (a2 : Int64) (a4 : Int64) (μ : Mem) : p_X9_addInt_b56 a2 a4 μ = p_X9_addInt_b59  FUEL a2 a4 (0 : Int32) μ := Classical.choose_spec p_X9_addInt_b56_ex a2 a4 μ
set_option maxHeartbeats 4000000 in
set_option maxRecDepth 100000 in
theorem t_X9_addInt_b56 (l : Launch) (G : Gt) (ad : Nat → Nat) (av : List Value) {μz : Mem} (a2 : Int64) (a4 : Int64) (μ : Mem) (h : p_X9_addInt_b56  a2 a4 μ = some μz) : Bk l cX9_addInt 7 RX9 none ({ frames := 1, cells := 0, slots := 0, locals := 21 } : Room) G av (eV G ad μz) (wd G ad μ) 56 [(0, .ref (ad 159)), (2, .long a2), (4, .long a4)] [] := by
  intro p e s m below meth c A ls H locs cx hr hlk hA hl hw
  have hx := cx.1
  have hb := cx.2.1
  rw [p_X9_addInt_b56_eq] at h
  refine lv_iconst (v := 0) hx hb dX9_addInt_56 (by decide) ?_
  refine lv_istore (lv' := [(6, .int 0), (0, .ref (ad 159)), (2, .long a2), (4, .long a4)]) hx hb dX9_addInt_57 hl (by decide) rfl (fun ls hl => ?_)
  exact t_X9_addInt_b59 l G ad av  FUEL a2 a4 (0 : Int32) μ h p e s m below meth c A ls H locs cx hr hlk hA (lv_sub hl [1, 2, 3, 0] rfl) hw
theorem p_X9_addInt_b24_ex : ∃ f : Nat → Int64 → Int64 → Int32 → Mem → Option Mem, (∀ (a2 : Int64) (a4 : Int64) (a6 : Int32) (μ : Mem), f  0 a2 a4 a6 μ = none) ∧ (∀ (n : Nat) (a2 : Int64) (a4 : Int64) (a6 : Int32) (μ : Mem), f  (n + 1) a2 a4 a6 μ = (if (10 : Int32) ≤ a6 then p_X9_addInt_b56  a2 a4 μ else (if (0 : Int32) < (lg_cmp (a4 * (10 : Int64)) a2) then p_X9_addInt_b56  a2 a4 μ else bv (a4 * (10 : Int64)) (fun v12 => bv (a6 + 1) (fun v13 => f n a2 v12 v13 μ))))) := ⟨fun n => Nat.rec (fun (a2 : Int64) (a4 : Int64) (a6 : Int32) (μ : Mem) => none) (fun _ ih => fun (a2 : Int64) (a4 : Int64) (a6 : Int32) (μ : Mem) => (if (10 : Int32) ≤ a6 then p_X9_addInt_b56  a2 a4 μ else (if (0 : Int32) < (lg_cmp (a4 * (10 : Int64)) a2) then p_X9_addInt_b56  a2 a4 μ else bv (a4 * (10 : Int64)) (fun v12 => bv (a6 + 1) (fun v13 => ih a2 v12 v13 μ))))) n, fun  _ _ _ _ => rfl, fun  _ _ _ _ _ => rfl⟩
noncomputable def p_X9_addInt_b24 : Nat → Int64 → Int64 → Int32 → Mem → Option Mem := Classical.choose p_X9_addInt_b24_ex
theorem p_X9_addInt_b24_z (a2 : Int64) (a4 : Int64) (a6 : Int32) (μ : Mem) : p_X9_addInt_b24  0 a2 a4 a6 μ = none := (Classical.choose_spec p_X9_addInt_b24_ex).1  a2 a4 a6 μ
theorem p_X9_addInt_b24_s (n : Nat) (a2 : Int64) (a4 : Int64) (a6 : Int32) (μ : Mem) : p_X9_addInt_b24  (n + 1) a2 a4 a6 μ = (if (10 : Int32) ≤ a6 then p_X9_addInt_b56  a2 a4 μ else (if (0 : Int32) < (lg_cmp (a4 * (10 : Int64)) a2) then p_X9_addInt_b56  a2 a4 μ else bv (a4 * (10 : Int64)) (fun v12 => bv (a6 + 1) (fun v13 => p_X9_addInt_b24  n a2 v12 v13 μ)))) := (Classical.choose_spec p_X9_addInt_b24_ex).2  n a2 a4 a6 μ
set_option maxHeartbeats 4000000 in
set_option maxRecDepth 100000 in
theorem t_X9_addInt_b24 (l : Launch) (G : Gt) (ad : Nat → Nat) (av : List Value) {μz : Mem} : ∀ (n : Nat) (a2 : Int64) (a4 : Int64) (a6 : Int32) (μ : Mem), p_X9_addInt_b24  n a2 a4 a6 μ = some μz → Bk l cX9_addInt 7 RX9 none ({ frames := 1, cells := 0, slots := 0, locals := 21 } : Room) G av (eV G ad μz) (wd G ad μ) 24 [(0, .ref (ad 159)), (2, .long a2), (4, .long a4), (6, .int a6)] [] := by
  intro n
  induction n with
  | zero => intro a2 a4 a6 μ h; rw [p_X9_addInt_b24_z] at h; cases h
  | succ n ih =>
    intro a2 a4 a6 μ h p e s m below meth c A ls H locs cx hr hlk hA hl hw
    have hx := cx.1
    have hb := cx.2.1
    rw [p_X9_addInt_b24_s] at h
    refine lv_iload hx hb dX9_addInt_24 (lv_at hl 3 rfl) ?_
    refine lv_bipush (v := 10) hx hb dX9_addInt_26 (by decide) ?_
    refine lv_icmp_ge (tgt := 56) hx hb dX9_addInt_28 (by decide) (fun c3 => ?_) (fun c3 => ?_)
    · rw [if_pos c3] at h
      exact t_X9_addInt_b56 l G ad av  a2 a4 μ h p e s m below meth c A ls H locs cx hr hlk hA (lv_sub hl [0, 1, 2] rfl) hw
    · rw [if_neg c3] at h
      refine lv_lload hx hb dX9_addInt_31 (lv_at hl 2 rfl) ?_
      refine lv_ldc2 hx hb cx.2.2.2.1 (cx.2.2.2.2.1 _ cs_X9_46) dX9_addInt_33 ?_
      refine lv_lmul hx hb dX9_addInt_36 ?_
      refine lv_lload_n hx hb dX9_addInt_37 rfl (lv_at hl 1 rfl) ?_
      refine W.lcmp hx hb dX9_addInt_38 ?_
      refine lv_if_gt (tgt := 56) hx hb dX9_addInt_39 (by decide) (fun c11 => ?_) (fun c11 => ?_)
      · rw [if_pos c11] at h
        exact t_X9_addInt_b56 l G ad av  a2 a4 μ h p e s m below meth c A ls H locs cx hr hlk hA (lv_sub hl [0, 1, 2] rfl) hw
      · rw [if_neg c11] at h
        refine lv_lload hx hb dX9_addInt_42 (lv_at hl 2 rfl) ?_
        refine lv_ldc2 hx hb cx.2.2.2.1 (cx.2.2.2.2.1 _ cs_X9_46) dX9_addInt_44 ?_
        refine lv_lmul hx hb dX9_addInt_47 ?_
        obtain ⟨v12, ev12, h⟩ := bv_ex h
        refine lv_topl (fun y9 z9 => ?_)
        obtain rfl : y9 = v12 := z9.trans ev12.symm
        refine lv_lstore (lv' := [(4, .long v12), (0, .ref (ad 159)), (2, .long a2), (6, .int a6)]) hx hb dX9_addInt_48 hl (by decide) rfl (fun ls hl => ?_)
        obtain ⟨v13, ev13, h⟩ := bv_ex h
        refine lv_iinc (v := v13) (lv' := [(6, .int v13), (4, .long v12), (0, .ref (ad 159)), (2, .long a2)]) hx hb dX9_addInt_50 hl (k := 3) rfl (by rw [ev13]; rfl) (by decide) rfl (fun ls hl => ?_)
        refine lv_goto (tgt := 24) hx hb dX9_addInt_53 (by decide) ?_
        exact ih a2 v12 v13 μ h p e s m below meth c A ls H locs cx hr hlk hA (lv_sub hl [2, 3, 1, 0] rfl) hw
theorem p_X9_addInt_b18_ex : ∃ f : Int64 → Mem → Option Mem, ∀ (a2 : Int64) (μ : Mem), f a2 μ = p_X9_addInt_b24  FUEL a2 (1 : Int64) (0 : Int32) μ := ⟨fun (a2 : Int64) (μ : Mem) => p_X9_addInt_b24  FUEL a2 (1 : Int64) (0 : Int32) μ, fun _ _ => rfl⟩
noncomputable def p_X9_addInt_b18 : Int64 → Mem → Option Mem := Classical.choose p_X9_addInt_b18_ex
theorem p_X9_addInt_b18_eq (a2 : Int64) (μ : Mem) : p_X9_addInt_b18 a2 μ = p_X9_addInt_b24  FUEL a2 (1 : Int64) (0 : Int32) μ := Classical.choose_spec p_X9_addInt_b18_ex a2 μ
set_option maxHeartbeats 4000000 in
set_option maxRecDepth 100000 in
theorem t_X9_addInt_b18 (l : Launch) (G : Gt) (ad : Nat → Nat) (av : List Value) {μz : Mem} (a2 : Int64) (μ : Mem) (h : p_X9_addInt_b18  a2 μ = some μz) : Bk l cX9_addInt 7 RX9 none ({ frames := 1, cells := 0, slots := 0, locals := 21 } : Room) G av (eV G ad μz) (wd G ad μ) 18 [(0, .ref (ad 159)), (2, .long a2)] [] := by
  intro p e s m below meth c A ls H locs cx hr hlk hA hl hw
  have hx := cx.1
  have hb := cx.2.1
  rw [p_X9_addInt_b18_eq] at h
  refine lv_lconst (v := 1) hx hb dX9_addInt_18 (by decide) ?_
  refine lv_lstore (lv' := [(4, .long 1), (0, .ref (ad 159)), (2, .long a2)]) hx hb dX9_addInt_19 hl (by decide) rfl (fun ls hl => ?_)
  refine lv_iconst (v := 0) hx hb dX9_addInt_21 (by decide) ?_
  refine lv_istore (lv' := [(6, .int 0), (4, .long 1), (0, .ref (ad 159)), (2, .long a2)]) hx hb dX9_addInt_22 hl (by decide) rfl (fun ls hl => ?_)
  exact t_X9_addInt_b24 l G ad av  FUEL a2 (1 : Int64) (0 : Int32) μ h p e s m below meth c A ls H locs cx hr hlk hA (lv_sub hl [2, 3, 1, 0] rfl) hw
theorem p_X9_addInt_ex : ∃ f : Int32 → Mem → Option Mem, ∀ (a1 : Int32) (μ : Mem), f a1 μ = bv (a1.toInt64) (fun v1 => (if (0 : Int32) ≤ (lg_cmp v1 (0 : Int64)) then p_X9_addInt_b18  v1 μ else bw (p_X9_add (45 : Int32) μ) (fun μ14 => bv (-v1) (fun v16 => p_X9_addInt_b18  v16 μ14)))) := ⟨fun (a1 : Int32) (μ : Mem) => bv (a1.toInt64) (fun v1 => (if (0 : Int32) ≤ (lg_cmp v1 (0 : Int64)) then p_X9_addInt_b18  v1 μ else bw (p_X9_add (45 : Int32) μ) (fun μ14 => bv (-v1) (fun v16 => p_X9_addInt_b18  v16 μ14)))), fun _ _ => rfl⟩
noncomputable def p_X9_addInt : Int32 → Mem → Option Mem := Classical.choose p_X9_addInt_ex
theorem p_X9_addInt_eq (a1 : Int32) (μ : Mem) : p_X9_addInt a1 μ = bv (a1.toInt64) (fun v1 => (if (0 : Int32) ≤ (lg_cmp v1 (0 : Int64)) then p_X9_addInt_b18  v1 μ else bw (p_X9_add (45 : Int32) μ) (fun μ14 => bv (-v1) (fun v16 => p_X9_addInt_b18  v16 μ14)))) := Classical.choose_spec p_X9_addInt_ex a1 μ
set_option maxHeartbeats 4000000 in
set_option maxRecDepth 100000 in
theorem t_X9_addInt (l : Launch) (G : Gt) (ad : Nat → Nat) (a1 : Int32) (μ : Mem) {μz : Mem} (h : p_X9_addInt a1 μ = some μz) : Mt l yX9_addInt cX9_addInt 7 none ({ frames := 1, cells := 0, slots := 0, locals := 21 } : Room) G [.ref (ad 159), .int a1] (wd G ad μ) (eV G ad μz) := by
  refine Bk.mt (by decide) rfl (Nat.le_of_ble_eq_true rfl) ?_
  intro p e s m below meth c A ls H locs cx hr hlk hA hl hw
  have hx := cx.1
  have hb := cx.2.1
  have hl : lv_has ls 7 [(0, .ref (ad 159)), (1, .int a1)] := hl
  rw [p_X9_addInt_eq] at h
  refine lv_iload_n hx hb dX9_addInt_0 rfl (lv_at hl 1 rfl) ?_
  refine lv_i2l hx hb dX9_addInt_1 rfl ?_
  obtain ⟨v1, ev1, h⟩ := bv_ex h
  refine lv_topl (fun y9 z9 => ?_)
  obtain rfl : y9 = v1 := z9.trans ev1.symm
  refine lv_lstore_n (lv' := [(2, .long v1), (0, .ref (ad 159)), (1, .int a1)]) hx hb dX9_addInt_2 rfl hl (by decide) rfl (fun ls hl => ?_)
  refine lv_lload_n hx hb dX9_addInt_3 rfl (lv_at hl 0 rfl) ?_
  refine lv_lconst (v := 0) hx hb dX9_addInt_4 (by decide) ?_
  refine W.lcmp hx hb dX9_addInt_5 ?_
  refine lv_if_ge (tgt := 18) hx hb dX9_addInt_6 (by decide) (fun c2 => ?_) (fun c2 => ?_)
  · rw [if_pos c2] at h
    exact t_X9_addInt_b18 l G ad _  v1 μ h p e s m below meth c A ls H locs cx hr hlk hA (lv_sub hl [1, 0] rfl) hw
  · rw [if_neg c2] at h
    refine lv_aload_n hx hb dX9_addInt_9 rfl (lv_at hl 1 rfl) ?_
    refine lv_bipush (v := 45) hx hb dX9_addInt_10 (by decide) ?_
    obtain ⟨μ14, gμ14, h⟩ := bw_some h
    refine g_callVV (As := [.int 45]) (rest := []) cx hw hA (t_X9_add l G ad (45 : Int32) μ gμ14) sh_159 rfl ml_X9_34 im_X9_add se_X9_add in_X9 co_X9_add rfl hd_X9_add rfl ⟨(Nat.le_of_ble_eq_true rfl), (Nat.le_of_ble_eq_true rfl)⟩ hl.1 rfl (Nat.le_of_ble_eq_true rfl) dX9_addInt_12 ⟨rfl, rfl⟩ (fun H locs hw => ?_)
    refine lv_lload_n hx hb dX9_addInt_15 rfl (lv_at hl 0 rfl) ?_
    refine lv_lneg hx hb dX9_addInt_16 ?_
    obtain ⟨v16, ev16, h⟩ := bv_ex h
    refine lv_topl (fun y9 z9 => ?_)
    obtain rfl : y9 = v16 := z9.trans ev16.symm
    refine lv_lstore_n (lv' := [(2, .long v16), (0, .ref (ad 159)), (1, .int a1)]) hx hb dX9_addInt_17 rfl hl (by decide) rfl (fun ls hl => ?_)
    exact t_X9_addInt_b18 l G ad _  v16 μ14 h p e s m below meth c A ls H locs cx hr hlk hA (lv_sub hl [1, 0] rfl) hw

theorem p_X9_addSymbol_ex : ∃ f : Int64 → Mem → Option Mem, ∀ (a1 : Int64) (μ : Mem), f a1 μ = bv (s_X0_kind a1) (fun v1 => (if v1 = (4 : Int32) then bw (p_X9_add (42 : Int32) μ) (fun μ15 => some μ15) else (if v1 = (1 : Int32) then bw (p_X9_add (102 : Int32) μ) (fun μ11 => bw (p_X9_addInt (s_X0_bits a1) μ11) (fun μ13 => some μ13)) else (if v1 = (3 : Int32) then bw (p_X9_add (114 : Int32) μ) (fun μ7 => bw (p_X9_addInt (s_X0_bits a1) μ7) (fun μ9 => some μ9)) else bw (p_X9_addInt (s_X0_bits a1) μ) (fun μ5 => some μ5))))) := ⟨fun (a1 : Int64) (μ : Mem) => bv (s_X0_kind a1) (fun v1 => (if v1 = (4 : Int32) then bw (p_X9_add (42 : Int32) μ) (fun μ15 => some μ15) else (if v1 = (1 : Int32) then bw (p_X9_add (102 : Int32) μ) (fun μ11 => bw (p_X9_addInt (s_X0_bits a1) μ11) (fun μ13 => some μ13)) else (if v1 = (3 : Int32) then bw (p_X9_add (114 : Int32) μ) (fun μ7 => bw (p_X9_addInt (s_X0_bits a1) μ7) (fun μ9 => some μ9)) else bw (p_X9_addInt (s_X0_bits a1) μ) (fun μ5 => some μ5))))), fun _ _ => rfl⟩
noncomputable def p_X9_addSymbol : Int64 → Mem → Option Mem := Classical.choose p_X9_addSymbol_ex
theorem p_X9_addSymbol_eq (a1 : Int64) (μ : Mem) : p_X9_addSymbol a1 μ = bv (s_X0_kind a1) (fun v1 => (if v1 = (4 : Int32) then bw (p_X9_add (42 : Int32) μ) (fun μ15 => some μ15) else (if v1 = (1 : Int32) then bw (p_X9_add (102 : Int32) μ) (fun μ11 => bw (p_X9_addInt (s_X0_bits a1) μ11) (fun μ13 => some μ13)) else (if v1 = (3 : Int32) then bw (p_X9_add (114 : Int32) μ) (fun μ7 => bw (p_X9_addInt (s_X0_bits a1) μ7) (fun μ9 => some μ9)) else bw (p_X9_addInt (s_X0_bits a1) μ) (fun μ5 => some μ5))))) := Classical.choose_spec p_X9_addSymbol_ex a1 μ
set_option maxHeartbeats 4000000 in
set_option maxRecDepth 100000 in
theorem t_X9_addSymbol (l : Launch) (G : Gt) (ad : Nat → Nat) (a1 : Int64) (μ : Mem) {μz : Mem} (h : p_X9_addSymbol a1 μ = some μz) : Mt l yX9_addSymbol cX9_addSymbol 4 none ({ frames := 2, cells := 0, slots := 0, locals := 47 } : Room) G [.ref (ad 159), .long a1] (wd G ad μ) (eV G ad μz) := by
  refine Bk.mt (by decide) rfl (Nat.le_of_ble_eq_true rfl) ?_
  intro p e s m below meth c A ls H locs cx hr hlk hA hl hw
  have hx := cx.1
  have hb := cx.2.1
  have hl : lv_has ls 4 [(0, .ref (ad 159)), (1, .long a1)] := hl
  rw [p_X9_addSymbol_eq] at h
  refine lv_lload_n hx hb dX9_addSymbol_0 rfl (lv_at hl 1 rfl) ?_
  refine s_callI (As := [.long a1]) (rest := []) cx hw hA (t_X0_kind l G a1) ml_X9_48 st_X0_kind in_X0 co_X0_kind hd_X0_kind rfl ⟨(Nat.le_of_ble_eq_true rfl), (Nat.le_of_ble_eq_true rfl)⟩ hl.1 rfl (Nat.le_of_ble_eq_true rfl) dX9_addSymbol_1 rfl (fun H locs hw => ?_)
  obtain ⟨v1, ev1, h⟩ := bv_ex h
  refine lv_topi (fun y9 z9 => ?_)
  obtain rfl : y9 = v1 := z9.trans ev1.symm
  refine lv_istore_n (lv' := [(3, .int v1), (0, .ref (ad 159)), (1, .long a1)]) hx hb dX9_addSymbol_4 rfl hl (by decide) rfl (fun ls hl => ?_)
  refine lv_iload_n hx hb dX9_addSymbol_5 rfl (lv_at hl 0 rfl) ?_
  refine lv_iconst (v := 4) hx hb dX9_addSymbol_6 (by decide) ?_
  refine lv_icmp_ne (tgt := 17) hx hb dX9_addSymbol_7 (by decide) (fun c2 => ?_) (fun c2 => ?_)
  · rw [if_neg c2] at h
    refine lv_iload_n hx hb dX9_addSymbol_17 rfl (lv_at hl 0 rfl) ?_
    refine lv_iconst (v := 1) hx hb dX9_addSymbol_18 (by decide) ?_
    refine lv_icmp_ne (tgt := 31) hx hb dX9_addSymbol_19 (by decide) (fun c3 => ?_) (fun c3 => ?_)
    · rw [if_neg c3] at h
      refine lv_iload_n hx hb dX9_addSymbol_31 rfl (lv_at hl 0 rfl) ?_
      refine lv_iconst (v := 3) hx hb dX9_addSymbol_32 (by decide) ?_
      refine lv_icmp_ne (tgt := 42) hx hb dX9_addSymbol_33 (by decide) (fun c4 => ?_) (fun c4 => ?_)
      · rw [if_neg c4] at h
        refine lv_aload_n hx hb dX9_addSymbol_42 rfl (lv_at hl 1 rfl) ?_
        refine lv_lload_n hx hb dX9_addSymbol_43 rfl (lv_at hl 2 rfl) ?_
        refine s_callI (As := [.long a1]) (rest := [.ref (ad 159)]) cx hw hA (t_X0_bits l G a1) ml_X9_54 st_X0_bits in_X0 co_X0_bits hd_X0_bits rfl ⟨(Nat.le_of_ble_eq_true rfl), (Nat.le_of_ble_eq_true rfl)⟩ hl.1 rfl (Nat.le_of_ble_eq_true rfl) dX9_addSymbol_44 rfl (fun H locs hw => ?_)
        obtain ⟨μ5, gμ5, h⟩ := bw_some h
        refine g_callVV (As := [.int (s_X0_bits a1)]) (rest := []) cx hw hA (t_X9_addInt l G ad (s_X0_bits a1) μ gμ5) sh_159 rfl ml_X9_57 im_X9_addInt se_X9_addInt in_X9 co_X9_addInt rfl hd_X9_addInt rfl ⟨(Nat.le_of_ble_eq_true rfl), (Nat.le_of_ble_eq_true rfl)⟩ hl.1 rfl (Nat.le_of_ble_eq_true rfl) dX9_addSymbol_47 ⟨rfl, rfl⟩ (fun H locs hw => ?_)
        exact g_vret cx hr hlk hw h dX9_addSymbol_50
      · rw [if_pos c4] at h
        refine lv_aload_n hx hb dX9_addSymbol_36 rfl (lv_at hl 1 rfl) ?_
        refine lv_bipush (v := 114) hx hb dX9_addSymbol_37 (by decide) ?_
        obtain ⟨μ7, gμ7, h⟩ := bw_some h
        refine g_callVV (As := [.int 114]) (rest := []) cx hw hA (t_X9_add l G ad (114 : Int32) μ gμ7) sh_159 rfl ml_X9_34 im_X9_add se_X9_add in_X9 co_X9_add rfl hd_X9_add rfl ⟨(Nat.le_of_ble_eq_true rfl), (Nat.le_of_ble_eq_true rfl)⟩ hl.1 rfl (Nat.le_of_ble_eq_true rfl) dX9_addSymbol_39 ⟨rfl, rfl⟩ (fun H locs hw => ?_)
        refine lv_aload_n hx hb dX9_addSymbol_42 rfl (lv_at hl 1 rfl) ?_
        refine lv_lload_n hx hb dX9_addSymbol_43 rfl (lv_at hl 2 rfl) ?_
        refine s_callI (As := [.long a1]) (rest := [.ref (ad 159)]) cx hw hA (t_X0_bits l G a1) ml_X9_54 st_X0_bits in_X0 co_X0_bits hd_X0_bits rfl ⟨(Nat.le_of_ble_eq_true rfl), (Nat.le_of_ble_eq_true rfl)⟩ hl.1 rfl (Nat.le_of_ble_eq_true rfl) dX9_addSymbol_44 rfl (fun H locs hw => ?_)
        obtain ⟨μ9, gμ9, h⟩ := bw_some h
        refine g_callVV (As := [.int (s_X0_bits a1)]) (rest := []) cx hw hA (t_X9_addInt l G ad (s_X0_bits a1) μ7 gμ9) sh_159 rfl ml_X9_57 im_X9_addInt se_X9_addInt in_X9 co_X9_addInt rfl hd_X9_addInt rfl ⟨(Nat.le_of_ble_eq_true rfl), (Nat.le_of_ble_eq_true rfl)⟩ hl.1 rfl (Nat.le_of_ble_eq_true rfl) dX9_addSymbol_47 ⟨rfl, rfl⟩ (fun H locs hw => ?_)
        exact g_vret cx hr hlk hw h dX9_addSymbol_50
    · rw [if_pos c3] at h
      refine lv_aload_n hx hb dX9_addSymbol_22 rfl (lv_at hl 1 rfl) ?_
      refine lv_bipush (v := 102) hx hb dX9_addSymbol_23 (by decide) ?_
      obtain ⟨μ11, gμ11, h⟩ := bw_some h
      refine g_callVV (As := [.int 102]) (rest := []) cx hw hA (t_X9_add l G ad (102 : Int32) μ gμ11) sh_159 rfl ml_X9_34 im_X9_add se_X9_add in_X9 co_X9_add rfl hd_X9_add rfl ⟨(Nat.le_of_ble_eq_true rfl), (Nat.le_of_ble_eq_true rfl)⟩ hl.1 rfl (Nat.le_of_ble_eq_true rfl) dX9_addSymbol_25 ⟨rfl, rfl⟩ (fun H locs hw => ?_)
      refine lv_goto (tgt := 42) hx hb dX9_addSymbol_28 (by decide) ?_
      refine lv_aload_n hx hb dX9_addSymbol_42 rfl (lv_at hl 1 rfl) ?_
      refine lv_lload_n hx hb dX9_addSymbol_43 rfl (lv_at hl 2 rfl) ?_
      refine s_callI (As := [.long a1]) (rest := [.ref (ad 159)]) cx hw hA (t_X0_bits l G a1) ml_X9_54 st_X0_bits in_X0 co_X0_bits hd_X0_bits rfl ⟨(Nat.le_of_ble_eq_true rfl), (Nat.le_of_ble_eq_true rfl)⟩ hl.1 rfl (Nat.le_of_ble_eq_true rfl) dX9_addSymbol_44 rfl (fun H locs hw => ?_)
      obtain ⟨μ13, gμ13, h⟩ := bw_some h
      refine g_callVV (As := [.int (s_X0_bits a1)]) (rest := []) cx hw hA (t_X9_addInt l G ad (s_X0_bits a1) μ11 gμ13) sh_159 rfl ml_X9_57 im_X9_addInt se_X9_addInt in_X9 co_X9_addInt rfl hd_X9_addInt rfl ⟨(Nat.le_of_ble_eq_true rfl), (Nat.le_of_ble_eq_true rfl)⟩ hl.1 rfl (Nat.le_of_ble_eq_true rfl) dX9_addSymbol_47 ⟨rfl, rfl⟩ (fun H locs hw => ?_)
      exact g_vret cx hr hlk hw h dX9_addSymbol_50
  · rw [if_pos c2] at h
    refine lv_aload_n hx hb dX9_addSymbol_10 rfl (lv_at hl 1 rfl) ?_
    refine lv_bipush (v := 42) hx hb dX9_addSymbol_11 (by decide) ?_
    obtain ⟨μ15, gμ15, h⟩ := bw_some h
    refine g_callVV (As := [.int 42]) (rest := []) cx hw hA (t_X9_add l G ad (42 : Int32) μ gμ15) sh_159 rfl ml_X9_34 im_X9_add se_X9_add in_X9 co_X9_add rfl hd_X9_add rfl ⟨(Nat.le_of_ble_eq_true rfl), (Nat.le_of_ble_eq_true rfl)⟩ hl.1 rfl (Nat.le_of_ble_eq_true rfl) dX9_addSymbol_13 ⟨rfl, rfl⟩ (fun H locs hw => ?_)
    exact g_vret cx hr hlk hw h dX9_addSymbol_16

theorem p_X9_addPart_ex : ∃ f : (Nat → Int32 → Int32 → Mem → Option (Int32 × Mem)) → Nat → Int32 → Int32 → Mem → Option (Int32 × Mem), ∀ (RE : Nat → Int32 → Int32 → Mem → Option (Int32 × Mem)) (a1 : Nat) (a2 : Int32) (a3 : Int32) (μ : Mem), f  RE a1 a2 a3 μ = (if a2 < (0 : Int32) then some (a2, μ) else (if (μ.1 a1 2) ≤ a2 then some (a2, μ) else (if a3 ≤ (45 : Int32) then gd (inb a2 ((sh (a1 + 1)).2)) ((if (lg_cmp (μ.2.1 (a1 + 1) a2.toNatClampNeg) (8589934592 : Int64)) = (0 : Int32) then bw (p_X9_add (91 : Int32) μ) (fun μ5 => bd (RE a1 (a2 + (1 : Int32)) (a3 + (1 : Int32)) μ5) (fun r8 μ7 => bw (p_X9_add (44 : Int32) μ7) (fun μ9 => bd (RE a1 r8 (a3 + (1 : Int32)) μ9) (fun r12 μ11 => bw (p_X9_add (93 : Int32) μ11) (fun μ13 => some (r12, μ13)))))) else gd (inb a2 ((sh (a1 + 1)).2)) (bw (p_X9_addSymbol (μ.2.1 (a1 + 1) a2.toNatClampNeg) μ) (fun μ15 => some ((a2 + (1 : Int32)), μ15))))) else some (a2, μ)))) := ⟨fun (RE : Nat → Int32 → Int32 → Mem → Option (Int32 × Mem)) (a1 : Nat) (a2 : Int32) (a3 : Int32) (μ : Mem) => (if a2 < (0 : Int32) then some (a2, μ) else (if (μ.1 a1 2) ≤ a2 then some (a2, μ) else (if a3 ≤ (45 : Int32) then gd (inb a2 ((sh (a1 + 1)).2)) ((if (lg_cmp (μ.2.1 (a1 + 1) a2.toNatClampNeg) (8589934592 : Int64)) = (0 : Int32) then bw (p_X9_add (91 : Int32) μ) (fun μ5 => bd (RE a1 (a2 + (1 : Int32)) (a3 + (1 : Int32)) μ5) (fun r8 μ7 => bw (p_X9_add (44 : Int32) μ7) (fun μ9 => bd (RE a1 r8 (a3 + (1 : Int32)) μ9) (fun r12 μ11 => bw (p_X9_add (93 : Int32) μ11) (fun μ13 => some (r12, μ13)))))) else gd (inb a2 ((sh (a1 + 1)).2)) (bw (p_X9_addSymbol (μ.2.1 (a1 + 1) a2.toNatClampNeg) μ) (fun μ15 => some ((a2 + (1 : Int32)), μ15))))) else some (a2, μ)))), fun _ _ _ _ _ => rfl⟩
noncomputable def p_X9_addPart : (Nat → Int32 → Int32 → Mem → Option (Int32 × Mem)) → Nat → Int32 → Int32 → Mem → Option (Int32 × Mem) := Classical.choose p_X9_addPart_ex
theorem p_X9_addPart_eq (RE : Nat → Int32 → Int32 → Mem → Option (Int32 × Mem)) (a1 : Nat) (a2 : Int32) (a3 : Int32) (μ : Mem) : p_X9_addPart  RE a1 a2 a3 μ = (if a2 < (0 : Int32) then some (a2, μ) else (if (μ.1 a1 2) ≤ a2 then some (a2, μ) else (if a3 ≤ (45 : Int32) then gd (inb a2 ((sh (a1 + 1)).2)) ((if (lg_cmp (μ.2.1 (a1 + 1) a2.toNatClampNeg) (8589934592 : Int64)) = (0 : Int32) then bw (p_X9_add (91 : Int32) μ) (fun μ5 => bd (RE a1 (a2 + (1 : Int32)) (a3 + (1 : Int32)) μ5) (fun r8 μ7 => bw (p_X9_add (44 : Int32) μ7) (fun μ9 => bd (RE a1 r8 (a3 + (1 : Int32)) μ9) (fun r12 μ11 => bw (p_X9_add (93 : Int32) μ11) (fun μ13 => some (r12, μ13)))))) else gd (inb a2 ((sh (a1 + 1)).2)) (bw (p_X9_addSymbol (μ.2.1 (a1 + 1) a2.toNatClampNeg) μ) (fun μ15 => some ((a2 + (1 : Int32)), μ15))))) else some (a2, μ)))) := Classical.choose_spec p_X9_addPart_ex  RE a1 a2 a3 μ
set_option maxHeartbeats 4000000 in
set_option maxRecDepth 100000 in
theorem t_X9_addPart (l : Launch) (G : Gt) (ad : Nat → Nat) {fE lE : Nat} (RE : Nat → Int32 → Int32 → Mem → Option (Int32 × Mem)) (hRE : ∀ (z1 : Nat) (w1 : sh z1 = (0, 1)) (z2 : Int32) (z3 : Int32) (μ1 : Mem) (r2 : Int32) (μ2 : Mem), RE z1 z2 z3 μ1 = some (r2, μ2) → Mt l yX9_addPart cX9_addPart 6 (some .int) ({ frames := fE, cells := 0, slots := 0, locals := lE } : Room) G [.ref (ad 159), .ref (ad z1), .int z2, .int z3] (wd G ad μ1) (eI G ad r2 μ2)) (a1 : Nat) (q1 : sh a1 = (0, 1)) (a2 : Int32) (a3 : Int32) (μ : Mem) {r : Int32} {μz : Mem} (h : p_X9_addPart RE a1 a2 a3 μ = some (r, μz)) : Mt l yX9_addPart cX9_addPart 6 (some .int) ({ frames := fE + 3, cells := 0, slots := 0, locals := lE + 70 } : Room) G [.ref (ad 159), .ref (ad a1), .int a2, .int a3] (wd G ad μ) (eI G ad r μz) := by
  refine Bk.mt (by decide) rfl (Nat.le_of_ble_eq_true rfl) ?_
  intro p e s m below meth c A ls H locs cx hr hlk hA hl hw
  have hx := cx.1
  have hb := cx.2.1
  have hl : lv_has ls 6 [(0, .ref (ad 159)), (1, .ref (ad a1)), (2, .int a2), (3, .int a3)] := hl
  rw [p_X9_addPart_eq] at h
  refine lv_iload_n hx hb dX9_addPart_0 rfl (lv_at hl 2 rfl) ?_
  refine lv_if_lt (tgt := 18) hx hb dX9_addPart_1 (by decide) (fun c1 => ?_) (fun c1 => ?_)
  · rw [if_pos c1] at h
    refine lv_iload_n hx hb dX9_addPart_18 rfl (lv_at hl 2 rfl) ?_
    exact g_iret cx hr hlk hw h dX9_addPart_19
  · rw [if_neg c1] at h
    refine lv_iload_n hx hb dX9_addPart_4 rfl (lv_at hl 2 rfl) ?_
    refine lv_aload_n hx hb dX9_addPart_5 rfl (lv_at hl 1 rfl) ?_
    refine g_get cx hw inX2 (ci := 1) rfl 2 (by decide) rfl q1 rfl fl_X9_65 dX9_addPart_6 ?_
    refine lv_icmp_ge (tgt := 18) hx hb dX9_addPart_9 (by decide) (fun c2 => ?_) (fun c2 => ?_)
    · rw [if_pos c2] at h
      refine lv_iload_n hx hb dX9_addPart_18 rfl (lv_at hl 2 rfl) ?_
      exact g_iret cx hr hlk hw h dX9_addPart_19
    · rw [if_neg c2] at h
      refine lv_iload_n hx hb dX9_addPart_12 rfl (lv_at hl 3 rfl) ?_
      refine lv_bipush (v := 45) hx hb dX9_addPart_13 (by decide) ?_
      refine lv_icmp_le (tgt := 20) hx hb dX9_addPart_15 (by decide) (fun c3 => ?_) (fun c3 => ?_)
      · rw [if_pos c3] at h
        refine lv_aload_n hx hb dX9_addPart_20 rfl (lv_at hl 1 rfl) ?_
        refine g_get cx hw inX2 (ci := 1) rfl 0 (by decide) rfl q1 rfl fl_X9_71 dX9_addPart_21 ?_
        refine lv_iload_n hx hb dX9_addPart_24 rfl (lv_at hl 2 rfl) ?_
        refine g_lald cx hw (rl_X2_0 q1) h dX9_addPart_25 (fun h => ?_)
        refine lv_ldc2 hx hb cx.2.2.2.1 (cx.2.2.2.2.1 _ cs_X9_75) dX9_addPart_26 ?_
        refine W.lcmp hx hb dX9_addPart_29 ?_
        refine lv_if_eq (tgt := 47) hx hb dX9_addPart_30 (by decide) (fun c4 => ?_) (fun c4 => ?_)
        · rw [if_pos c4] at h
          refine lv_aload_n hx hb dX9_addPart_47 rfl (lv_at hl 0 rfl) ?_
          refine lv_bipush (v := 91) hx hb dX9_addPart_48 (by decide) ?_
          obtain ⟨μ5, gμ5, h⟩ := bw_some h
          refine g_callVV (As := [.int 91]) (rest := []) cx hw hA (t_X9_add l G ad (91 : Int32) μ gμ5) sh_159 rfl ml_X9_34 im_X9_add se_X9_add in_X9 co_X9_add rfl hd_X9_add rfl ⟨(by dsimp only; omega), (by dsimp only; omega)⟩ hl.1 rfl (Nat.le_of_ble_eq_true rfl) dX9_addPart_50 ⟨rfl, rfl⟩ (fun H locs hw => ?_)
          refine lv_aload_n hx hb dX9_addPart_53 rfl (lv_at hl 0 rfl) ?_
          refine lv_aload_n hx hb dX9_addPart_54 rfl (lv_at hl 1 rfl) ?_
          refine lv_iload_n hx hb dX9_addPart_55 rfl (lv_at hl 2 rfl) ?_
          refine lv_iconst (v := 1) hx hb dX9_addPart_56 (by decide) ?_
          refine lv_iadd hx hb dX9_addPart_57 ?_
          refine lv_iload_n hx hb dX9_addPart_58 rfl (lv_at hl 3 rfl) ?_
          refine lv_iconst (v := 1) hx hb dX9_addPart_59 (by decide) ?_
          refine lv_iadd hx hb dX9_addPart_60 ?_
          obtain ⟨r8, μ7, gr8, h⟩ := bd_some h
          refine g_callVI (As := [.ref (ad a1), .int (a2 + (1 : Int32)), .int (a3 + (1 : Int32))]) (rest := []) cx hw hA (hRE a1 q1 (a2 + (1 : Int32)) (a3 + (1 : Int32)) μ5 _ _ gr8) sh_159 rfl ml_X9_20 im_X9_addPart se_X9_addPart in_X9 co_X9_addPart rfl hd_X9_addPart rfl ⟨(by dsimp only; omega), (by dsimp only; omega)⟩ hl.1 rfl (Nat.le_of_ble_eq_true rfl) dX9_addPart_61 ⟨rfl, rfl⟩ (fun H locs hw => ?_)
          refine lv_istore (lv' := [(4, .int r8), (0, .ref (ad 159)), (1, .ref (ad a1)), (2, .int a2), (3, .int a3)]) hx hb dX9_addPart_64 hl (by decide) rfl (fun ls hl => ?_)
          refine lv_aload_n hx hb dX9_addPart_66 rfl (lv_at hl 1 rfl) ?_
          refine lv_bipush (v := 44) hx hb dX9_addPart_67 (by decide) ?_
          obtain ⟨μ9, gμ9, h⟩ := bw_some h
          refine g_callVV (As := [.int 44]) (rest := []) cx hw hA (t_X9_add l G ad (44 : Int32) μ7 gμ9) sh_159 rfl ml_X9_34 im_X9_add se_X9_add in_X9 co_X9_add rfl hd_X9_add rfl ⟨(by dsimp only; omega), (by dsimp only; omega)⟩ hl.1 rfl (Nat.le_of_ble_eq_true rfl) dX9_addPart_69 ⟨rfl, rfl⟩ (fun H locs hw => ?_)
          refine lv_aload_n hx hb dX9_addPart_72 rfl (lv_at hl 1 rfl) ?_
          refine lv_aload_n hx hb dX9_addPart_73 rfl (lv_at hl 2 rfl) ?_
          refine lv_iload hx hb dX9_addPart_74 (lv_at hl 0 rfl) ?_
          refine lv_iload_n hx hb dX9_addPart_76 rfl (lv_at hl 4 rfl) ?_
          refine lv_iconst (v := 1) hx hb dX9_addPart_77 (by decide) ?_
          refine lv_iadd hx hb dX9_addPart_78 ?_
          obtain ⟨r12, μ11, gr12, h⟩ := bd_some h
          refine g_callVI (As := [.ref (ad a1), .int r8, .int (a3 + (1 : Int32))]) (rest := []) cx hw hA (hRE a1 q1 r8 (a3 + (1 : Int32)) μ9 _ _ gr12) sh_159 rfl ml_X9_20 im_X9_addPart se_X9_addPart in_X9 co_X9_addPart rfl hd_X9_addPart rfl ⟨(by dsimp only; omega), (by dsimp only; omega)⟩ hl.1 rfl (Nat.le_of_ble_eq_true rfl) dX9_addPart_79 ⟨rfl, rfl⟩ (fun H locs hw => ?_)
          refine lv_istore (lv' := [(5, .int r12), (4, .int r8), (0, .ref (ad 159)), (1, .ref (ad a1)), (2, .int a2), (3, .int a3)]) hx hb dX9_addPart_82 hl (by decide) rfl (fun ls hl => ?_)
          refine lv_aload_n hx hb dX9_addPart_84 rfl (lv_at hl 2 rfl) ?_
          refine lv_bipush (v := 93) hx hb dX9_addPart_85 (by decide) ?_
          obtain ⟨μ13, gμ13, h⟩ := bw_some h
          refine g_callVV (As := [.int 93]) (rest := []) cx hw hA (t_X9_add l G ad (93 : Int32) μ11 gμ13) sh_159 rfl ml_X9_34 im_X9_add se_X9_add in_X9 co_X9_add rfl hd_X9_add rfl ⟨(by dsimp only; omega), (by dsimp only; omega)⟩ hl.1 rfl (Nat.le_of_ble_eq_true rfl) dX9_addPart_87 ⟨rfl, rfl⟩ (fun H locs hw => ?_)
          refine lv_iload hx hb dX9_addPart_90 (lv_at hl 0 rfl) ?_
          exact g_iret cx hr hlk hw h dX9_addPart_92
        · rw [if_neg c4] at h
          refine lv_aload_n hx hb dX9_addPart_33 rfl (lv_at hl 0 rfl) ?_
          refine lv_aload_n hx hb dX9_addPart_34 rfl (lv_at hl 1 rfl) ?_
          refine g_get cx hw inX2 (ci := 1) rfl 0 (by decide) rfl q1 rfl fl_X9_71 dX9_addPart_35 ?_
          refine lv_iload_n hx hb dX9_addPart_38 rfl (lv_at hl 2 rfl) ?_
          refine g_lald cx hw (rl_X2_0 q1) h dX9_addPart_39 (fun h => ?_)
          obtain ⟨μ15, gμ15, h⟩ := bw_some h
          refine g_callVV (As := [.long (μ.2.1 (a1 + 1) a2.toNatClampNeg)]) (rest := []) cx hw hA (t_X9_addSymbol l G ad (μ.2.1 (a1 + 1) a2.toNatClampNeg) μ gμ15) sh_159 rfl ml_X9_77 im_X9_addSymbol se_X9_addSymbol in_X9 co_X9_addSymbol rfl hd_X9_addSymbol rfl ⟨(by dsimp only; omega), (by dsimp only; omega)⟩ hl.1 rfl (Nat.le_of_ble_eq_true rfl) dX9_addPart_40 ⟨rfl, rfl⟩ (fun H locs hw => ?_)
          refine lv_iload_n hx hb dX9_addPart_43 rfl (lv_at hl 2 rfl) ?_
          refine lv_iconst (v := 1) hx hb dX9_addPart_44 (by decide) ?_
          refine lv_iadd hx hb dX9_addPart_45 ?_
          exact g_iret cx hr hlk hw h dX9_addPart_46
      · rw [if_neg c3] at h
        refine lv_iload_n hx hb dX9_addPart_18 rfl (lv_at hl 2 rfl) ?_
        exact g_iret cx hr hlk hw h dX9_addPart_19
theorem pr_X9_addPart_ex : ∃ f : Nat → Nat → Int32 → Int32 → Mem → Option (Int32 × Mem), (∀ (a1 : Nat) (a2 : Int32) (a3 : Int32) μ, f 0 a1 a2 a3 μ = none) ∧ (∀ n (a1 : Nat) (a2 : Int32) (a3 : Int32) μ, f (n + 1) a1 a2 a3 μ = p_X9_addPart (f n) a1 a2 a3 μ) := ⟨fun n => Nat.rec (fun (a1 : Nat) (a2 : Int32) (a3 : Int32) _ => none) (fun _ ih => fun (a1 : Nat) (a2 : Int32) (a3 : Int32) μ => p_X9_addPart ih a1 a2 a3 μ) n, fun _ _ _ _ => rfl, fun _ _ _ _ _ => rfl⟩
noncomputable def pr_X9_addPart : Nat → Nat → Int32 → Int32 → Mem → Option (Int32 × Mem) := Classical.choose pr_X9_addPart_ex
theorem pr_X9_addPart_z (a1 : Nat) (a2 : Int32) (a3 : Int32) (μ : Mem) : pr_X9_addPart 0 a1 a2 a3 μ = none := (Classical.choose_spec pr_X9_addPart_ex).1 a1 a2 a3 μ
theorem pr_X9_addPart_s (n : Nat) (a1 : Nat) (a2 : Int32) (a3 : Int32) (μ : Mem) : pr_X9_addPart (n + 1) a1 a2 a3 μ = p_X9_addPart (pr_X9_addPart n) a1 a2 a3 μ := (Classical.choose_spec pr_X9_addPart_ex).2 n a1 a2 a3 μ
theorem tpr_X9_addPart (l : Launch) (G : Gt) (ad : Nat → Nat) : ∀ (n : Nat) (a1 : Nat) (q1 : sh a1 = (0, 1)) (a2 : Int32) (a3 : Int32) (μ : Mem) {r : Int32} {μz : Mem}, pr_X9_addPart n a1 a2 a3 μ = some (r, μz) → Mt l yX9_addPart cX9_addPart 6 (some .int) ({ frames := n * 3, cells := 0, slots := 0, locals := n * 70 } : Room) G [.ref (ad 159), .ref (ad a1), .int a2, .int a3] (wd G ad μ) (eI G ad r μz) := by
  intro n
  induction n with
  | zero => intro a1 q1 a2 a3 μ r μz h; rw [pr_X9_addPart_z] at h; cases h
  | succ n ih =>
    intro a1 q1 a2 a3 μ r μz h
    rw [pr_X9_addPart_s] at h
    have e1 : (n + 1) * 3 = n * 3 + 3 := Nat.succ_mul n 3
    have e2 : (n + 1) * 70 = n * 70 + 70 := Nat.succ_mul n 70
    rw [e1, e2]
    exact t_X9_addPart l G ad (pr_X9_addPart n) (fun a1 q1 a2 a3 μ1 r2 μ2 hh => ih a1 q1 a2 a3 μ1 hh) a1 q1 a2 a3 μ h

theorem p_X9_writeValue_ex : ∃ f : Nat → Mem → Option (Int32 × Mem), ∀ (a1 : Nat) (μ : Mem), f a1 μ = bv (sF μ 159 1 (0 : Int32)) (fun μ1 => bd (pr_X9_addPart 100 a1 (0 : Int32) (0 : Int32) μ1) (fun r3 μ2 => some ((μ2.1 159 1), μ2))) := ⟨fun (a1 : Nat) (μ : Mem) => bv (sF μ 159 1 (0 : Int32)) (fun μ1 => bd (pr_X9_addPart 100 a1 (0 : Int32) (0 : Int32) μ1) (fun r3 μ2 => some ((μ2.1 159 1), μ2))), fun _ _ => rfl⟩
noncomputable def p_X9_writeValue : Nat → Mem → Option (Int32 × Mem) := Classical.choose p_X9_writeValue_ex
theorem p_X9_writeValue_eq (a1 : Nat) (μ : Mem) : p_X9_writeValue a1 μ = bv (sF μ 159 1 (0 : Int32)) (fun μ1 => bd (pr_X9_addPart 100 a1 (0 : Int32) (0 : Int32) μ1) (fun r3 μ2 => some ((μ2.1 159 1), μ2))) := Classical.choose_spec p_X9_writeValue_ex a1 μ
set_option maxHeartbeats 4000000 in
set_option maxRecDepth 100000 in
theorem t_X9_writeValue (l : Launch) (G : Gt) (ad : Nat → Nat) (a1 : Nat) (q1 : sh a1 = (0, 1)) (μ : Mem) {r : Int32} {μz : Mem} (h : p_X9_writeValue a1 μ = some (r, μz)) : Mt l yX9_writeValue cX9_writeValue 2 (some .int) ({ frames := 4, cells := 0, slots := 0, locals := 95 } : Room) G [.ref (ad 159), .ref (ad a1)] (wd G ad μ) (eI G ad r μz) := by
  refine Bk.mt (by decide) rfl (Nat.le_of_ble_eq_true rfl) ?_
  intro p e s m below meth c A ls H locs cx hr hlk hA hl hw
  have hx := cx.1
  have hb := cx.2.1
  have hl : lv_has ls 2 [(0, .ref (ad 159)), (1, .ref (ad a1))] := hl
  rw [p_X9_writeValue_eq] at h
  refine lv_aload_n hx hb dX9_writeValue_0 rfl (lv_at hl 0 rfl) ?_
  refine lv_iconst (v := 0) hx hb dX9_writeValue_1 (by decide) ?_
  refine g_put cx hw inX9 (ci := 8) rfl tyX9_ok nmX9 1 (by decide) rfl rfl rfl rfl sh_159 h fl_X9_16 dX9_writeValue_2 (fun μ1 H locs h hw => ?_)
  refine lv_aload_n hx hb dX9_writeValue_5 rfl (lv_at hl 0 rfl) ?_
  refine lv_aload_n hx hb dX9_writeValue_6 rfl (lv_at hl 1 rfl) ?_
  refine lv_iconst (v := 0) hx hb dX9_writeValue_7 (by decide) ?_
  refine lv_iconst (v := 0) hx hb dX9_writeValue_8 (by decide) ?_
  obtain ⟨r3, μ2, gr3, h⟩ := bd_some h
  refine g_callVI (As := [.ref (ad a1), .int 0, .int 0]) (rest := []) cx hw hA (tpr_X9_addPart l G ad 100 a1 q1 (0 : Int32) (0 : Int32) μ1 gr3) sh_159 rfl ml_X9_20 im_X9_addPart se_X9_addPart in_X9 co_X9_addPart rfl hd_X9_addPart rfl ⟨(Nat.le_of_ble_eq_true rfl), (Nat.le_of_ble_eq_true rfl)⟩ hl.1 rfl (Nat.le_of_ble_eq_true rfl) dX9_writeValue_9 ⟨rfl, rfl⟩ (fun H locs hw => ?_)
  refine lv_pop hx hb dX9_writeValue_12 rfl ?_
  refine lv_aload_n hx hb dX9_writeValue_13 rfl (lv_at hl 0 rfl) ?_
  refine g_get cx hw inX9 (ci := 8) rfl 1 (by decide) rfl sh_159 rfl fl_X9_16 dX9_writeValue_14 ?_
  exact g_iret cx hr hlk hw h dX9_writeValue_17

theorem p_X11_value_ex : ∃ f : Mem → Option (Int32 × Mem), ∀  (μ : Mem), f  μ = (if (μ.1 156 2) = (0 : Int32) then some ((-1 : Int32), μ) else bd (p_X9_writeValue 156 μ) (fun r3 μ2 => some (r3, μ2))) := ⟨fun  (μ : Mem) => (if (μ.1 156 2) = (0 : Int32) then some ((-1 : Int32), μ) else bd (p_X9_writeValue 156 μ) (fun r3 μ2 => some (r3, μ2))), fun _ => rfl⟩
noncomputable def p_X11_value : Mem → Option (Int32 × Mem) := Classical.choose p_X11_value_ex
theorem p_X11_value_eq  (μ : Mem) : p_X11_value  μ = (if (μ.1 156 2) = (0 : Int32) then some ((-1 : Int32), μ) else bd (p_X9_writeValue 156 μ) (fun r3 μ2 => some (r3, μ2))) := Classical.choose_spec p_X11_value_ex  μ
set_option maxHeartbeats 4000000 in
set_option maxRecDepth 100000 in
theorem t_X11_value (l : Launch) (G : Gt) (ad : Nat → Nat)  (μ : Mem) {r : Int32} {μz : Mem} (h : p_X11_value  μ = some (r, μz)) : Mt l yX11_value cX11_value 1 (some .int) ({ frames := 5, cells := 0, slots := 0, locals := 116 } : Room) G [.ref (ad 0)] (wd G ad μ) (eI G ad r μz) := by
  refine Bk.mt (by decide) rfl (Nat.le_of_ble_eq_true rfl) ?_
  intro p e s m below meth c A ls H locs cx hr hlk hA hl hw
  have hx := cx.1
  have hb := cx.2.1
  have hl : lv_has ls 1 [(0, .ref (ad 0))] := hl
  rw [p_X11_value_eq] at h
  refine lv_aload_n hx hb dX11_value_0 rfl (lv_at hl 0 rfl) ?_
  refine g_get cx hw inX11 (ci := 10) rfl 18 (by decide) rfl sh_0 rfl fl_X11_111 dX11_value_1 ?_
  refine g_get cx hw inX2 (ci := 1) rfl 2 (by decide) rfl sh_156 rfl fl_X11_233 dX11_value_4 ?_
  refine lv_if_ne (tgt := 12) hx hb dX11_value_7 (by decide) (fun c1 => ?_) (fun c1 => ?_)
  · rw [if_neg c1] at h
    refine lv_aload_n hx hb dX11_value_12 rfl (lv_at hl 0 rfl) ?_
    refine g_get cx hw inX11 (ci := 10) rfl 19 (by decide) rfl sh_0 rfl fl_X11_117 dX11_value_13 ?_
    refine lv_aload_n hx hb dX11_value_16 rfl (lv_at hl 0 rfl) ?_
    refine g_get cx hw inX11 (ci := 10) rfl 18 (by decide) rfl sh_0 rfl fl_X11_111 dX11_value_17 ?_
    obtain ⟨r3, μ2, gr3, h⟩ := bd_some h
    refine g_callVI (As := [.ref (ad 156)]) (rest := []) cx hw hA (t_X9_writeValue l G ad 156 sh_156 μ gr3) sh_159 rfl ml_X11_234 im_X9_writeValue se_X9_writeValue in_X9 co_X9_writeValue rfl hd_X9_writeValue rfl ⟨(Nat.le_of_ble_eq_true rfl), (Nat.le_of_ble_eq_true rfl)⟩ hl.1 rfl (Nat.le_of_ble_eq_true rfl) dX11_value_20 ⟨rfl, rfl⟩ (fun H locs hw => ?_)
    exact g_iret cx hr hlk hw h dX11_value_23
  · rw [if_pos c1] at h
    refine lv_iconst (v := (-1)) hx hb dX11_value_10 (by decide) ?_
    exact g_iret cx hr hlk hw h dX11_value_11
