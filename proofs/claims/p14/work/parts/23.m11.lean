theorem p_X5_firstOf_ex : ∃ f : Int32 → Mem → Option (Int32 × Mem), ∀ (a1 : Int32) (μ : Mem), f a1 μ = bd (p_X5_isBlock a1 μ) (fun r2 μ1 => (if r2 = (0 : Int32) then some ((-1 : Int32), μ1) else gd (inb a1 672) (some ((μ1.1 42 a1.toNatClampNeg), μ1)))) := ⟨fun (a1 : Int32) (μ : Mem) => bd (p_X5_isBlock a1 μ) (fun r2 μ1 => (if r2 = (0 : Int32) then some ((-1 : Int32), μ1) else gd (inb a1 672) (some ((μ1.1 42 a1.toNatClampNeg), μ1)))), fun _ _ => rfl⟩
noncomputable def p_X5_firstOf : Int32 → Mem → Option (Int32 × Mem) := Classical.choose p_X5_firstOf_ex
theorem p_X5_firstOf_eq (a1 : Int32) (μ : Mem) : p_X5_firstOf a1 μ = bd (p_X5_isBlock a1 μ) (fun r2 μ1 => (if r2 = (0 : Int32) then some ((-1 : Int32), μ1) else gd (inb a1 672) (some ((μ1.1 42 a1.toNatClampNeg), μ1)))) := Classical.choose_spec p_X5_firstOf_ex a1 μ
set_option maxHeartbeats 4000000 in
set_option maxRecDepth 100000 in
theorem t_X5_firstOf (l : Launch) (G : Gt) (ad : Nat → Nat) (a1 : Int32) (μ : Mem) {r : Int32} {μz : Mem} (h : p_X5_firstOf a1 μ = some (r, μz)) : Mt l yX5_firstOf cX5_firstOf 2 (some .int) ({ frames := 1, cells := 0, slots := 0, locals := 21 } : Room) G [.ref (ad 39), .int a1] (wd 0 G ad μ) (eI 0 G ad r μz) := by
  refine Bk.mt (by decide) rfl (Nat.le_of_ble_eq_true rfl) ?_
  intro p e s m below meth c A ls H locs cx hr hlk hA hl hw
  have hx := cx.1
  have hb := cx.2.1
  have hl : lv_has ls 2 [(0, .ref (ad 39)), (1, .int a1)] := hl
  rw [p_X5_firstOf_eq] at h
  refine lv_aload_n hx hb dX5_firstOf_0 rfl (lv_at hl 0 rfl) ?_
  refine lv_iload_n hx hb dX5_firstOf_1 rfl (lv_at hl 1 rfl) ?_
  obtain ⟨r2, μ1, gr2, h⟩ := bd_some h
  refine g_callVI (As := [.int a1]) (rest := []) cx hw hA (t_X5_isBlock l G ad a1 μ gr2) shx_39 rfl ml_X5_93 im_X5_isBlock se_X5_isBlock in_X5 co_X5_isBlock rfl hd_X5_isBlock rfl ⟨(Nat.le_of_ble_eq_true rfl), (Nat.le_of_ble_eq_true rfl)⟩ hl.1 rfl (Nat.le_of_ble_eq_true rfl) dX5_firstOf_2 ⟨rfl, rfl⟩ (fun H locs hw => ?_)
  refine lv_if_eq (tgt := 17) hx hb dX5_firstOf_5 (by decide) (fun c3 => ?_) (fun c3 => ?_)
  · rw [if_pos c3] at h
    refine lv_iconst (v := (-1)) hx hb dX5_firstOf_17 (by decide) ?_
    exact g_iret cx hr hlk hw h dX5_firstOf_18
  · rw [if_neg c3] at h
    refine lv_aload_n hx hb dX5_firstOf_8 rfl (lv_at hl 0 rfl) ?_
    refine g_get cx hw inX5 (ci := 4) rfl 9 (by decide) rfl (v := .ref (ad 42)) shx_39 rfl fl_X5_19 dX5_firstOf_9 ?_
    refine lv_iload_n hx hb dX5_firstOf_12 rfl (lv_at hl 1 rfl) ?_
    refine g_iald cx hw shx_42 h dX5_firstOf_13 (fun h => ?_)
    refine lv_goto (tgt := 18) hx hb dX5_firstOf_14 (by decide) ?_
    exact g_iret cx hr hlk hw h dX5_firstOf_18

theorem p_X6_enter_ex : ∃ f : Int32 → Mem → Option Mem, ∀ (a1 : Int32) (μ : Mem), f a1 μ = (if (744 : Int32) ≤ (μ.1 151 5) then some μ else gd (inb (μ.1 151 5) 744) (bv (sF μ 154 (μ.1 151 5).toNatClampNeg a1) (fun μ2 => bd (p_X5_firstOf a1 μ2) (fun r4 μ3 => gd (inb (μ2.1 151 5) 744) (bv (sF μ3 155 (μ2.1 151 5).toNatClampNeg r4) (fun μ5 => bv (sF μ5 151 5 ((μ5.1 151 5) + (1 : Int32))) (fun μ6 => some μ6))))))) := ⟨fun (a1 : Int32) (μ : Mem) => (if (744 : Int32) ≤ (μ.1 151 5) then some μ else gd (inb (μ.1 151 5) 744) (bv (sF μ 154 (μ.1 151 5).toNatClampNeg a1) (fun μ2 => bd (p_X5_firstOf a1 μ2) (fun r4 μ3 => gd (inb (μ2.1 151 5) 744) (bv (sF μ3 155 (μ2.1 151 5).toNatClampNeg r4) (fun μ5 => bv (sF μ5 151 5 ((μ5.1 151 5) + (1 : Int32))) (fun μ6 => some μ6))))))), fun _ _ => rfl⟩
noncomputable def p_X6_enter : Int32 → Mem → Option Mem := Classical.choose p_X6_enter_ex
theorem p_X6_enter_eq (a1 : Int32) (μ : Mem) : p_X6_enter a1 μ = (if (744 : Int32) ≤ (μ.1 151 5) then some μ else gd (inb (μ.1 151 5) 744) (bv (sF μ 154 (μ.1 151 5).toNatClampNeg a1) (fun μ2 => bd (p_X5_firstOf a1 μ2) (fun r4 μ3 => gd (inb (μ2.1 151 5) 744) (bv (sF μ3 155 (μ2.1 151 5).toNatClampNeg r4) (fun μ5 => bv (sF μ5 151 5 ((μ5.1 151 5) + (1 : Int32))) (fun μ6 => some μ6))))))) := Classical.choose_spec p_X6_enter_ex a1 μ
set_option maxHeartbeats 4000000 in
set_option maxRecDepth 100000 in
theorem t_X6_enter (l : Launch) (G : Gt) (ad : Nat → Nat) (a1 : Int32) (μ : Mem) {μz : Mem} (h : p_X6_enter a1 μ = some μz) : Mt l yX6_enter cX6_enter 2 none ({ frames := 2, cells := 0, slots := 0, locals := 42 } : Room) G [.ref (ad 151), .int a1] (wd 0 G ad μ) (eV 0 G ad μz) := by
  refine Bk.mt (by decide) rfl (Nat.le_of_ble_eq_true rfl) ?_
  intro p e s m below meth c A ls H locs cx hr hlk hA hl hw
  have hx := cx.1
  have hb := cx.2.1
  have hl : lv_has ls 2 [(0, .ref (ad 151)), (1, .int a1)] := hl
  rw [p_X6_enter_eq] at h
  refine lv_aload_n hx hb dX6_enter_0 rfl (lv_at hl 0 rfl) ?_
  refine g_get cx hw inX6 (ci := 5) rfl 5 (by decide) rfl (v := .int (μ.1 151 5)) shx_151 rfl fl_X6_41 dX6_enter_1 ?_
  refine lv_sipush (v := 744) hx hb dX6_enter_4 (by decide) ?_
  refine lv_icmp_ge (tgt := 47) hx hb dX6_enter_7 (by decide) (fun c1 => ?_) (fun c1 => ?_)
  · rw [if_pos c1] at h
    exact g_vret cx hr hlk hw h dX6_enter_47
  · rw [if_neg c1] at h
    refine lv_aload_n hx hb dX6_enter_10 rfl (lv_at hl 0 rfl) ?_
    refine g_get cx hw inX6 (ci := 5) rfl 3 (by decide) rfl (v := .ref (ad 154)) shx_151 rfl fl_X6_26 dX6_enter_11 ?_
    refine lv_aload_n hx hb dX6_enter_14 rfl (lv_at hl 0 rfl) ?_
    refine g_get cx hw inX6 (ci := 5) rfl 5 (by decide) rfl (v := .int (μ.1 151 5)) shx_151 rfl fl_X6_41 dX6_enter_15 ?_
    refine lv_iload_n hx hb dX6_enter_18 rfl (lv_at hl 1 rfl) ?_
    refine g_iast cx hw shx_154 h dX6_enter_19 (fun μ2 H locs h hw => ?_)
    refine lv_aload_n hx hb dX6_enter_20 rfl (lv_at hl 0 rfl) ?_
    refine g_get cx hw inX6 (ci := 5) rfl 4 (by decide) rfl (v := .ref (ad 155)) shx_151 rfl fl_X6_30 dX6_enter_21 ?_
    refine lv_aload_n hx hb dX6_enter_24 rfl (lv_at hl 0 rfl) ?_
    refine g_get cx hw inX6 (ci := 5) rfl 5 (by decide) rfl (v := .int (μ2.1 151 5)) shx_151 rfl fl_X6_41 dX6_enter_25 ?_
    refine lv_aload_n hx hb dX6_enter_28 rfl (lv_at hl 0 rfl) ?_
    refine g_get cx hw inX6 (ci := 5) rfl 7 (by decide) rfl (v := .ref (ad 39)) shx_151 rfl fl_X6_33 dX6_enter_29 ?_
    refine lv_iload_n hx hb dX6_enter_32 rfl (lv_at hl 1 rfl) ?_
    obtain ⟨r4, μ3, gr4, h⟩ := bd_some h
    refine g_callVI (As := [.int a1]) (rest := [.int (μ2.1 151 5), .ref (ad 155)]) cx hw hA (t_X5_firstOf l G ad a1 μ2 gr4) shx_39 rfl ml_X6_84 im_X5_firstOf se_X5_firstOf in_X5 co_X5_firstOf rfl hd_X5_firstOf rfl ⟨(Nat.le_of_ble_eq_true rfl), (Nat.le_of_ble_eq_true rfl)⟩ hl.1 rfl (Nat.le_of_ble_eq_true rfl) dX6_enter_33 ⟨rfl, rfl⟩ (fun H locs hw => ?_)
    refine g_iast cx hw shx_155 h dX6_enter_36 (fun μ5 H locs h hw => ?_)
    refine lv_aload_n hx hb dX6_enter_37 rfl (lv_at hl 0 rfl) ?_
    refine lv_dup hx hb dX6_enter_38 rfl ?_
    refine g_get cx hw inX6 (ci := 5) rfl 5 (by decide) rfl (v := .int (μ5.1 151 5)) shx_151 rfl fl_X6_41 dX6_enter_39 ?_
    refine lv_iconst (v := 1) hx hb dX6_enter_42 (by decide) ?_
    refine lv_iadd hx hb dX6_enter_43 ?_
    refine g_put cx hw inX6 (ci := 5) rfl tyX6_ok nmX6 5 (by decide) rfl rfl rfl rfl shx_151 h fl_X6_41 dX6_enter_44 (fun μ6 H locs h hw => ?_)
    exact g_vret cx hr hlk hw h dX6_enter_47

theorem p_X6_known_ex : ∃ f : Int64 → Mem → Option (Int64 × Mem), ∀ (a1 : Int64) (μ : Mem), f a1 μ = (if (s_X0_kind a1) = (3 : Int32) then bv ((μ.1 151 6) + (s_X0_bits a1)) (fun v2 => (if v2 < (0 : Int32) then some ((0 : Int64), μ) else (if (9548 : Int32) ≤ v2 then some ((0 : Int64), μ) else gd (inb v2 9548) (some ((μ.2.1 152 v2.toNatClampNeg), μ))))) else some (a1, μ)) := ⟨fun (a1 : Int64) (μ : Mem) => (if (s_X0_kind a1) = (3 : Int32) then bv ((μ.1 151 6) + (s_X0_bits a1)) (fun v2 => (if v2 < (0 : Int32) then some ((0 : Int64), μ) else (if (9548 : Int32) ≤ v2 then some ((0 : Int64), μ) else gd (inb v2 9548) (some ((μ.2.1 152 v2.toNatClampNeg), μ))))) else some (a1, μ)), fun _ _ => rfl⟩
noncomputable def p_X6_known : Int64 → Mem → Option (Int64 × Mem) := Classical.choose p_X6_known_ex
theorem p_X6_known_eq (a1 : Int64) (μ : Mem) : p_X6_known a1 μ = (if (s_X0_kind a1) = (3 : Int32) then bv ((μ.1 151 6) + (s_X0_bits a1)) (fun v2 => (if v2 < (0 : Int32) then some ((0 : Int64), μ) else (if (9548 : Int32) ≤ v2 then some ((0 : Int64), μ) else gd (inb v2 9548) (some ((μ.2.1 152 v2.toNatClampNeg), μ))))) else some (a1, μ)) := Classical.choose_spec p_X6_known_ex a1 μ
set_option maxHeartbeats 4000000 in
set_option maxRecDepth 100000 in
theorem t_X6_known (l : Launch) (G : Gt) (ad : Nat → Nat) (a1 : Int64) (μ : Mem) {r : Int64} {μz : Mem} (h : p_X6_known a1 μ = some (r, μz)) : Mt l yX6_known cX6_known 4 (some .long) ({ frames := 1, cells := 0, slots := 0, locals := 21 } : Room) G [.ref (ad 151), .long a1] (wd 0 G ad μ) (eL 0 G ad r μz) := by
  refine Bk.mt (by decide) rfl (Nat.le_of_ble_eq_true rfl) ?_
  intro p e s m below meth c A ls H locs cx hr hlk hA hl hw
  have hx := cx.1
  have hb := cx.2.1
  have hl : lv_has ls 4 [(0, .ref (ad 151)), (1, .long a1)] := hl
  rw [p_X6_known_eq] at h
  refine lv_lload_n hx hb dX6_known_0 rfl (lv_at hl 1 rfl) ?_
  refine s_callI (As := [.long a1]) (rest := []) cx hw hA (t_X0_kind l G a1) ml_X6_88 st_X0_kind in_X0 co_X0_kind hd_X0_kind rfl ⟨(Nat.le_of_ble_eq_true rfl), (Nat.le_of_ble_eq_true rfl)⟩ hl.1 rfl (Nat.le_of_ble_eq_true rfl) dX6_known_1 rfl (fun H locs hw => ?_)
  refine lv_iconst (v := 3) hx hb dX6_known_4 (by decide) ?_
  refine lv_icmp_eq (tgt := 10) hx hb dX6_known_5 (by decide) (fun c1 => ?_) (fun c1 => ?_)
  · rw [if_pos c1] at h
    refine lv_aload_n hx hb dX6_known_10 rfl (lv_at hl 0 rfl) ?_
    refine g_get cx hw inX6 (ci := 5) rfl 6 (by decide) rfl (v := .int (μ.1 151 6)) shx_151 rfl fl_X6_45 dX6_known_11 ?_
    refine lv_lload_n hx hb dX6_known_14 rfl (lv_at hl 1 rfl) ?_
    refine s_callI (As := [.long a1]) (rest := [.int (μ.1 151 6)]) cx hw hA (t_X0_bits l G a1) ml_X6_94 st_X0_bits in_X0 co_X0_bits hd_X0_bits rfl ⟨(Nat.le_of_ble_eq_true rfl), (Nat.le_of_ble_eq_true rfl)⟩ hl.1 rfl (Nat.le_of_ble_eq_true rfl) dX6_known_15 rfl (fun H locs hw => ?_)
    refine lv_iadd hx hb dX6_known_18 ?_
    obtain ⟨v2, ev2, h⟩ := bv_ex h
    refine lv_topi (fun y9 z9 => ?_)
    obtain rfl : v2 = y9 := ev2.trans z9.symm
    refine lv_istore_n (lv' := [(3, .int v2), (0, .ref (ad 151)), (1, .long a1)]) hx hb dX6_known_19 rfl hl (by decide) rfl (fun ls hl => ?_)
    refine lv_iload_n hx hb dX6_known_20 rfl (lv_at hl 0 rfl) ?_
    refine lv_if_lt (tgt := 42) hx hb dX6_known_21 (by decide) (fun c3 => ?_) (fun c3 => ?_)
    · rw [if_pos c3] at h
      refine lv_lconst (v := 0) hx hb dX6_known_42 (by decide) ?_
      exact g_lret cx hr hlk hw h dX6_known_43
    · rw [if_neg c3] at h
      refine lv_iload_n hx hb dX6_known_24 rfl (lv_at hl 0 rfl) ?_
      refine lv_aload_n hx hb dX6_known_25 rfl (lv_at hl 1 rfl) ?_
      refine g_get cx hw inX6 (ci := 5) rfl 1 (by decide) rfl (v := .ref (ad 152)) shx_151 rfl fl_X6_19 dX6_known_26 ?_
      refine g_alen3 cx hw shx_152 (v := 9548) (by decide +kernel) dX6_known_29 ?_
      refine lv_icmp_ge (tgt := 42) hx hb dX6_known_30 (by decide) (fun c4 => ?_) (fun c4 => ?_)
      · rw [if_pos c4] at h
        refine lv_lconst (v := 0) hx hb dX6_known_42 (by decide) ?_
        exact g_lret cx hr hlk hw h dX6_known_43
      · rw [if_neg c4] at h
        refine lv_aload_n hx hb dX6_known_33 rfl (lv_at hl 1 rfl) ?_
        refine g_get cx hw inX6 (ci := 5) rfl 1 (by decide) rfl (v := .ref (ad 152)) shx_151 rfl fl_X6_19 dX6_known_34 ?_
        refine lv_iload_n hx hb dX6_known_37 rfl (lv_at hl 0 rfl) ?_
        refine g_lald cx hw shx_152 h dX6_known_38 (fun h => ?_)
        refine lv_goto (tgt := 43) hx hb dX6_known_39 (by decide) ?_
        exact g_lret cx hr hlk hw h dX6_known_43
  · rw [if_neg c1] at h
    refine lv_lload_n hx hb dX6_known_8 rfl (lv_at hl 1 rfl) ?_
    exact g_lret cx hr hlk hw h dX6_known_9

theorem p_X6_goOn_ex : ∃ f : Int32 → Int64 → Mem → Option Mem, ∀ (a1 : Int32) (a2 : Int64) (μ : Mem), f a1 a2 μ = bd (p_X5_cell a1 (1 : Int32) μ) (fun r2 μ1 => bw (p_X6_setRegister (μ.1 151 6) r2 a2 μ1) (fun μ3 => (if (μ3.1 151 5) < (1 : Int32) then some μ3 else bd (p_X5_cell a1 (5 : Int32) μ3) (fun r7 μ6 => gd (inb ((μ3.1 151 5) - (1 : Int32)) 744) (bv (sF μ6 155 ((μ3.1 151 5) - (1 : Int32)).toNatClampNeg r7) (fun μ8 => some μ8)))))) := ⟨fun (a1 : Int32) (a2 : Int64) (μ : Mem) => bd (p_X5_cell a1 (1 : Int32) μ) (fun r2 μ1 => bw (p_X6_setRegister (μ.1 151 6) r2 a2 μ1) (fun μ3 => (if (μ3.1 151 5) < (1 : Int32) then some μ3 else bd (p_X5_cell a1 (5 : Int32) μ3) (fun r7 μ6 => gd (inb ((μ3.1 151 5) - (1 : Int32)) 744) (bv (sF μ6 155 ((μ3.1 151 5) - (1 : Int32)).toNatClampNeg r7) (fun μ8 => some μ8)))))), fun _ _ _ => rfl⟩
noncomputable def p_X6_goOn : Int32 → Int64 → Mem → Option Mem := Classical.choose p_X6_goOn_ex
theorem p_X6_goOn_eq (a1 : Int32) (a2 : Int64) (μ : Mem) : p_X6_goOn a1 a2 μ = bd (p_X5_cell a1 (1 : Int32) μ) (fun r2 μ1 => bw (p_X6_setRegister (μ.1 151 6) r2 a2 μ1) (fun μ3 => (if (μ3.1 151 5) < (1 : Int32) then some μ3 else bd (p_X5_cell a1 (5 : Int32) μ3) (fun r7 μ6 => gd (inb ((μ3.1 151 5) - (1 : Int32)) 744) (bv (sF μ6 155 ((μ3.1 151 5) - (1 : Int32)).toNatClampNeg r7) (fun μ8 => some μ8)))))) := Classical.choose_spec p_X6_goOn_ex a1 a2 μ
set_option maxHeartbeats 4000000 in
set_option maxRecDepth 100000 in
theorem t_X6_goOn (l : Launch) (G : Gt) (ad : Nat → Nat) (a1 : Int32) (a2 : Int64) (μ : Mem) {μz : Mem} (h : p_X6_goOn a1 a2 μ = some μz) : Mt l yX6_goOn cX6_goOn 4 none ({ frames := 1, cells := 0, slots := 0, locals := 25 } : Room) G [.ref (ad 151), .int a1, .long a2] (wd 0 G ad μ) (eV 0 G ad μz) := by
  refine Bk.mt (by decide) rfl (Nat.le_of_ble_eq_true rfl) ?_
  intro p e s m below meth c A ls H locs cx hr hlk hA hl hw
  have hx := cx.1
  have hb := cx.2.1
  have hl : lv_has ls 4 [(0, .ref (ad 151)), (1, .int a1), (2, .long a2)] := hl
  rw [p_X6_goOn_eq] at h
  refine lv_aload_n hx hb dX6_goOn_0 rfl (lv_at hl 0 rfl) ?_
  refine lv_aload_n hx hb dX6_goOn_1 rfl (lv_at hl 0 rfl) ?_
  refine g_get cx hw inX6 (ci := 5) rfl 6 (by decide) rfl (v := .int (μ.1 151 6)) shx_151 rfl fl_X6_45 dX6_goOn_2 ?_
  refine lv_aload_n hx hb dX6_goOn_5 rfl (lv_at hl 0 rfl) ?_
  refine g_get cx hw inX6 (ci := 5) rfl 7 (by decide) rfl (v := .ref (ad 39)) shx_151 rfl fl_X6_33 dX6_goOn_6 ?_
  refine lv_iload_n hx hb dX6_goOn_9 rfl (lv_at hl 1 rfl) ?_
  refine lv_iconst (v := 1) hx hb dX6_goOn_10 (by decide) ?_
  obtain ⟨r2, μ1, gr2, h⟩ := bd_some h
  refine g_callVI (As := [.int a1, .int 1]) (rest := [.int (μ.1 151 6), .ref (ad 151)]) cx hw hA (t_X5_cell l G ad a1 (1 : Int32) μ gr2) shx_39 rfl ml_X6_117 im_X5_cell se_X5_cell in_X5 co_X5_cell rfl hd_X5_cell rfl ⟨(Nat.le_of_ble_eq_true rfl), (Nat.le_of_ble_eq_true rfl)⟩ hl.1 rfl (Nat.le_of_ble_eq_true rfl) dX6_goOn_11 ⟨rfl, rfl⟩ (fun H locs hw => ?_)
  refine lv_lload_n hx hb dX6_goOn_14 rfl (lv_at hl 2 rfl) ?_
  obtain ⟨μ3, gμ3, h⟩ := bw_some h
  refine g_callVV (As := [.int (μ.1 151 6), .int r2, .long a2]) (rest := []) cx hw hA (t_X6_setRegister l G ad (μ.1 151 6) r2 a2 μ1 gμ3) shx_151 rfl ml_X6_62 im_X6_setRegister se_X6_setRegister in_X6 co_X6_setRegister rfl hd_X6_setRegister rfl ⟨(Nat.le_of_ble_eq_true rfl), (Nat.le_of_ble_eq_true rfl)⟩ hl.1 rfl (Nat.le_of_ble_eq_true rfl) dX6_goOn_15 ⟨rfl, rfl⟩ (fun H locs hw => ?_)
  refine lv_aload_n hx hb dX6_goOn_18 rfl (lv_at hl 0 rfl) ?_
  refine g_get cx hw inX6 (ci := 5) rfl 5 (by decide) rfl (v := .int (μ3.1 151 5)) shx_151 rfl fl_X6_41 dX6_goOn_19 ?_
  refine lv_iconst (v := 1) hx hb dX6_goOn_22 (by decide) ?_
  refine lv_icmp_lt (tgt := 46) hx hb dX6_goOn_23 (by decide) (fun c5 => ?_) (fun c5 => ?_)
  · rw [if_pos c5] at h
    exact g_vret cx hr hlk hw h dX6_goOn_46
  · rw [if_neg c5] at h
    refine lv_aload_n hx hb dX6_goOn_26 rfl (lv_at hl 0 rfl) ?_
    refine g_get cx hw inX6 (ci := 5) rfl 4 (by decide) rfl (v := .ref (ad 155)) shx_151 rfl fl_X6_30 dX6_goOn_27 ?_
    refine lv_aload_n hx hb dX6_goOn_30 rfl (lv_at hl 0 rfl) ?_
    refine g_get cx hw inX6 (ci := 5) rfl 5 (by decide) rfl (v := .int (μ3.1 151 5)) shx_151 rfl fl_X6_41 dX6_goOn_31 ?_
    refine lv_iconst (v := 1) hx hb dX6_goOn_34 (by decide) ?_
    refine lv_isub hx hb dX6_goOn_35 ?_
    refine lv_aload_n hx hb dX6_goOn_36 rfl (lv_at hl 0 rfl) ?_
    refine g_get cx hw inX6 (ci := 5) rfl 7 (by decide) rfl (v := .ref (ad 39)) shx_151 rfl fl_X6_33 dX6_goOn_37 ?_
    refine lv_iload_n hx hb dX6_goOn_40 rfl (lv_at hl 1 rfl) ?_
    refine lv_iconst (v := 5) hx hb dX6_goOn_41 (by decide) ?_
    obtain ⟨r7, μ6, gr7, h⟩ := bd_some h
    refine g_callVI (As := [.int a1, .int 5]) (rest := [.int ((μ3.1 151 5) - (1 : Int32)), .ref (ad 155)]) cx hw hA (t_X5_cell l G ad a1 (5 : Int32) μ3 gr7) shx_39 rfl ml_X6_117 im_X5_cell se_X5_cell in_X5 co_X5_cell rfl hd_X5_cell rfl ⟨(Nat.le_of_ble_eq_true rfl), (Nat.le_of_ble_eq_true rfl)⟩ hl.1 rfl (Nat.le_of_ble_eq_true rfl) dX6_goOn_42 ⟨rfl, rfl⟩ (fun H locs hw => ?_)
    refine g_iast cx hw shx_155 h dX6_goOn_45 (fun μ8 H locs h hw => ?_)
    exact g_vret cx hr hlk hw h dX6_goOn_46

theorem p_X6_endBlock_ex : ∃ f : Mem → Option Mem, ∀  (μ : Mem), f  μ = gd (inb ((μ.1 151 5) - (1 : Int32)) 744) (bd (p_X5_endOf (μ.1 154 ((μ.1 151 5) - (1 : Int32)).toNatClampNeg) μ) (fun r2 μ1 => bd (p_X6_known r2 μ1) (fun r4 μ3 => bv (sF μ3 151 5 ((μ3.1 151 5) - (1 : Int32))) (fun μ5 => (if (1 : Int32) ≤ (μ5.1 151 5) then gd (inb ((μ5.1 151 5) - (1 : Int32)) 744) (bv (μ5.1 155 ((μ5.1 151 5) - (1 : Int32)).toNatClampNeg) (fun v7 => bd (p_X5_cell v7 (0 : Int32) μ5) (fun r9 μ8 => (if r9 = (11 : Int32) then bw (p_X1_endCall (sel 0 (μ8.2.2 151 8)) μ8) (fun μ13 => bd (p_X5_cell v7 (6 : Int32) μ13) (fun r16 μ15 => bd (p_X5_ofVariant r16 (2 : Int32) μ15) (fun r18 μ17 => bv (sF μ17 151 6 ((μ13.1 151 6) - r18)) (fun μ19 => bw (p_X6_goOn v7 r4 μ19) (fun μ20 => some μ20))))) else bw (p_X6_goOn v7 r4 μ8) (fun μ11 => some μ11))))) else bw (p_X1_endWith (sel 0 (μ5.2.2 151 8)) r4 μ5) (fun μ22 => some μ22)))))) := ⟨fun  (μ : Mem) => gd (inb ((μ.1 151 5) - (1 : Int32)) 744) (bd (p_X5_endOf (μ.1 154 ((μ.1 151 5) - (1 : Int32)).toNatClampNeg) μ) (fun r2 μ1 => bd (p_X6_known r2 μ1) (fun r4 μ3 => bv (sF μ3 151 5 ((μ3.1 151 5) - (1 : Int32))) (fun μ5 => (if (1 : Int32) ≤ (μ5.1 151 5) then gd (inb ((μ5.1 151 5) - (1 : Int32)) 744) (bv (μ5.1 155 ((μ5.1 151 5) - (1 : Int32)).toNatClampNeg) (fun v7 => bd (p_X5_cell v7 (0 : Int32) μ5) (fun r9 μ8 => (if r9 = (11 : Int32) then bw (p_X1_endCall (sel 0 (μ8.2.2 151 8)) μ8) (fun μ13 => bd (p_X5_cell v7 (6 : Int32) μ13) (fun r16 μ15 => bd (p_X5_ofVariant r16 (2 : Int32) μ15) (fun r18 μ17 => bv (sF μ17 151 6 ((μ13.1 151 6) - r18)) (fun μ19 => bw (p_X6_goOn v7 r4 μ19) (fun μ20 => some μ20))))) else bw (p_X6_goOn v7 r4 μ8) (fun μ11 => some μ11))))) else bw (p_X1_endWith (sel 0 (μ5.2.2 151 8)) r4 μ5) (fun μ22 => some μ22)))))), fun _ => rfl⟩
noncomputable def p_X6_endBlock : Mem → Option Mem := Classical.choose p_X6_endBlock_ex
theorem p_X6_endBlock_eq  (μ : Mem) : p_X6_endBlock  μ = gd (inb ((μ.1 151 5) - (1 : Int32)) 744) (bd (p_X5_endOf (μ.1 154 ((μ.1 151 5) - (1 : Int32)).toNatClampNeg) μ) (fun r2 μ1 => bd (p_X6_known r2 μ1) (fun r4 μ3 => bv (sF μ3 151 5 ((μ3.1 151 5) - (1 : Int32))) (fun μ5 => (if (1 : Int32) ≤ (μ5.1 151 5) then gd (inb ((μ5.1 151 5) - (1 : Int32)) 744) (bv (μ5.1 155 ((μ5.1 151 5) - (1 : Int32)).toNatClampNeg) (fun v7 => bd (p_X5_cell v7 (0 : Int32) μ5) (fun r9 μ8 => (if r9 = (11 : Int32) then bw (p_X1_endCall (sel 0 (μ8.2.2 151 8)) μ8) (fun μ13 => bd (p_X5_cell v7 (6 : Int32) μ13) (fun r16 μ15 => bd (p_X5_ofVariant r16 (2 : Int32) μ15) (fun r18 μ17 => bv (sF μ17 151 6 ((μ13.1 151 6) - r18)) (fun μ19 => bw (p_X6_goOn v7 r4 μ19) (fun μ20 => some μ20))))) else bw (p_X6_goOn v7 r4 μ8) (fun μ11 => some μ11))))) else bw (p_X1_endWith (sel 0 (μ5.2.2 151 8)) r4 μ5) (fun μ22 => some μ22)))))) := Classical.choose_spec p_X6_endBlock_ex  μ
set_option maxHeartbeats 4000000 in
set_option maxRecDepth 100000 in
theorem t_X6_endBlock (l : Launch) (G : Gt) (ad : Nat → Nat)  (μ : Mem) {μz : Mem} (h : p_X6_endBlock  μ = some μz) : Mt l yX6_endBlock cX6_endBlock 4 none ({ frames := 3, cells := 0, slots := 0, locals := 75 } : Room) G [.ref (ad 151)] (wd 0 G ad μ) (eV 0 G ad μz) := by
  refine Bk.mt (by decide) rfl (Nat.le_of_ble_eq_true rfl) ?_
  intro p e s m below meth c A ls H locs cx hr hlk hA hl hw
  have hx := cx.1
  have hb := cx.2.1
  have hl : lv_has ls 4 [(0, .ref (ad 151))] := hl
  rw [p_X6_endBlock_eq] at h
  refine lv_aload_n hx hb dX6_endBlock_0 rfl (lv_at hl 0 rfl) ?_
  refine lv_aload_n hx hb dX6_endBlock_1 rfl (lv_at hl 0 rfl) ?_
  refine g_get cx hw inX6 (ci := 5) rfl 7 (by decide) rfl (v := .ref (ad 39)) shx_151 rfl fl_X6_33 dX6_endBlock_2 ?_
  refine lv_aload_n hx hb dX6_endBlock_5 rfl (lv_at hl 0 rfl) ?_
  refine g_get cx hw inX6 (ci := 5) rfl 3 (by decide) rfl (v := .ref (ad 154)) shx_151 rfl fl_X6_26 dX6_endBlock_6 ?_
  refine lv_aload_n hx hb dX6_endBlock_9 rfl (lv_at hl 0 rfl) ?_
  refine g_get cx hw inX6 (ci := 5) rfl 5 (by decide) rfl (v := .int (μ.1 151 5)) shx_151 rfl fl_X6_41 dX6_endBlock_10 ?_
  refine lv_iconst (v := 1) hx hb dX6_endBlock_13 (by decide) ?_
  refine lv_isub hx hb dX6_endBlock_14 ?_
  refine g_iald cx hw shx_154 h dX6_endBlock_15 (fun h => ?_)
  obtain ⟨r2, μ1, gr2, h⟩ := bd_some h
  refine g_callVL (As := [.int (μ.1 154 ((μ.1 151 5) - (1 : Int32)).toNatClampNeg)]) (rest := [.ref (ad 151)]) cx hw hA (t_X5_endOf l G ad (μ.1 154 ((μ.1 151 5) - (1 : Int32)).toNatClampNeg) μ gr2) shx_39 rfl ml_X6_109 im_X5_endOf se_X5_endOf in_X5 co_X5_endOf rfl hd_X5_endOf rfl ⟨(Nat.le_of_ble_eq_true rfl), (Nat.le_of_ble_eq_true rfl)⟩ hl.1 rfl (Nat.le_of_ble_eq_true rfl) dX6_endBlock_16 ⟨rfl, rfl⟩ (fun H locs hw => ?_)
  obtain ⟨r4, μ3, gr4, h⟩ := bd_some h
  refine g_callVL (As := [.long r2]) (rest := []) cx hw hA (t_X6_known l G ad r2 μ1 gr4) shx_151 rfl ml_X6_101 im_X6_known se_X6_known in_X6 co_X6_known rfl hd_X6_known rfl ⟨(Nat.le_of_ble_eq_true rfl), (Nat.le_of_ble_eq_true rfl)⟩ hl.1 rfl (Nat.le_of_ble_eq_true rfl) dX6_endBlock_19 ⟨rfl, rfl⟩ (fun H locs hw => ?_)
  refine lv_lstore_n (lv' := [(1, .long r4), (0, .ref (ad 151))]) hx hb dX6_endBlock_22 rfl hl (by decide) rfl (fun ls hl => ?_)
  refine lv_aload_n hx hb dX6_endBlock_23 rfl (lv_at hl 1 rfl) ?_
  refine lv_dup hx hb dX6_endBlock_24 rfl ?_
  refine g_get cx hw inX6 (ci := 5) rfl 5 (by decide) rfl (v := .int (μ3.1 151 5)) shx_151 rfl fl_X6_41 dX6_endBlock_25 ?_
  refine lv_iconst (v := 1) hx hb dX6_endBlock_28 (by decide) ?_
  refine lv_isub hx hb dX6_endBlock_29 ?_
  refine g_put cx hw inX6 (ci := 5) rfl tyX6_ok nmX6 5 (by decide) rfl rfl rfl rfl shx_151 h fl_X6_41 dX6_endBlock_30 (fun μ5 H locs h hw => ?_)
  refine lv_aload_n hx hb dX6_endBlock_33 rfl (lv_at hl 1 rfl) ?_
  refine g_get cx hw inX6 (ci := 5) rfl 5 (by decide) rfl (v := .int (μ5.1 151 5)) shx_151 rfl fl_X6_41 dX6_endBlock_34 ?_
  refine lv_iconst (v := 1) hx hb dX6_endBlock_37 (by decide) ?_
  refine lv_icmp_ge (tgt := 54) hx hb dX6_endBlock_38 (by decide) (fun c6 => ?_) (fun c6 => ?_)
  · rw [if_pos c6] at h
    refine lv_aload_n hx hb dX6_endBlock_54 rfl (lv_at hl 1 rfl) ?_
    refine g_get cx hw inX6 (ci := 5) rfl 4 (by decide) rfl (v := .ref (ad 155)) shx_151 rfl fl_X6_30 dX6_endBlock_55 ?_
    refine lv_aload_n hx hb dX6_endBlock_58 rfl (lv_at hl 1 rfl) ?_
    refine g_get cx hw inX6 (ci := 5) rfl 5 (by decide) rfl (v := .int (μ5.1 151 5)) shx_151 rfl fl_X6_41 dX6_endBlock_59 ?_
    refine lv_iconst (v := 1) hx hb dX6_endBlock_62 (by decide) ?_
    refine lv_isub hx hb dX6_endBlock_63 ?_
    refine g_iald cx hw shx_155 h dX6_endBlock_64 (fun h => ?_)
    obtain ⟨v7, ev7, h⟩ := bv_ex h
    refine lv_topi (fun y9 z9 => ?_)
    obtain rfl : v7 = y9 := ev7.trans z9.symm
    refine lv_istore_n (lv' := [(3, .int v7), (1, .long r4), (0, .ref (ad 151))]) hx hb dX6_endBlock_65 rfl hl (by decide) rfl (fun ls hl => ?_)
    refine lv_aload_n hx hb dX6_endBlock_66 rfl (lv_at hl 2 rfl) ?_
    refine g_get cx hw inX6 (ci := 5) rfl 7 (by decide) rfl (v := .ref (ad 39)) shx_151 rfl fl_X6_33 dX6_endBlock_67 ?_
    refine lv_iload_n hx hb dX6_endBlock_70 rfl (lv_at hl 0 rfl) ?_
    refine lv_iconst (v := 0) hx hb dX6_endBlock_71 (by decide) ?_
    obtain ⟨r9, μ8, gr9, h⟩ := bd_some h
    refine g_callVI (As := [.int v7, .int 0]) (rest := []) cx hw hA (t_X5_cell l G ad v7 (0 : Int32) μ5 gr9) shx_39 rfl ml_X6_117 im_X5_cell se_X5_cell in_X5 co_X5_cell rfl hd_X5_cell rfl ⟨(Nat.le_of_ble_eq_true rfl), (Nat.le_of_ble_eq_true rfl)⟩ hl.1 rfl (Nat.le_of_ble_eq_true rfl) dX6_endBlock_72 ⟨rfl, rfl⟩ (fun H locs hw => ?_)
    refine lv_bipush (v := 11) hx hb dX6_endBlock_75 (by decide) ?_
    refine lv_icmp_ne (tgt := 114) hx hb dX6_endBlock_77 (by decide) (fun c10 => ?_) (fun c10 => ?_)
    · rw [if_neg c10] at h
      refine lv_aload_n hx hb dX6_endBlock_114 rfl (lv_at hl 2 rfl) ?_
      refine lv_iload_n hx hb dX6_endBlock_115 rfl (lv_at hl 0 rfl) ?_
      refine lv_lload_n hx hb dX6_endBlock_116 rfl (lv_at hl 1 rfl) ?_
      obtain ⟨μ11, gμ11, h⟩ := bw_some h
      refine g_callVV (As := [.int v7, .long r4]) (rest := []) cx hw hA (t_X6_goOn l G ad v7 r4 μ8 gμ11) shx_151 rfl ml_X6_123 im_X6_goOn se_X6_goOn in_X6 co_X6_goOn rfl hd_X6_goOn rfl ⟨(Nat.le_of_ble_eq_true rfl), (Nat.le_of_ble_eq_true rfl)⟩ hl.1 rfl (Nat.le_of_ble_eq_true rfl) dX6_endBlock_117 ⟨rfl, rfl⟩ (fun H locs hw => ?_)
      exact g_vret cx hr hlk hw h dX6_endBlock_120
    · rw [if_pos c10] at h
      refine lv_aload_n hx hb dX6_endBlock_80 rfl (lv_at hl 2 rfl) ?_
      refine g_get cx hw inX6 (ci := 5) rfl 8 (by decide) rfl (v := .ref (ad (sel 0 (μ8.2.2 151 8)))) shx_151 rfl fl_X6_37 dX6_endBlock_81 ?_
      obtain ⟨μ13, gμ13, h⟩ := bw_some h
      refine g_callVV (As := []) (rest := []) cx hw hA (t_X1_endCall l G ad (sel 0 (μ8.2.2 151 8)) (sel_0 _) μ8 gμ13) (sel_0 _) rfl ml_X6_120 im_X1_endCall se_X1_endCall in_X1 co_X1_endCall rfl hd_X1_endCall rfl ⟨(Nat.le_of_ble_eq_true rfl), (Nat.le_of_ble_eq_true rfl)⟩ hl.1 rfl (Nat.le_of_ble_eq_true rfl) dX6_endBlock_84 ⟨rfl, rfl⟩ (fun H locs hw => ?_)
      refine lv_aload_n hx hb dX6_endBlock_87 rfl (lv_at hl 2 rfl) ?_
      refine lv_dup hx hb dX6_endBlock_88 rfl ?_
      refine g_get cx hw inX6 (ci := 5) rfl 6 (by decide) rfl (v := .int (μ13.1 151 6)) shx_151 rfl fl_X6_45 dX6_endBlock_89 ?_
      refine lv_aload_n hx hb dX6_endBlock_92 rfl (lv_at hl 2 rfl) ?_
      refine g_get cx hw inX6 (ci := 5) rfl 7 (by decide) rfl (v := .ref (ad 39)) shx_151 rfl fl_X6_33 dX6_endBlock_93 ?_
      refine lv_aload_n hx hb dX6_endBlock_96 rfl (lv_at hl 2 rfl) ?_
      refine g_get cx hw inX6 (ci := 5) rfl 7 (by decide) rfl (v := .ref (ad 39)) shx_151 rfl fl_X6_33 dX6_endBlock_97 ?_
      refine lv_iload_n hx hb dX6_endBlock_100 rfl (lv_at hl 0 rfl) ?_
      refine lv_bipush (v := 6) hx hb dX6_endBlock_101 (by decide) ?_
      obtain ⟨r16, μ15, gr16, h⟩ := bd_some h
      refine g_callVI (As := [.int v7, .int 6]) (rest := [.ref (ad 39), .int (μ13.1 151 6), .ref (ad 151)]) cx hw hA (t_X5_cell l G ad v7 (6 : Int32) μ13 gr16) shx_39 rfl ml_X6_117 im_X5_cell se_X5_cell in_X5 co_X5_cell rfl hd_X5_cell rfl ⟨(Nat.le_of_ble_eq_true rfl), (Nat.le_of_ble_eq_true rfl)⟩ hl.1 rfl (Nat.le_of_ble_eq_true rfl) dX6_endBlock_103 ⟨rfl, rfl⟩ (fun H locs hw => ?_)
      refine lv_iconst (v := 2) hx hb dX6_endBlock_106 (by decide) ?_
      obtain ⟨r18, μ17, gr18, h⟩ := bd_some h
      refine g_callVI (As := [.int r16, .int 2]) (rest := [.int (μ13.1 151 6), .ref (ad 151)]) cx hw hA (t_X5_ofVariant l G ad r16 (2 : Int32) μ15 gr18) shx_39 rfl ml_X6_66 im_X5_ofVariant se_X5_ofVariant in_X5 co_X5_ofVariant rfl hd_X5_ofVariant rfl ⟨(Nat.le_of_ble_eq_true rfl), (Nat.le_of_ble_eq_true rfl)⟩ hl.1 rfl (Nat.le_of_ble_eq_true rfl) dX6_endBlock_107 ⟨rfl, rfl⟩ (fun H locs hw => ?_)
      refine lv_isub hx hb dX6_endBlock_110 ?_
      refine g_put cx hw inX6 (ci := 5) rfl tyX6_ok nmX6 6 (by decide) rfl rfl rfl rfl shx_151 h fl_X6_45 dX6_endBlock_111 (fun μ19 H locs h hw => ?_)
      refine lv_aload_n hx hb dX6_endBlock_114 rfl (lv_at hl 2 rfl) ?_
      refine lv_iload_n hx hb dX6_endBlock_115 rfl (lv_at hl 0 rfl) ?_
      refine lv_lload_n hx hb dX6_endBlock_116 rfl (lv_at hl 1 rfl) ?_
      obtain ⟨μ20, gμ20, h⟩ := bw_some h
      refine g_callVV (As := [.int v7, .long r4]) (rest := []) cx hw hA (t_X6_goOn l G ad v7 r4 μ19 gμ20) shx_151 rfl ml_X6_123 im_X6_goOn se_X6_goOn in_X6 co_X6_goOn rfl hd_X6_goOn rfl ⟨(Nat.le_of_ble_eq_true rfl), (Nat.le_of_ble_eq_true rfl)⟩ hl.1 rfl (Nat.le_of_ble_eq_true rfl) dX6_endBlock_117 ⟨rfl, rfl⟩ (fun H locs hw => ?_)
      exact g_vret cx hr hlk hw h dX6_endBlock_120
  · rw [if_neg c6] at h
    refine lv_aload_n hx hb dX6_endBlock_41 rfl (lv_at hl 1 rfl) ?_
    refine g_get cx hw inX6 (ci := 5) rfl 8 (by decide) rfl (v := .ref (ad (sel 0 (μ5.2.2 151 8)))) shx_151 rfl fl_X6_37 dX6_endBlock_42 ?_
    refine lv_aload_n hx hb dX6_endBlock_45 rfl (lv_at hl 1 rfl) ?_
    refine g_get cx hw inX6 (ci := 5) rfl 0 (by decide) rfl (v := .ref (ad 30)) shx_151 rfl fl_X6_13 dX6_endBlock_46 ?_
    refine lv_lload_n hx hb dX6_endBlock_49 rfl (lv_at hl 0 rfl) ?_
    obtain ⟨μ22, gμ22, h⟩ := bw_some h
    refine g_callVV (As := [.ref (ad 30), .long r4]) (rest := []) cx hw hA (t_X1_endWith l G ad (sel 0 (μ5.2.2 151 8)) (sel_0 _) r4 μ5 gμ22) (sel_0 _) rfl ml_X6_113 im_X1_endWith se_X1_endWith in_X1 co_X1_endWith rfl hd_X1_endWith rfl ⟨(Nat.le_of_ble_eq_true rfl), (Nat.le_of_ble_eq_true rfl)⟩ hl.1 rfl (Nat.le_of_ble_eq_true rfl) dX6_endBlock_50 ⟨rfl, rfl⟩ (fun H locs hw => ?_)
    exact g_vret cx hr hlk hw h dX6_endBlock_53

theorem p_X5_operand_b27_ex : ∃ f : Int32 → Int32 → Int32 → Mem → Option (Int64 × Mem), ∀ (a1 : Int32) (a2 : Int32) (k0 : Int32) (μ : Mem), f a1 a2 k0 μ = (if k0 = (0 : Int32) then some ((0 : Int64), μ) else gd (inb ((a1 * (10 : Int32)) + a2) 3000) (some ((μ.2.1 41 ((a1 * (10 : Int32)) + a2).toNatClampNeg), μ))) := ⟨fun (a1 : Int32) (a2 : Int32) (k0 : Int32) (μ : Mem) => (if k0 = (0 : Int32) then some ((0 : Int64), μ) else gd (inb ((a1 * (10 : Int32)) + a2) 3000) (some ((μ.2.1 41 ((a1 * (10 : Int32)) + a2).toNatClampNeg), μ))), fun _ _ _ _ => rfl⟩
noncomputable def p_X5_operand_b27 : Int32 → Int32 → Int32 → Mem → Option (Int64 × Mem) := Classical.choose p_X5_operand_b27_ex
theorem p_X5_operand_b27_eq (a1 : Int32) (a2 : Int32) (k0 : Int32) (μ : Mem) : p_X5_operand_b27 a1 a2 k0 μ = (if k0 = (0 : Int32) then some ((0 : Int64), μ) else gd (inb ((a1 * (10 : Int32)) + a2) 3000) (some ((μ.2.1 41 ((a1 * (10 : Int32)) + a2).toNatClampNeg), μ))) := Classical.choose_spec p_X5_operand_b27_ex a1 a2 k0 μ
set_option maxHeartbeats 4000000 in
set_option maxRecDepth 100000 in
theorem t_X5_operand_b27 (l : Launch) (G : Gt) (ad : Nat → Nat) (av : List Value) {r : Int64} {μz : Mem} (a1 : Int32) (a2 : Int32) (k0 : Int32) (μ : Mem) (h : p_X5_operand_b27  a1 a2 k0 μ = some (r, μz)) : Bk l cX5_operand 4 RX5 (some .long) ({ frames := 0, cells := 0, slots := 0, locals := 0 } : Room) G av (eL 0 G ad r μz) (wd 0 G ad μ) 27 [(0, .ref (ad 39)), (1, .int a1), (2, .int a2)] [.int k0] := by
  intro p e s m below meth c A ls H locs cx hr hlk hA hl hw
  have hx := cx.1
  have hb := cx.2.1
  rw [p_X5_operand_b27_eq] at h
  refine lv_istore_n (lv' := [(3, .int k0), (0, .ref (ad 39)), (1, .int a1), (2, .int a2)]) hx hb dX5_operand_27 rfl hl (by decide) rfl (fun ls hl => ?_)
  refine lv_iload_n hx hb dX5_operand_28 rfl (lv_at hl 0 rfl) ?_
  refine lv_if_eq (tgt := 46) hx hb dX5_operand_29 (by decide) (fun c2 => ?_) (fun c2 => ?_)
  · rw [if_pos c2] at h
    refine lv_lconst (v := 0) hx hb dX5_operand_46 (by decide) ?_
    exact g_lret cx hr hlk hw h dX5_operand_47
  · rw [if_neg c2] at h
    refine lv_aload_n hx hb dX5_operand_32 rfl (lv_at hl 1 rfl) ?_
    refine g_get cx hw inX5 (ci := 4) rfl 8 (by decide) rfl (v := .ref (ad 41)) shx_39 rfl fl_X5_15 dX5_operand_33 ?_
    refine lv_iload_n hx hb dX5_operand_36 rfl (lv_at hl 2 rfl) ?_
    refine lv_bipush (v := 10) hx hb dX5_operand_37 (by decide) ?_
    refine lv_imul hx hb dX5_operand_39 ?_
    refine lv_iload_n hx hb dX5_operand_40 rfl (lv_at hl 3 rfl) ?_
    refine lv_iadd hx hb dX5_operand_41 ?_
    refine g_lald cx hw shx_41 h dX5_operand_42 (fun h => ?_)
    refine lv_goto (tgt := 47) hx hb dX5_operand_43 (by decide) ?_
    exact g_lret cx hr hlk hw h dX5_operand_47
theorem p_X5_operand_b26_ex : ∃ f : Int32 → Int32 → Mem → Option (Int64 × Mem), ∀ (a1 : Int32) (a2 : Int32) (μ : Mem), f a1 a2 μ = p_X5_operand_b27  a1 a2 (0 : Int32) μ := ⟨fun (a1 : Int32) (a2 : Int32) (μ : Mem) => p_X5_operand_b27  a1 a2 (0 : Int32) μ, fun _ _ _ => rfl⟩
noncomputable def p_X5_operand_b26 : Int32 → Int32 → Mem → Option (Int64 × Mem) := Classical.choose p_X5_operand_b26_ex
theorem p_X5_operand_b26_eq (a1 : Int32) (a2 : Int32) (μ : Mem) : p_X5_operand_b26 a1 a2 μ = p_X5_operand_b27  a1 a2 (0 : Int32) μ := Classical.choose_spec p_X5_operand_b26_ex a1 a2 μ
set_option maxHeartbeats 4000000 in
set_option maxRecDepth 100000 in
theorem t_X5_operand_b26 (l : Launch) (G : Gt) (ad : Nat → Nat) (av : List Value) {r : Int64} {μz : Mem} (a1 : Int32) (a2 : Int32) (μ : Mem) (h : p_X5_operand_b26  a1 a2 μ = some (r, μz)) : Bk l cX5_operand 4 RX5 (some .long) ({ frames := 0, cells := 0, slots := 0, locals := 0 } : Room) G av (eL 0 G ad r μz) (wd 0 G ad μ) 26 [(0, .ref (ad 39)), (1, .int a1), (2, .int a2)] [] := by
  intro p e s m below meth c A ls H locs cx hr hlk hA hl hw
  have hx := cx.1
  have hb := cx.2.1
  rw [p_X5_operand_b26_eq] at h
  refine lv_iconst (v := 0) hx hb dX5_operand_26 (by decide) ?_
  exact t_X5_operand_b27 l G ad av  a1 a2 (0 : Int32) μ h p e s m below meth c A ls H locs cx hr hlk hA (lv_sub hl [0, 1, 2] rfl) hw
theorem p_X5_operand_ex : ∃ f : Int32 → Int32 → Mem → Option (Int64 × Mem), ∀ (a1 : Int32) (a2 : Int32) (μ : Mem), f a1 a2 μ = (if a1 < (0 : Int32) then p_X5_operand_b26  a1 a2 μ else (if (μ.1 39 1) ≤ a1 then p_X5_operand_b26  a1 a2 μ else (if a2 < (0 : Int32) then p_X5_operand_b26  a1 a2 μ else (if (10 : Int32) ≤ a2 then p_X5_operand_b26  a1 a2 μ else p_X5_operand_b27  a1 a2 (1 : Int32) μ)))) := ⟨fun (a1 : Int32) (a2 : Int32) (μ : Mem) => (if a1 < (0 : Int32) then p_X5_operand_b26  a1 a2 μ else (if (μ.1 39 1) ≤ a1 then p_X5_operand_b26  a1 a2 μ else (if a2 < (0 : Int32) then p_X5_operand_b26  a1 a2 μ else (if (10 : Int32) ≤ a2 then p_X5_operand_b26  a1 a2 μ else p_X5_operand_b27  a1 a2 (1 : Int32) μ)))), fun _ _ _ => rfl⟩
noncomputable def p_X5_operand : Int32 → Int32 → Mem → Option (Int64 × Mem) := Classical.choose p_X5_operand_ex
theorem p_X5_operand_eq (a1 : Int32) (a2 : Int32) (μ : Mem) : p_X5_operand a1 a2 μ = (if a1 < (0 : Int32) then p_X5_operand_b26  a1 a2 μ else (if (μ.1 39 1) ≤ a1 then p_X5_operand_b26  a1 a2 μ else (if a2 < (0 : Int32) then p_X5_operand_b26  a1 a2 μ else (if (10 : Int32) ≤ a2 then p_X5_operand_b26  a1 a2 μ else p_X5_operand_b27  a1 a2 (1 : Int32) μ)))) := Classical.choose_spec p_X5_operand_ex a1 a2 μ
set_option maxHeartbeats 4000000 in
set_option maxRecDepth 100000 in
theorem t_X5_operand (l : Launch) (G : Gt) (ad : Nat → Nat) (a1 : Int32) (a2 : Int32) (μ : Mem) {r : Int64} {μz : Mem} (h : p_X5_operand a1 a2 μ = some (r, μz)) : Mt l yX5_operand cX5_operand 4 (some .long) ({ frames := 0, cells := 0, slots := 0, locals := 0 } : Room) G [.ref (ad 39), .int a1, .int a2] (wd 0 G ad μ) (eL 0 G ad r μz) := by
  refine Bk.mt (by decide) rfl (Nat.le_of_ble_eq_true rfl) ?_
  intro p e s m below meth c A ls H locs cx hr hlk hA hl hw
  have hx := cx.1
  have hb := cx.2.1
  have hl : lv_has ls 4 [(0, .ref (ad 39)), (1, .int a1), (2, .int a2)] := hl
  rw [p_X5_operand_eq] at h
  refine lv_iload_n hx hb dX5_operand_0 rfl (lv_at hl 1 rfl) ?_
  refine lv_if_lt (tgt := 26) hx hb dX5_operand_1 (by decide) (fun c1 => ?_) (fun c1 => ?_)
  · rw [if_pos c1] at h
    exact t_X5_operand_b26 l G ad _  a1 a2 μ h p e s m below meth c A ls H locs cx hr hlk hA (lv_sub hl [0, 1, 2] rfl) hw
  · rw [if_neg c1] at h
    refine lv_iload_n hx hb dX5_operand_4 rfl (lv_at hl 1 rfl) ?_
    refine lv_aload_n hx hb dX5_operand_5 rfl (lv_at hl 0 rfl) ?_
    refine g_get cx hw inX5 (ci := 4) rfl 1 (by decide) rfl (v := .int (μ.1 39 1)) shx_39 rfl fl_X5_44 dX5_operand_6 ?_
    refine lv_icmp_ge (tgt := 26) hx hb dX5_operand_9 (by decide) (fun c3 => ?_) (fun c3 => ?_)
    · rw [if_pos c3] at h
      exact t_X5_operand_b26 l G ad _  a1 a2 μ h p e s m below meth c A ls H locs cx hr hlk hA (lv_sub hl [0, 1, 2] rfl) hw
    · rw [if_neg c3] at h
      refine lv_iload_n hx hb dX5_operand_12 rfl (lv_at hl 2 rfl) ?_
      refine lv_if_lt (tgt := 26) hx hb dX5_operand_13 (by decide) (fun c4 => ?_) (fun c4 => ?_)
      · rw [if_pos c4] at h
        exact t_X5_operand_b26 l G ad _  a1 a2 μ h p e s m below meth c A ls H locs cx hr hlk hA (lv_sub hl [0, 1, 2] rfl) hw
      · rw [if_neg c4] at h
        refine lv_iload_n hx hb dX5_operand_16 rfl (lv_at hl 2 rfl) ?_
        refine lv_bipush (v := 10) hx hb dX5_operand_17 (by decide) ?_
        refine lv_icmp_ge (tgt := 26) hx hb dX5_operand_19 (by decide) (fun c5 => ?_) (fun c5 => ?_)
        · rw [if_pos c5] at h
          exact t_X5_operand_b26 l G ad _  a1 a2 μ h p e s m below meth c A ls H locs cx hr hlk hA (lv_sub hl [0, 1, 2] rfl) hw
        · rw [if_neg c5] at h
          refine lv_iconst (v := 1) hx hb dX5_operand_22 (by decide) ?_
          refine lv_goto (tgt := 27) hx hb dX5_operand_23 (by decide) ?_
          exact t_X5_operand_b27 l G ad _  a1 a2 (1 : Int32) μ h p e s m below meth c A ls H locs cx hr hlk hA (lv_sub hl [0, 1, 2] rfl) hw

theorem p_X6_operand_ex : ∃ f : Int32 → Int32 → Mem → Option (Int64 × Mem), ∀ (a1 : Int32) (a2 : Int32) (μ : Mem), f a1 a2 μ = bd (p_X5_operand a1 a2 μ) (fun r2 μ1 => bd (p_X6_known r2 μ1) (fun r4 μ3 => some (r4, μ3))) := ⟨fun (a1 : Int32) (a2 : Int32) (μ : Mem) => bd (p_X5_operand a1 a2 μ) (fun r2 μ1 => bd (p_X6_known r2 μ1) (fun r4 μ3 => some (r4, μ3))), fun _ _ _ => rfl⟩
noncomputable def p_X6_operand : Int32 → Int32 → Mem → Option (Int64 × Mem) := Classical.choose p_X6_operand_ex
theorem p_X6_operand_eq (a1 : Int32) (a2 : Int32) (μ : Mem) : p_X6_operand a1 a2 μ = bd (p_X5_operand a1 a2 μ) (fun r2 μ1 => bd (p_X6_known r2 μ1) (fun r4 μ3 => some (r4, μ3))) := Classical.choose_spec p_X6_operand_ex a1 a2 μ
set_option maxHeartbeats 4000000 in
set_option maxRecDepth 100000 in
theorem t_X6_operand (l : Launch) (G : Gt) (ad : Nat → Nat) (a1 : Int32) (a2 : Int32) (μ : Mem) {r : Int64} {μz : Mem} (h : p_X6_operand a1 a2 μ = some (r, μz)) : Mt l yX6_operand cX6_operand 3 (some .long) ({ frames := 2, cells := 0, slots := 0, locals := 44 } : Room) G [.ref (ad 151), .int a1, .int a2] (wd 0 G ad μ) (eL 0 G ad r μz) := by
  refine Bk.mt (by decide) rfl (Nat.le_of_ble_eq_true rfl) ?_
  intro p e s m below meth c A ls H locs cx hr hlk hA hl hw
  have hx := cx.1
  have hb := cx.2.1
  have hl : lv_has ls 3 [(0, .ref (ad 151)), (1, .int a1), (2, .int a2)] := hl
  rw [p_X6_operand_eq] at h
  refine lv_aload_n hx hb dX6_operand_0 rfl (lv_at hl 0 rfl) ?_
  refine lv_aload_n hx hb dX6_operand_1 rfl (lv_at hl 0 rfl) ?_
  refine g_get cx hw inX6 (ci := 5) rfl 7 (by decide) rfl (v := .ref (ad 39)) shx_151 rfl fl_X6_33 dX6_operand_2 ?_
  refine lv_iload_n hx hb dX6_operand_5 rfl (lv_at hl 1 rfl) ?_
  refine lv_iload_n hx hb dX6_operand_6 rfl (lv_at hl 2 rfl) ?_
  obtain ⟨r2, μ1, gr2, h⟩ := bd_some h
  refine g_callVL (As := [.int a1, .int a2]) (rest := [.ref (ad 151)]) cx hw hA (t_X5_operand l G ad a1 a2 μ gr2) shx_39 rfl ml_X6_97 im_X5_operand se_X5_operand in_X5 co_X5_operand rfl hd_X5_operand rfl ⟨(Nat.le_of_ble_eq_true rfl), (Nat.le_of_ble_eq_true rfl)⟩ hl.1 rfl (Nat.le_of_ble_eq_true rfl) dX6_operand_7 ⟨rfl, rfl⟩ (fun H locs hw => ?_)
  obtain ⟨r4, μ3, gr4, h⟩ := bd_some h
  refine g_callVL (As := [.long r2]) (rest := []) cx hw hA (t_X6_known l G ad r2 μ1 gr4) shx_151 rfl ml_X6_101 im_X6_known se_X6_known in_X6 co_X6_known rfl hd_X6_known rfl ⟨(Nat.le_of_ble_eq_true rfl), (Nat.le_of_ble_eq_true rfl)⟩ hl.1 rfl (Nat.le_of_ble_eq_true rfl) dX6_operand_10 ⟨rfl, rfl⟩ (fun H locs hw => ?_)
  exact g_lret cx hr hlk hw h dX6_operand_13

theorem p_X6_num_ex : ∃ f : Int32 → Int32 → Mem → Option (Int64 × Mem), ∀ (a1 : Int32) (a2 : Int32) (μ : Mem), f a1 a2 μ = bd (p_X6_operand a1 a2 μ) (fun r2 μ1 => bd (p_X8_num r2 μ1) (fun r4 μ3 => some (r4, μ3))) := ⟨fun (a1 : Int32) (a2 : Int32) (μ : Mem) => bd (p_X6_operand a1 a2 μ) (fun r2 μ1 => bd (p_X8_num r2 μ1) (fun r4 μ3 => some (r4, μ3))), fun _ _ _ => rfl⟩
noncomputable def p_X6_num : Int32 → Int32 → Mem → Option (Int64 × Mem) := Classical.choose p_X6_num_ex
theorem p_X6_num_eq (a1 : Int32) (a2 : Int32) (μ : Mem) : p_X6_num a1 a2 μ = bd (p_X6_operand a1 a2 μ) (fun r2 μ1 => bd (p_X8_num r2 μ1) (fun r4 μ3 => some (r4, μ3))) := Classical.choose_spec p_X6_num_ex a1 a2 μ
set_option maxHeartbeats 4000000 in
set_option maxRecDepth 100000 in
theorem t_X6_num (l : Launch) (G : Gt) (ad : Nat → Nat) (a1 : Int32) (a2 : Int32) (μ : Mem) {r : Int64} {μz : Mem} (h : p_X6_num a1 a2 μ = some (r, μz)) : Mt l yX6_num cX6_num 3 (some .long) ({ frames := 3, cells := 0, slots := 0, locals := 69 } : Room) G [.ref (ad 151), .int a1, .int a2] (wd 0 G ad μ) (eL 0 G ad r μz) := by
  refine Bk.mt (by decide) rfl (Nat.le_of_ble_eq_true rfl) ?_
  intro p e s m below meth c A ls H locs cx hr hlk hA hl hw
  have hx := cx.1
  have hb := cx.2.1
  have hl : lv_has ls 3 [(0, .ref (ad 151)), (1, .int a1), (2, .int a2)] := hl
  rw [p_X6_num_eq] at h
  refine lv_aload_n hx hb dX6_num_0 rfl (lv_at hl 0 rfl) ?_
  refine g_get cx hw inX6 (ci := 5) rfl 0 (by decide) rfl (v := .ref (ad 30)) shx_151 rfl fl_X6_13 dX6_num_1 ?_
  refine lv_aload_n hx hb dX6_num_4 rfl (lv_at hl 0 rfl) ?_
  refine lv_iload_n hx hb dX6_num_5 rfl (lv_at hl 1 rfl) ?_
  refine lv_iload_n hx hb dX6_num_6 rfl (lv_at hl 2 rfl) ?_
  obtain ⟨r2, μ1, gr2, h⟩ := bd_some h
  refine g_callVL (As := [.int a1, .int a2]) (rest := [.ref (ad 30)]) cx hw hA (t_X6_operand l G ad a1 a2 μ gr2) shx_151 rfl ml_X6_105 im_X6_operand se_X6_operand in_X6 co_X6_operand rfl hd_X6_operand rfl ⟨(Nat.le_of_ble_eq_true rfl), (Nat.le_of_ble_eq_true rfl)⟩ hl.1 rfl (Nat.le_of_ble_eq_true rfl) dX6_num_7 ⟨rfl, rfl⟩ (fun H locs hw => ?_)
  obtain ⟨r4, μ3, gr4, h⟩ := bd_some h
  refine g_callVL (As := [.long r2]) (rest := []) cx hw hA (t_X8_num l G ad r2 μ1 gr4) shx_30 rfl ml_X6_106 im_X8_num se_X8_num in_X8 co_X8_num rfl hd_X8_num rfl ⟨(Nat.le_of_ble_eq_true rfl), (Nat.le_of_ble_eq_true rfl)⟩ hl.1 rfl (Nat.le_of_ble_eq_true rfl) dX6_num_10 ⟨rfl, rfl⟩ (fun H locs hw => ?_)
  exact g_lret cx hr hlk hw h dX6_num_13

theorem p_X6_makePair_ex : ∃ f : Int32 → Mem → Option Mem, ∀ (a1 : Int32) (μ : Mem), f a1 μ = bd (p_X6_operand a1 (0 : Int32) μ) (fun r2 μ1 => bd (p_X6_operand a1 (1 : Int32) μ1) (fun r4 μ3 => bd (p_X8_isTooHeavy r2 r4 μ3) (fun r6 μ5 => (if r6 = (0 : Int32) then bd (p_X8_pair r2 r4 μ5) (fun r9 μ8 => bw (p_X6_goOn a1 r9 μ8) (fun μ10 => some μ10)) else bv (sF μ5 (sel 0 (μ5.2.2 151 8)) 0 (2 : Int32)) (fun μ12 => some μ12))))) := ⟨fun (a1 : Int32) (μ : Mem) => bd (p_X6_operand a1 (0 : Int32) μ) (fun r2 μ1 => bd (p_X6_operand a1 (1 : Int32) μ1) (fun r4 μ3 => bd (p_X8_isTooHeavy r2 r4 μ3) (fun r6 μ5 => (if r6 = (0 : Int32) then bd (p_X8_pair r2 r4 μ5) (fun r9 μ8 => bw (p_X6_goOn a1 r9 μ8) (fun μ10 => some μ10)) else bv (sF μ5 (sel 0 (μ5.2.2 151 8)) 0 (2 : Int32)) (fun μ12 => some μ12))))), fun _ _ => rfl⟩
noncomputable def p_X6_makePair : Int32 → Mem → Option Mem := Classical.choose p_X6_makePair_ex
theorem p_X6_makePair_eq (a1 : Int32) (μ : Mem) : p_X6_makePair a1 μ = bd (p_X6_operand a1 (0 : Int32) μ) (fun r2 μ1 => bd (p_X6_operand a1 (1 : Int32) μ1) (fun r4 μ3 => bd (p_X8_isTooHeavy r2 r4 μ3) (fun r6 μ5 => (if r6 = (0 : Int32) then bd (p_X8_pair r2 r4 μ5) (fun r9 μ8 => bw (p_X6_goOn a1 r9 μ8) (fun μ10 => some μ10)) else bv (sF μ5 (sel 0 (μ5.2.2 151 8)) 0 (2 : Int32)) (fun μ12 => some μ12))))) := Classical.choose_spec p_X6_makePair_ex a1 μ
set_option maxHeartbeats 4000000 in
set_option maxRecDepth 100000 in
theorem t_X6_makePair (l : Launch) (G : Gt) (ad : Nat → Nat) (a1 : Int32) (μ : Mem) {μz : Mem} (h : p_X6_makePair a1 μ = some μz) : Mt l yX6_makePair cX6_makePair 6 none ({ frames := 3, cells := 0, slots := 0, locals := 68 } : Room) G [.ref (ad 151), .int a1] (wd 0 G ad μ) (eV 0 G ad μz) := by
  refine Bk.mt (by decide) rfl (Nat.le_of_ble_eq_true rfl) ?_
  intro p e s m below meth c A ls H locs cx hr hlk hA hl hw
  have hx := cx.1
  have hb := cx.2.1
  have hl : lv_has ls 6 [(0, .ref (ad 151)), (1, .int a1)] := hl
  rw [p_X6_makePair_eq] at h
  refine lv_aload_n hx hb dX6_makePair_0 rfl (lv_at hl 0 rfl) ?_
  refine lv_iload_n hx hb dX6_makePair_1 rfl (lv_at hl 1 rfl) ?_
  refine lv_iconst (v := 0) hx hb dX6_makePair_2 (by decide) ?_
  obtain ⟨r2, μ1, gr2, h⟩ := bd_some h
  refine g_callVL (As := [.int a1, .int 0]) (rest := []) cx hw hA (t_X6_operand l G ad a1 (0 : Int32) μ gr2) shx_151 rfl ml_X6_105 im_X6_operand se_X6_operand in_X6 co_X6_operand rfl hd_X6_operand rfl ⟨(Nat.le_of_ble_eq_true rfl), (Nat.le_of_ble_eq_true rfl)⟩ hl.1 rfl (Nat.le_of_ble_eq_true rfl) dX6_makePair_3 ⟨rfl, rfl⟩ (fun H locs hw => ?_)
  refine lv_lstore_n (lv' := [(2, .long r2), (0, .ref (ad 151)), (1, .int a1)]) hx hb dX6_makePair_6 rfl hl (by decide) rfl (fun ls hl => ?_)
  refine lv_aload_n hx hb dX6_makePair_7 rfl (lv_at hl 1 rfl) ?_
  refine lv_iload_n hx hb dX6_makePair_8 rfl (lv_at hl 2 rfl) ?_
  refine lv_iconst (v := 1) hx hb dX6_makePair_9 (by decide) ?_
  obtain ⟨r4, μ3, gr4, h⟩ := bd_some h
  refine g_callVL (As := [.int a1, .int 1]) (rest := []) cx hw hA (t_X6_operand l G ad a1 (1 : Int32) μ1 gr4) shx_151 rfl ml_X6_105 im_X6_operand se_X6_operand in_X6 co_X6_operand rfl hd_X6_operand rfl ⟨(Nat.le_of_ble_eq_true rfl), (Nat.le_of_ble_eq_true rfl)⟩ hl.1 rfl (Nat.le_of_ble_eq_true rfl) dX6_makePair_10 ⟨rfl, rfl⟩ (fun H locs hw => ?_)
  refine lv_lstore (lv' := [(4, .long r4), (2, .long r2), (0, .ref (ad 151)), (1, .int a1)]) hx hb dX6_makePair_13 hl (by decide) rfl (fun ls hl => ?_)
  refine lv_aload_n hx hb dX6_makePair_15 rfl (lv_at hl 2 rfl) ?_
  refine g_get cx hw inX6 (ci := 5) rfl 0 (by decide) rfl (v := .ref (ad 30)) shx_151 rfl fl_X6_13 dX6_makePair_16 ?_
  refine lv_lload_n hx hb dX6_makePair_19 rfl (lv_at hl 1 rfl) ?_
  refine lv_lload hx hb dX6_makePair_20 (lv_at hl 0 rfl) ?_
  obtain ⟨r6, μ5, gr6, h⟩ := bd_some h
  refine g_callVI (As := [.long r2, .long r4]) (rest := []) cx hw hA (t_X8_isTooHeavy l G ad r2 r4 μ3 gr6) shx_30 rfl ml_X6_169 im_X8_isTooHeavy se_X8_isTooHeavy in_X8 co_X8_isTooHeavy rfl hd_X8_isTooHeavy rfl ⟨(Nat.le_of_ble_eq_true rfl), (Nat.le_of_ble_eq_true rfl)⟩ hl.1 rfl (Nat.le_of_ble_eq_true rfl) dX6_makePair_22 ⟨rfl, rfl⟩ (fun H locs hw => ?_)
  refine lv_if_eq (tgt := 39) hx hb dX6_makePair_25 (by decide) (fun c7 => ?_) (fun c7 => ?_)
  · rw [if_pos c7] at h
    refine lv_aload_n hx hb dX6_makePair_39 rfl (lv_at hl 2 rfl) ?_
    refine lv_iload_n hx hb dX6_makePair_40 rfl (lv_at hl 3 rfl) ?_
    refine lv_aload_n hx hb dX6_makePair_41 rfl (lv_at hl 2 rfl) ?_
    refine g_get cx hw inX6 (ci := 5) rfl 0 (by decide) rfl (v := .ref (ad 30)) shx_151 rfl fl_X6_13 dX6_makePair_42 ?_
    refine lv_lload_n hx hb dX6_makePair_45 rfl (lv_at hl 1 rfl) ?_
    refine lv_lload hx hb dX6_makePair_46 (lv_at hl 0 rfl) ?_
    obtain ⟨r9, μ8, gr9, h⟩ := bd_some h
    refine g_callVL (As := [.long r2, .long r4]) (rest := [.int a1, .ref (ad 151)]) cx hw hA (t_X8_pair l G ad r2 r4 μ5 gr9) shx_30 rfl ml_X6_173 im_X8_pair se_X8_pair in_X8 co_X8_pair rfl hd_X8_pair rfl ⟨(Nat.le_of_ble_eq_true rfl), (Nat.le_of_ble_eq_true rfl)⟩ hl.1 rfl (Nat.le_of_ble_eq_true rfl) dX6_makePair_48 ⟨rfl, rfl⟩ (fun H locs hw => ?_)
    obtain ⟨μ10, gμ10, h⟩ := bw_some h
    refine g_callVV (As := [.int a1, .long r9]) (rest := []) cx hw hA (t_X6_goOn l G ad a1 r9 μ8 gμ10) shx_151 rfl ml_X6_123 im_X6_goOn se_X6_goOn in_X6 co_X6_goOn rfl hd_X6_goOn rfl ⟨(Nat.le_of_ble_eq_true rfl), (Nat.le_of_ble_eq_true rfl)⟩ hl.1 rfl (Nat.le_of_ble_eq_true rfl) dX6_makePair_51 ⟨rfl, rfl⟩ (fun H locs hw => ?_)
    exact g_vret cx hr hlk hw h dX6_makePair_54
  · rw [if_neg c7] at h
    refine lv_aload_n hx hb dX6_makePair_28 rfl (lv_at hl 2 rfl) ?_
    refine g_get cx hw inX6 (ci := 5) rfl 8 (by decide) rfl (v := .ref (ad (sel 0 (μ5.2.2 151 8)))) shx_151 rfl fl_X6_37 dX6_makePair_29 ?_
    refine lv_iconst (v := 2) hx hb dX6_makePair_32 (by decide) ?_
    refine g_put cx hw inX1 (ci := 0) rfl tyX1_ok nmX1 0 (by decide) rfl rfl rfl rfl (sel_0 _) h fl_X6_166 dX6_makePair_33 (fun μ12 H locs h hw => ?_)
    refine lv_goto (tgt := 54) hx hb dX6_makePair_36 (by decide) ?_
    exact g_vret cx hr hlk hw h dX6_makePair_54

theorem p_X6_call_b53_ex : ∃ f : Nat → Int32 → Int32 → Int32 → Int32 → Int32 → Mem → Option Mem, (∀ (a1 : Int32) (a2 : Int32) (a4 : Int32) (a5 : Int32) (a6 : Int32) (μ : Mem), f  0 a1 a2 a4 a5 a6 μ = none) ∧ (∀ (n : Nat) (a1 : Int32) (a2 : Int32) (a4 : Int32) (a5 : Int32) (a6 : Int32) (μ : Mem), f  (n + 1) a1 a2 a4 a5 a6 μ = (if a5 ≤ a6 then bv (sF μ 151 6 a4) (fun μ12 => bd (p_X5_ofVariant a2 (3 : Int32) μ12) (fun r14 μ13 => bw (p_X6_enter r14 μ13) (fun μ15 => some μ15))) else bd (p_X6_operand a1 ((2 : Int32) + a6) μ) (fun r18 μ17 => bw (p_X6_setRegister a4 a6 r18 μ17) (fun μ19 => bv (a6 + 1) (fun v21 => f n a1 a2 a4 a5 v21 μ19))))) := ⟨fun n => Nat.rec (fun (a1 : Int32) (a2 : Int32) (a4 : Int32) (a5 : Int32) (a6 : Int32) (μ : Mem) => none) (fun _ ih => fun (a1 : Int32) (a2 : Int32) (a4 : Int32) (a5 : Int32) (a6 : Int32) (μ : Mem) => (if a5 ≤ a6 then bv (sF μ 151 6 a4) (fun μ12 => bd (p_X5_ofVariant a2 (3 : Int32) μ12) (fun r14 μ13 => bw (p_X6_enter r14 μ13) (fun μ15 => some μ15))) else bd (p_X6_operand a1 ((2 : Int32) + a6) μ) (fun r18 μ17 => bw (p_X6_setRegister a4 a6 r18 μ17) (fun μ19 => bv (a6 + 1) (fun v21 => ih a1 a2 a4 a5 v21 μ19))))) n, fun  _ _ _ _ _ _ => rfl, fun  _ _ _ _ _ _ _ => rfl⟩
noncomputable def p_X6_call_b53 : Nat → Int32 → Int32 → Int32 → Int32 → Int32 → Mem → Option Mem := Classical.choose p_X6_call_b53_ex
theorem p_X6_call_b53_z (a1 : Int32) (a2 : Int32) (a4 : Int32) (a5 : Int32) (a6 : Int32) (μ : Mem) : p_X6_call_b53  0 a1 a2 a4 a5 a6 μ = none := (Classical.choose_spec p_X6_call_b53_ex).1  a1 a2 a4 a5 a6 μ
theorem p_X6_call_b53_s (n : Nat) (a1 : Int32) (a2 : Int32) (a4 : Int32) (a5 : Int32) (a6 : Int32) (μ : Mem) : p_X6_call_b53  (n + 1) a1 a2 a4 a5 a6 μ = (if a5 ≤ a6 then bv (sF μ 151 6 a4) (fun μ12 => bd (p_X5_ofVariant a2 (3 : Int32) μ12) (fun r14 μ13 => bw (p_X6_enter r14 μ13) (fun μ15 => some μ15))) else bd (p_X6_operand a1 ((2 : Int32) + a6) μ) (fun r18 μ17 => bw (p_X6_setRegister a4 a6 r18 μ17) (fun μ19 => bv (a6 + 1) (fun v21 => p_X6_call_b53  n a1 a2 a4 a5 v21 μ19)))) := (Classical.choose_spec p_X6_call_b53_ex).2  n a1 a2 a4 a5 a6 μ
set_option maxHeartbeats 4000000 in
set_option maxRecDepth 100000 in
theorem t_X6_call_b53 (l : Launch) (G : Gt) (ad : Nat → Nat) (av : List Value) {μz : Mem} : ∀ (n : Nat) (a1 : Int32) (a2 : Int32) (a4 : Int32) (a5 : Int32) (a6 : Int32) (μ : Mem), p_X6_call_b53  n a1 a2 a4 a5 a6 μ = some μz → Bk l cX6_call 7 RX6 none ({ frames := 3, cells := 0, slots := 0, locals := 66 } : Room) G av (eV 0 G ad μz) (wd 0 G ad μ) 53 [(0, .ref (ad 151)), (1, .int a1), (2, .int a2), (4, .int a4), (5, .int a5), (6, .int a6)] [] := by
  intro n
  induction n with
  | zero => intro a1 a2 a4 a5 a6 μ h; rw [p_X6_call_b53_z] at h; cases h
  | succ n ih =>
    intro a1 a2 a4 a5 a6 μ h p e s m below meth c A ls H locs cx hr hlk hA hl hw
    have hx := cx.1
    have hb := cx.2.1
    rw [p_X6_call_b53_s] at h
    refine lv_iload hx hb dX6_call_53 (lv_at hl 5 rfl) ?_
    refine lv_iload hx hb dX6_call_55 (lv_at hl 4 rfl) ?_
    refine lv_icmp_ge (tgt := 83) hx hb dX6_call_57 (by decide) (fun c11 => ?_) (fun c11 => ?_)
    · rw [if_pos c11] at h
      refine lv_aload_n hx hb dX6_call_83 rfl (lv_at hl 0 rfl) ?_
      refine lv_iload hx hb dX6_call_84 (lv_at hl 3 rfl) ?_
      refine g_put cx hw inX6 (ci := 5) rfl tyX6_ok nmX6 6 (by decide) rfl rfl rfl rfl shx_151 h fl_X6_45 dX6_call_86 (fun μ12 H locs h hw => ?_)
      refine lv_aload_n hx hb dX6_call_89 rfl (lv_at hl 0 rfl) ?_
      refine lv_aload_n hx hb dX6_call_90 rfl (lv_at hl 0 rfl) ?_
      refine g_get cx hw inX6 (ci := 5) rfl 7 (by decide) rfl (v := .ref (ad 39)) shx_151 rfl fl_X6_33 dX6_call_91 ?_
      refine lv_iload_n hx hb dX6_call_94 rfl (lv_at hl 2 rfl) ?_
      refine lv_iconst (v := 3) hx hb dX6_call_95 (by decide) ?_
      obtain ⟨r14, μ13, gr14, h⟩ := bd_some h
      refine g_callVI (As := [.int a2, .int 3]) (rest := [.ref (ad 151)]) cx hw hA (t_X5_ofVariant l G ad a2 (3 : Int32) μ12 gr14) shx_39 rfl ml_X6_66 im_X5_ofVariant se_X5_ofVariant in_X5 co_X5_ofVariant rfl hd_X5_ofVariant rfl ⟨(Nat.le_of_ble_eq_true rfl), (Nat.le_of_ble_eq_true rfl)⟩ hl.1 rfl (Nat.le_of_ble_eq_true rfl) dX6_call_96 ⟨rfl, rfl⟩ (fun H locs hw => ?_)
      obtain ⟨μ15, gμ15, h⟩ := bw_some h
      refine g_callVV (As := [.int r14]) (rest := []) cx hw hA (t_X6_enter l G ad r14 μ13 gμ15) shx_151 rfl ml_X6_70 im_X6_enter se_X6_enter in_X6 co_X6_enter rfl hd_X6_enter rfl ⟨(Nat.le_of_ble_eq_true rfl), (Nat.le_of_ble_eq_true rfl)⟩ hl.1 rfl (Nat.le_of_ble_eq_true rfl) dX6_call_99 ⟨rfl, rfl⟩ (fun H locs hw => ?_)
      exact g_vret cx hr hlk hw h dX6_call_102
    · rw [if_neg c11] at h
      refine lv_aload_n hx hb dX6_call_60 rfl (lv_at hl 0 rfl) ?_
      refine lv_iload hx hb dX6_call_61 (lv_at hl 3 rfl) ?_
      refine lv_iload hx hb dX6_call_63 (lv_at hl 5 rfl) ?_
      refine lv_aload_n hx hb dX6_call_65 rfl (lv_at hl 0 rfl) ?_
      refine lv_iload_n hx hb dX6_call_66 rfl (lv_at hl 1 rfl) ?_
      refine lv_iconst (v := 2) hx hb dX6_call_67 (by decide) ?_
      refine lv_iload hx hb dX6_call_68 (lv_at hl 5 rfl) ?_
      refine lv_iadd hx hb dX6_call_70 ?_
      obtain ⟨r18, μ17, gr18, h⟩ := bd_some h
      refine g_callVL (As := [.int a1, .int ((2 : Int32) + a6)]) (rest := [.int a6, .int a4, .ref (ad 151)]) cx hw hA (t_X6_operand l G ad a1 ((2 : Int32) + a6) μ gr18) shx_151 rfl ml_X6_105 im_X6_operand se_X6_operand in_X6 co_X6_operand rfl hd_X6_operand rfl ⟨(Nat.le_of_ble_eq_true rfl), (Nat.le_of_ble_eq_true rfl)⟩ hl.1 rfl (Nat.le_of_ble_eq_true rfl) dX6_call_71 ⟨rfl, rfl⟩ (fun H locs hw => ?_)
      obtain ⟨μ19, gμ19, h⟩ := bw_some h
      refine g_callVV (As := [.int a4, .int a6, .long r18]) (rest := []) cx hw hA (t_X6_setRegister l G ad a4 a6 r18 μ17 gμ19) shx_151 rfl ml_X6_62 im_X6_setRegister se_X6_setRegister in_X6 co_X6_setRegister rfl hd_X6_setRegister rfl ⟨(Nat.le_of_ble_eq_true rfl), (Nat.le_of_ble_eq_true rfl)⟩ hl.1 rfl (Nat.le_of_ble_eq_true rfl) dX6_call_74 ⟨rfl, rfl⟩ (fun H locs hw => ?_)
      obtain ⟨v21, ev21, h⟩ := bv_ex h
      refine lv_iinc (v := v21) (lv' := [(6, .int v21), (0, .ref (ad 151)), (1, .int a1), (2, .int a2), (4, .int a4), (5, .int a5)]) hx hb dX6_call_77 hl (k := 5) rfl (by rw [ev21]; rfl) (by decide) rfl (fun ls hl => ?_)
      refine lv_goto (tgt := 53) hx hb dX6_call_80 (by decide) ?_
      exact ih a1 a2 a4 a5 v21 μ19 h p e s m below meth c A ls H locs cx hr hlk hA (lv_sub hl [1, 2, 3, 4, 5, 0] rfl) hw
theorem p_X6_call_ex : ∃ f : Int32 → Int32 → Mem → Option Mem, ∀ (a1 : Int32) (a2 : Int32) (μ : Mem), f a1 a2 μ = bd (p_X5_cell a1 (6 : Int32) μ) (fun r2 μ1 => bd (p_X1_beginCall (sel 0 (μ1.2.2 151 8)) μ1) (fun r4 μ3 => (if r4 = (0 : Int32) then some μ3 else bd (p_X5_ofVariant r2 (2 : Int32) μ3) (fun r7 μ6 => bv ((μ3.1 151 6) + r7) (fun v8 => bd (p_X5_cell a1 (7 : Int32) μ6) (fun r10 μ9 => p_X6_call_b53  FUEL a1 a2 v8 r10 (0 : Int32) μ9)))))) := ⟨fun (a1 : Int32) (a2 : Int32) (μ : Mem) => bd (p_X5_cell a1 (6 : Int32) μ) (fun r2 μ1 => bd (p_X1_beginCall (sel 0 (μ1.2.2 151 8)) μ1) (fun r4 μ3 => (if r4 = (0 : Int32) then some μ3 else bd (p_X5_ofVariant r2 (2 : Int32) μ3) (fun r7 μ6 => bv ((μ3.1 151 6) + r7) (fun v8 => bd (p_X5_cell a1 (7 : Int32) μ6) (fun r10 μ9 => p_X6_call_b53  FUEL a1 a2 v8 r10 (0 : Int32) μ9)))))), fun _ _ _ => rfl⟩
noncomputable def p_X6_call : Int32 → Int32 → Mem → Option Mem := Classical.choose p_X6_call_ex
theorem p_X6_call_eq (a1 : Int32) (a2 : Int32) (μ : Mem) : p_X6_call a1 a2 μ = bd (p_X5_cell a1 (6 : Int32) μ) (fun r2 μ1 => bd (p_X1_beginCall (sel 0 (μ1.2.2 151 8)) μ1) (fun r4 μ3 => (if r4 = (0 : Int32) then some μ3 else bd (p_X5_ofVariant r2 (2 : Int32) μ3) (fun r7 μ6 => bv ((μ3.1 151 6) + r7) (fun v8 => bd (p_X5_cell a1 (7 : Int32) μ6) (fun r10 μ9 => p_X6_call_b53  FUEL a1 a2 v8 r10 (0 : Int32) μ9)))))) := Classical.choose_spec p_X6_call_ex a1 a2 μ
set_option maxHeartbeats 4000000 in
set_option maxRecDepth 100000 in
theorem t_X6_call (l : Launch) (G : Gt) (ad : Nat → Nat) (a1 : Int32) (a2 : Int32) (μ : Mem) {μz : Mem} (h : p_X6_call a1 a2 μ = some μz) : Mt l yX6_call cX6_call 7 none ({ frames := 3, cells := 0, slots := 0, locals := 66 } : Room) G [.ref (ad 151), .int a1, .int a2] (wd 0 G ad μ) (eV 0 G ad μz) := by
  refine Bk.mt (by decide) rfl (Nat.le_of_ble_eq_true rfl) ?_
  intro p e s m below meth c A ls H locs cx hr hlk hA hl hw
  have hx := cx.1
  have hb := cx.2.1
  have hl : lv_has ls 7 [(0, .ref (ad 151)), (1, .int a1), (2, .int a2)] := hl
  rw [p_X6_call_eq] at h
  refine lv_aload_n hx hb dX6_call_0 rfl (lv_at hl 0 rfl) ?_
  refine g_get cx hw inX6 (ci := 5) rfl 7 (by decide) rfl (v := .ref (ad 39)) shx_151 rfl fl_X6_33 dX6_call_1 ?_
  refine lv_iload_n hx hb dX6_call_4 rfl (lv_at hl 1 rfl) ?_
  refine lv_bipush (v := 6) hx hb dX6_call_5 (by decide) ?_
  obtain ⟨r2, μ1, gr2, h⟩ := bd_some h
  refine g_callVI (As := [.int a1, .int 6]) (rest := []) cx hw hA (t_X5_cell l G ad a1 (6 : Int32) μ gr2) shx_39 rfl ml_X6_117 im_X5_cell se_X5_cell in_X5 co_X5_cell rfl hd_X5_cell rfl ⟨(Nat.le_of_ble_eq_true rfl), (Nat.le_of_ble_eq_true rfl)⟩ hl.1 rfl (Nat.le_of_ble_eq_true rfl) dX6_call_7 ⟨rfl, rfl⟩ (fun H locs hw => ?_)
  refine lv_istore_n (lv' := [(3, .int r2), (0, .ref (ad 151)), (1, .int a1), (2, .int a2)]) hx hb dX6_call_10 rfl hl (by decide) rfl (fun ls hl => ?_)
  refine lv_aload_n hx hb dX6_call_11 rfl (lv_at hl 1 rfl) ?_
  refine g_get cx hw inX6 (ci := 5) rfl 8 (by decide) rfl (v := .ref (ad (sel 0 (μ1.2.2 151 8)))) shx_151 rfl fl_X6_37 dX6_call_12 ?_
  obtain ⟨r4, μ3, gr4, h⟩ := bd_some h
  refine g_callVI (As := []) (rest := []) cx hw hA (t_X1_beginCall l G ad (sel 0 (μ1.2.2 151 8)) (sel_0 _) μ1 gr4) (sel_0 _) rfl ml_X6_58 im_X1_beginCall se_X1_beginCall in_X1 co_X1_beginCall rfl hd_X1_beginCall rfl ⟨(Nat.le_of_ble_eq_true rfl), (Nat.le_of_ble_eq_true rfl)⟩ hl.1 rfl (Nat.le_of_ble_eq_true rfl) dX6_call_15 ⟨rfl, rfl⟩ (fun H locs hw => ?_)
  refine lv_if_ne (tgt := 22) hx hb dX6_call_18 (by decide) (fun c5 => ?_) (fun c5 => ?_)
  · rw [if_neg c5] at h
    refine lv_aload_n hx hb dX6_call_22 rfl (lv_at hl 1 rfl) ?_
    refine g_get cx hw inX6 (ci := 5) rfl 6 (by decide) rfl (v := .int (μ3.1 151 6)) shx_151 rfl fl_X6_45 dX6_call_23 ?_
    refine lv_aload_n hx hb dX6_call_26 rfl (lv_at hl 1 rfl) ?_
    refine g_get cx hw inX6 (ci := 5) rfl 7 (by decide) rfl (v := .ref (ad 39)) shx_151 rfl fl_X6_33 dX6_call_27 ?_
    refine lv_iload_n hx hb dX6_call_30 rfl (lv_at hl 0 rfl) ?_
    refine lv_iconst (v := 2) hx hb dX6_call_31 (by decide) ?_
    obtain ⟨r7, μ6, gr7, h⟩ := bd_some h
    refine g_callVI (As := [.int r2, .int 2]) (rest := [.int (μ3.1 151 6)]) cx hw hA (t_X5_ofVariant l G ad r2 (2 : Int32) μ3 gr7) shx_39 rfl ml_X6_66 im_X5_ofVariant se_X5_ofVariant in_X5 co_X5_ofVariant rfl hd_X5_ofVariant rfl ⟨(Nat.le_of_ble_eq_true rfl), (Nat.le_of_ble_eq_true rfl)⟩ hl.1 rfl (Nat.le_of_ble_eq_true rfl) dX6_call_32 ⟨rfl, rfl⟩ (fun H locs hw => ?_)
    refine lv_iadd hx hb dX6_call_35 ?_
    obtain ⟨v8, ev8, h⟩ := bv_ex h
    refine lv_topi (fun y9 z9 => ?_)
    obtain rfl : v8 = y9 := ev8.trans z9.symm
    refine lv_istore (lv' := [(4, .int v8), (3, .int r2), (0, .ref (ad 151)), (1, .int a1), (2, .int a2)]) hx hb dX6_call_36 hl (by decide) rfl (fun ls hl => ?_)
    refine lv_aload_n hx hb dX6_call_38 rfl (lv_at hl 2 rfl) ?_
    refine g_get cx hw inX6 (ci := 5) rfl 7 (by decide) rfl (v := .ref (ad 39)) shx_151 rfl fl_X6_33 dX6_call_39 ?_
    refine lv_iload_n hx hb dX6_call_42 rfl (lv_at hl 3 rfl) ?_
    refine lv_bipush (v := 7) hx hb dX6_call_43 (by decide) ?_
    obtain ⟨r10, μ9, gr10, h⟩ := bd_some h
    refine g_callVI (As := [.int a1, .int 7]) (rest := []) cx hw hA (t_X5_cell l G ad a1 (7 : Int32) μ6 gr10) shx_39 rfl ml_X6_117 im_X5_cell se_X5_cell in_X5 co_X5_cell rfl hd_X5_cell rfl ⟨(Nat.le_of_ble_eq_true rfl), (Nat.le_of_ble_eq_true rfl)⟩ hl.1 rfl (Nat.le_of_ble_eq_true rfl) dX6_call_45 ⟨rfl, rfl⟩ (fun H locs hw => ?_)
    refine lv_istore (lv' := [(5, .int r10), (4, .int v8), (3, .int r2), (0, .ref (ad 151)), (1, .int a1), (2, .int a2)]) hx hb dX6_call_48 hl (by decide) rfl (fun ls hl => ?_)
    refine lv_iconst (v := 0) hx hb dX6_call_50 (by decide) ?_
    refine lv_istore (lv' := [(6, .int 0), (5, .int r10), (4, .int v8), (3, .int r2), (0, .ref (ad 151)), (1, .int a1), (2, .int a2)]) hx hb dX6_call_51 hl (by decide) rfl (fun ls hl => ?_)
    exact t_X6_call_b53 l G ad _  FUEL a1 a2 v8 r10 (0 : Int32) μ9 h p e s m below meth c A ls H locs cx hr hlk hA (lv_sub hl [4, 5, 6, 2, 1, 0] rfl) hw
  · rw [if_pos c5] at h
    exact g_vret cx hr hlk hw h dX6_call_21

theorem p_X6_step_ex : ∃ f : Int32 → Mem → Option Mem, ∀ (a1 : Int32) (μ : Mem), f a1 μ = bd (p_X5_cell a1 (2 : Int32) μ) (fun r2 μ1 => bd (p_X5_cell a1 (0 : Int32) μ1) (fun r4 μ3 => (if r4 = (0 : Int32) then bd (p_X6_num a1 (0 : Int32) μ3) (fun r8 μ7 => bd (p_X6_num a1 (1 : Int32) μ7) (fun r10 μ9 => bw (p_X6_goOn a1 (s_X0_apply r2 r8 r10) μ9) (fun μ11 => some μ11))) else (if r4 = (1 : Int32) then bd (p_X6_num a1 (0 : Int32) μ3) (fun r15 μ14 => bw (p_X6_goOn a1 (s_X0_turn (36 : Int32) r15) μ14) (fun μ16 => some μ16)) else (if r4 = (2 : Int32) then bd (p_X6_num a1 (0 : Int32) μ3) (fun r20 μ19 => bw (p_X6_goOn a1 (s_X0_turn (94 : Int32) r20) μ19) (fun μ21 => some μ21)) else (if r4 = (3 : Int32) then bd (p_X6_num a1 (0 : Int32) μ3) (fun r25 μ24 => bw (p_X6_goOn a1 (s_X0_turn (35 : Int32) r25) μ24) (fun μ26 => some μ26)) else (if r4 = (4 : Int32) then bd (p_X6_operand a1 (0 : Int32) μ3) (fun r30 μ29 => bd (p_X8_firstOf r30 μ29) (fun r32 μ31 => bw (p_X6_goOn a1 r32 μ31) (fun μ33 => some μ33))) else (if r4 = (5 : Int32) then bd (p_X6_operand a1 (0 : Int32) μ3) (fun r37 μ36 => bd (p_X8_secondOf r37 μ36) (fun r39 μ38 => bw (p_X6_goOn a1 r39 μ38) (fun μ40 => some μ40))) else (if r4 = (6 : Int32) then bd (p_X6_num a1 (0 : Int32) μ3) (fun r44 μ43 => (if (s_X0_isTrue r44) = (0 : Int32) then bd (p_X5_cell a1 (4 : Int32) μ43) (fun r47 μ46 => bw (p_X6_enter r47 μ46) (fun μ48 => some μ48)) else bd (p_X5_cell a1 (3 : Int32) μ43) (fun r51 μ50 => bw (p_X6_enter r51 μ50) (fun μ52 => some μ52)))) else (if r4 = (7 : Int32) then bd (p_X6_num a1 (0 : Int32) μ3) (fun r56 μ55 => bw (p_X1_writeOut (sel 0 (μ3.2.2 151 8)) r56 μ55) (fun μ57 => bw (p_X6_goOn a1 (0 : Int64) μ57) (fun μ59 => some μ59))) else (if r4 = (8 : Int32) then bd (p_X6_num a1 (0 : Int32) μ3) (fun r63 μ62 => bd (p_X1_put (sel 0 (μ3.2.2 151 8)) r2 (s_X0_stored r2 r63) μ62) (fun r65 μ64 => bw (p_X6_goOn a1 r65 μ64) (fun μ66 => some μ66))) else (if r4 = (9 : Int32) then bd (p_X1_get (sel 0 (μ3.2.2 151 8)) r2 μ3) (fun r70 μ69 => bw (p_X6_goOn a1 r70 μ69) (fun μ71 => some μ71)) else (if r4 = (10 : Int32) then bw (p_X6_makePair a1 μ3) (fun μ74 => some μ74) else (if r4 = (11 : Int32) then bw (p_X6_call a1 r2 μ3) (fun μ77 => some μ77) else bv (sF μ3 (sel 0 (μ3.2.2 151 8)) 0 (4 : Int32)) (fun μ79 => some μ79))))))))))))))) := ⟨fun (a1 : Int32) (μ : Mem) => bd (p_X5_cell a1 (2 : Int32) μ) (fun r2 μ1 => bd (p_X5_cell a1 (0 : Int32) μ1) (fun r4 μ3 => (if r4 = (0 : Int32) then bd (p_X6_num a1 (0 : Int32) μ3) (fun r8 μ7 => bd (p_X6_num a1 (1 : Int32) μ7) (fun r10 μ9 => bw (p_X6_goOn a1 (s_X0_apply r2 r8 r10) μ9) (fun μ11 => some μ11))) else (if r4 = (1 : Int32) then bd (p_X6_num a1 (0 : Int32) μ3) (fun r15 μ14 => bw (p_X6_goOn a1 (s_X0_turn (36 : Int32) r15) μ14) (fun μ16 => some μ16)) else (if r4 = (2 : Int32) then bd (p_X6_num a1 (0 : Int32) μ3) (fun r20 μ19 => bw (p_X6_goOn a1 (s_X0_turn (94 : Int32) r20) μ19) (fun μ21 => some μ21)) else (if r4 = (3 : Int32) then bd (p_X6_num a1 (0 : Int32) μ3) (fun r25 μ24 => bw (p_X6_goOn a1 (s_X0_turn (35 : Int32) r25) μ24) (fun μ26 => some μ26)) else (if r4 = (4 : Int32) then bd (p_X6_operand a1 (0 : Int32) μ3) (fun r30 μ29 => bd (p_X8_firstOf r30 μ29) (fun r32 μ31 => bw (p_X6_goOn a1 r32 μ31) (fun μ33 => some μ33))) else (if r4 = (5 : Int32) then bd (p_X6_operand a1 (0 : Int32) μ3) (fun r37 μ36 => bd (p_X8_secondOf r37 μ36) (fun r39 μ38 => bw (p_X6_goOn a1 r39 μ38) (fun μ40 => some μ40))) else (if r4 = (6 : Int32) then bd (p_X6_num a1 (0 : Int32) μ3) (fun r44 μ43 => (if (s_X0_isTrue r44) = (0 : Int32) then bd (p_X5_cell a1 (4 : Int32) μ43) (fun r47 μ46 => bw (p_X6_enter r47 μ46) (fun μ48 => some μ48)) else bd (p_X5_cell a1 (3 : Int32) μ43) (fun r51 μ50 => bw (p_X6_enter r51 μ50) (fun μ52 => some μ52)))) else (if r4 = (7 : Int32) then bd (p_X6_num a1 (0 : Int32) μ3) (fun r56 μ55 => bw (p_X1_writeOut (sel 0 (μ3.2.2 151 8)) r56 μ55) (fun μ57 => bw (p_X6_goOn a1 (0 : Int64) μ57) (fun μ59 => some μ59))) else (if r4 = (8 : Int32) then bd (p_X6_num a1 (0 : Int32) μ3) (fun r63 μ62 => bd (p_X1_put (sel 0 (μ3.2.2 151 8)) r2 (s_X0_stored r2 r63) μ62) (fun r65 μ64 => bw (p_X6_goOn a1 r65 μ64) (fun μ66 => some μ66))) else (if r4 = (9 : Int32) then bd (p_X1_get (sel 0 (μ3.2.2 151 8)) r2 μ3) (fun r70 μ69 => bw (p_X6_goOn a1 r70 μ69) (fun μ71 => some μ71)) else (if r4 = (10 : Int32) then bw (p_X6_makePair a1 μ3) (fun μ74 => some μ74) else (if r4 = (11 : Int32) then bw (p_X6_call a1 r2 μ3) (fun μ77 => some μ77) else bv (sF μ3 (sel 0 (μ3.2.2 151 8)) 0 (4 : Int32)) (fun μ79 => some μ79))))))))))))))), fun _ _ => rfl⟩
noncomputable def p_X6_step : Int32 → Mem → Option Mem := Classical.choose p_X6_step_ex
theorem p_X6_step_eq (a1 : Int32) (μ : Mem) : p_X6_step a1 μ = bd (p_X5_cell a1 (2 : Int32) μ) (fun r2 μ1 => bd (p_X5_cell a1 (0 : Int32) μ1) (fun r4 μ3 => (if r4 = (0 : Int32) then bd (p_X6_num a1 (0 : Int32) μ3) (fun r8 μ7 => bd (p_X6_num a1 (1 : Int32) μ7) (fun r10 μ9 => bw (p_X6_goOn a1 (s_X0_apply r2 r8 r10) μ9) (fun μ11 => some μ11))) else (if r4 = (1 : Int32) then bd (p_X6_num a1 (0 : Int32) μ3) (fun r15 μ14 => bw (p_X6_goOn a1 (s_X0_turn (36 : Int32) r15) μ14) (fun μ16 => some μ16)) else (if r4 = (2 : Int32) then bd (p_X6_num a1 (0 : Int32) μ3) (fun r20 μ19 => bw (p_X6_goOn a1 (s_X0_turn (94 : Int32) r20) μ19) (fun μ21 => some μ21)) else (if r4 = (3 : Int32) then bd (p_X6_num a1 (0 : Int32) μ3) (fun r25 μ24 => bw (p_X6_goOn a1 (s_X0_turn (35 : Int32) r25) μ24) (fun μ26 => some μ26)) else (if r4 = (4 : Int32) then bd (p_X6_operand a1 (0 : Int32) μ3) (fun r30 μ29 => bd (p_X8_firstOf r30 μ29) (fun r32 μ31 => bw (p_X6_goOn a1 r32 μ31) (fun μ33 => some μ33))) else (if r4 = (5 : Int32) then bd (p_X6_operand a1 (0 : Int32) μ3) (fun r37 μ36 => bd (p_X8_secondOf r37 μ36) (fun r39 μ38 => bw (p_X6_goOn a1 r39 μ38) (fun μ40 => some μ40))) else (if r4 = (6 : Int32) then bd (p_X6_num a1 (0 : Int32) μ3) (fun r44 μ43 => (if (s_X0_isTrue r44) = (0 : Int32) then bd (p_X5_cell a1 (4 : Int32) μ43) (fun r47 μ46 => bw (p_X6_enter r47 μ46) (fun μ48 => some μ48)) else bd (p_X5_cell a1 (3 : Int32) μ43) (fun r51 μ50 => bw (p_X6_enter r51 μ50) (fun μ52 => some μ52)))) else (if r4 = (7 : Int32) then bd (p_X6_num a1 (0 : Int32) μ3) (fun r56 μ55 => bw (p_X1_writeOut (sel 0 (μ3.2.2 151 8)) r56 μ55) (fun μ57 => bw (p_X6_goOn a1 (0 : Int64) μ57) (fun μ59 => some μ59))) else (if r4 = (8 : Int32) then bd (p_X6_num a1 (0 : Int32) μ3) (fun r63 μ62 => bd (p_X1_put (sel 0 (μ3.2.2 151 8)) r2 (s_X0_stored r2 r63) μ62) (fun r65 μ64 => bw (p_X6_goOn a1 r65 μ64) (fun μ66 => some μ66))) else (if r4 = (9 : Int32) then bd (p_X1_get (sel 0 (μ3.2.2 151 8)) r2 μ3) (fun r70 μ69 => bw (p_X6_goOn a1 r70 μ69) (fun μ71 => some μ71)) else (if r4 = (10 : Int32) then bw (p_X6_makePair a1 μ3) (fun μ74 => some μ74) else (if r4 = (11 : Int32) then bw (p_X6_call a1 r2 μ3) (fun μ77 => some μ77) else bv (sF μ3 (sel 0 (μ3.2.2 151 8)) 0 (4 : Int32)) (fun μ79 => some μ79))))))))))))))) := Classical.choose_spec p_X6_step_ex a1 μ
set_option maxHeartbeats 4000000 in
set_option maxRecDepth 100000 in
theorem t_X6_step (l : Launch) (G : Gt) (ad : Nat → Nat) (a1 : Int32) (μ : Mem) {μz : Mem} (h : p_X6_step a1 μ = some μz) : Mt l yX6_step cX6_step 3 none ({ frames := 5, cells := 0, slots := 0, locals := 135 } : Room) G [.ref (ad 151), .int a1] (wd 0 G ad μ) (eV 0 G ad μz) := by
  refine Bk.mt (by decide) rfl (Nat.le_of_ble_eq_true rfl) ?_
  intro p e s m below meth c A ls H locs cx hr hlk hA hl hw
  have hx := cx.1
  have hb := cx.2.1
  have hl : lv_has ls 3 [(0, .ref (ad 151)), (1, .int a1)] := hl
  rw [p_X6_step_eq] at h
  refine lv_aload_n hx hb dX6_step_0 rfl (lv_at hl 0 rfl) ?_
  refine g_get cx hw inX6 (ci := 5) rfl 7 (by decide) rfl (v := .ref (ad 39)) shx_151 rfl fl_X6_33 dX6_step_1 ?_
  refine lv_iload_n hx hb dX6_step_4 rfl (lv_at hl 1 rfl) ?_
  refine lv_iconst (v := 2) hx hb dX6_step_5 (by decide) ?_
  obtain ⟨r2, μ1, gr2, h⟩ := bd_some h
  refine g_callVI (As := [.int a1, .int 2]) (rest := []) cx hw hA (t_X5_cell l G ad a1 (2 : Int32) μ gr2) shx_39 rfl ml_X6_117 im_X5_cell se_X5_cell in_X5 co_X5_cell rfl hd_X5_cell rfl ⟨(Nat.le_of_ble_eq_true rfl), (Nat.le_of_ble_eq_true rfl)⟩ hl.1 rfl (Nat.le_of_ble_eq_true rfl) dX6_step_6 ⟨rfl, rfl⟩ (fun H locs hw => ?_)
  refine lv_istore_n (lv' := [(2, .int r2), (0, .ref (ad 151)), (1, .int a1)]) hx hb dX6_step_9 rfl hl (by decide) rfl (fun ls hl => ?_)
  refine lv_aload_n hx hb dX6_step_10 rfl (lv_at hl 1 rfl) ?_
  refine g_get cx hw inX6 (ci := 5) rfl 7 (by decide) rfl (v := .ref (ad 39)) shx_151 rfl fl_X6_33 dX6_step_11 ?_
  refine lv_iload_n hx hb dX6_step_14 rfl (lv_at hl 2 rfl) ?_
  refine lv_iconst (v := 0) hx hb dX6_step_15 (by decide) ?_
  obtain ⟨r4, μ3, gr4, h⟩ := bd_some h
  refine g_callVI (As := [.int a1, .int 0]) (rest := []) cx hw hA (t_X5_cell l G ad a1 (0 : Int32) μ1 gr4) shx_39 rfl ml_X6_117 im_X5_cell se_X5_cell in_X5 co_X5_cell rfl hd_X5_cell rfl ⟨(Nat.le_of_ble_eq_true rfl), (Nat.le_of_ble_eq_true rfl)⟩ hl.1 rfl (Nat.le_of_ble_eq_true rfl) dX6_step_16 ⟨rfl, rfl⟩ (fun H locs hw => ?_)
  refine lv_topi (fun v5 ev5 => ?_)
  by_cases c6 : r4 = (0 : Int32)
  · rw [if_pos c6] at h
    have z9 := ev5.trans c6
    subst z9
    refine lv_tableIn (tgt := 80) hx hb dX6_step_19 (by decide +kernel) (by decide +kernel) rfl (by decide) ?_
    refine lv_aload_n hx hb dX6_step_80 rfl (lv_at hl 1 rfl) ?_
    refine lv_iload_n hx hb dX6_step_81 rfl (lv_at hl 2 rfl) ?_
    refine lv_iload_n hx hb dX6_step_82 rfl (lv_at hl 0 rfl) ?_
    refine lv_aload_n hx hb dX6_step_83 rfl (lv_at hl 1 rfl) ?_
    refine lv_iload_n hx hb dX6_step_84 rfl (lv_at hl 2 rfl) ?_
    refine lv_iconst (v := 0) hx hb dX6_step_85 (by decide) ?_
    obtain ⟨r8, μ7, gr8, h⟩ := bd_some h
    refine g_callVL (As := [.int a1, .int 0]) (rest := [.int r2, .int a1, .ref (ad 151)]) cx hw hA (t_X6_num l G ad a1 (0 : Int32) μ3 gr8) shx_151 rfl ml_X6_127 im_X6_num se_X6_num in_X6 co_X6_num rfl hd_X6_num rfl ⟨(Nat.le_of_ble_eq_true rfl), (Nat.le_of_ble_eq_true rfl)⟩ hl.1 rfl (Nat.le_of_ble_eq_true rfl) dX6_step_86 ⟨rfl, rfl⟩ (fun H locs hw => ?_)
    refine lv_aload_n hx hb dX6_step_89 rfl (lv_at hl 1 rfl) ?_
    refine lv_iload_n hx hb dX6_step_90 rfl (lv_at hl 2 rfl) ?_
    refine lv_iconst (v := 1) hx hb dX6_step_91 (by decide) ?_
    obtain ⟨r10, μ9, gr10, h⟩ := bd_some h
    refine g_callVL (As := [.int a1, .int 1]) (rest := [.long r8, .int r2, .int a1, .ref (ad 151)]) cx hw hA (t_X6_num l G ad a1 (1 : Int32) μ7 gr10) shx_151 rfl ml_X6_127 im_X6_num se_X6_num in_X6 co_X6_num rfl hd_X6_num rfl ⟨(Nat.le_of_ble_eq_true rfl), (Nat.le_of_ble_eq_true rfl)⟩ hl.1 rfl (Nat.le_of_ble_eq_true rfl) dX6_step_92 ⟨rfl, rfl⟩ (fun H locs hw => ?_)
    refine s_callL (As := [.int r2, .long r8, .long r10]) (rest := [.int a1, .ref (ad 151)]) cx hw hA (t_X0_apply l G r2 r8 r10) ml_X6_129 st_X0_apply in_X0 co_X0_apply hd_X0_apply rfl ⟨(Nat.le_of_ble_eq_true rfl), (Nat.le_of_ble_eq_true rfl)⟩ hl.1 rfl (Nat.le_of_ble_eq_true rfl) dX6_step_95 rfl (fun H locs hw => ?_)
    obtain ⟨μ11, gμ11, h⟩ := bw_some h
    refine g_callVV (As := [.int a1, .long (s_X0_apply r2 r8 r10)]) (rest := []) cx hw hA (t_X6_goOn l G ad a1 (s_X0_apply r2 r8 r10) μ9 gμ11) shx_151 rfl ml_X6_123 im_X6_goOn se_X6_goOn in_X6 co_X6_goOn rfl hd_X6_goOn rfl ⟨(Nat.le_of_ble_eq_true rfl), (Nat.le_of_ble_eq_true rfl)⟩ hl.1 rfl (Nat.le_of_ble_eq_true rfl) dX6_step_98 ⟨rfl, rfl⟩ (fun H locs hw => ?_)
    refine lv_goto (tgt := 324) hx hb dX6_step_101 (by decide) ?_
    exact g_vret cx hr hlk hw h dX6_step_324
  rw [if_neg c6] at h
  by_cases c13 : r4 = (1 : Int32)
  · rw [if_pos c13] at h
    have z9 := ev5.trans c13
    subst z9
    refine lv_tableIn (tgt := 104) hx hb dX6_step_19 (by decide +kernel) (by decide +kernel) rfl (by decide) ?_
    refine lv_aload_n hx hb dX6_step_104 rfl (lv_at hl 1 rfl) ?_
    refine lv_iload_n hx hb dX6_step_105 rfl (lv_at hl 2 rfl) ?_
    refine lv_bipush (v := 36) hx hb dX6_step_106 (by decide) ?_
    refine lv_aload_n hx hb dX6_step_108 rfl (lv_at hl 1 rfl) ?_
    refine lv_iload_n hx hb dX6_step_109 rfl (lv_at hl 2 rfl) ?_
    refine lv_iconst (v := 0) hx hb dX6_step_110 (by decide) ?_
    obtain ⟨r15, μ14, gr15, h⟩ := bd_some h
    refine g_callVL (As := [.int a1, .int 0]) (rest := [.int 36, .int a1, .ref (ad 151)]) cx hw hA (t_X6_num l G ad a1 (0 : Int32) μ3 gr15) shx_151 rfl ml_X6_127 im_X6_num se_X6_num in_X6 co_X6_num rfl hd_X6_num rfl ⟨(Nat.le_of_ble_eq_true rfl), (Nat.le_of_ble_eq_true rfl)⟩ hl.1 rfl (Nat.le_of_ble_eq_true rfl) dX6_step_111 ⟨rfl, rfl⟩ (fun H locs hw => ?_)
    refine s_callL (As := [.int 36, .long r15]) (rest := [.int a1, .ref (ad 151)]) cx hw hA (t_X0_turn l G (36 : Int32) r15) ml_X6_133 st_X0_turn in_X0 co_X0_turn hd_X0_turn rfl ⟨(Nat.le_of_ble_eq_true rfl), (Nat.le_of_ble_eq_true rfl)⟩ hl.1 rfl (Nat.le_of_ble_eq_true rfl) dX6_step_114 rfl (fun H locs hw => ?_)
    obtain ⟨μ16, gμ16, h⟩ := bw_some h
    refine g_callVV (As := [.int a1, .long (s_X0_turn (36 : Int32) r15)]) (rest := []) cx hw hA (t_X6_goOn l G ad a1 (s_X0_turn (36 : Int32) r15) μ14 gμ16) shx_151 rfl ml_X6_123 im_X6_goOn se_X6_goOn in_X6 co_X6_goOn rfl hd_X6_goOn rfl ⟨(Nat.le_of_ble_eq_true rfl), (Nat.le_of_ble_eq_true rfl)⟩ hl.1 rfl (Nat.le_of_ble_eq_true rfl) dX6_step_117 ⟨rfl, rfl⟩ (fun H locs hw => ?_)
    refine lv_goto (tgt := 324) hx hb dX6_step_120 (by decide) ?_
    exact g_vret cx hr hlk hw h dX6_step_324
  rw [if_neg c13] at h
  by_cases c18 : r4 = (2 : Int32)
  · rw [if_pos c18] at h
    have z9 := ev5.trans c18
    subst z9
    refine lv_tableIn (tgt := 123) hx hb dX6_step_19 (by decide +kernel) (by decide +kernel) rfl (by decide) ?_
    refine lv_aload_n hx hb dX6_step_123 rfl (lv_at hl 1 rfl) ?_
    refine lv_iload_n hx hb dX6_step_124 rfl (lv_at hl 2 rfl) ?_
    refine lv_bipush (v := 94) hx hb dX6_step_125 (by decide) ?_
    refine lv_aload_n hx hb dX6_step_127 rfl (lv_at hl 1 rfl) ?_
    refine lv_iload_n hx hb dX6_step_128 rfl (lv_at hl 2 rfl) ?_
    refine lv_iconst (v := 0) hx hb dX6_step_129 (by decide) ?_
    obtain ⟨r20, μ19, gr20, h⟩ := bd_some h
    refine g_callVL (As := [.int a1, .int 0]) (rest := [.int 94, .int a1, .ref (ad 151)]) cx hw hA (t_X6_num l G ad a1 (0 : Int32) μ3 gr20) shx_151 rfl ml_X6_127 im_X6_num se_X6_num in_X6 co_X6_num rfl hd_X6_num rfl ⟨(Nat.le_of_ble_eq_true rfl), (Nat.le_of_ble_eq_true rfl)⟩ hl.1 rfl (Nat.le_of_ble_eq_true rfl) dX6_step_130 ⟨rfl, rfl⟩ (fun H locs hw => ?_)
    refine s_callL (As := [.int 94, .long r20]) (rest := [.int a1, .ref (ad 151)]) cx hw hA (t_X0_turn l G (94 : Int32) r20) ml_X6_133 st_X0_turn in_X0 co_X0_turn hd_X0_turn rfl ⟨(Nat.le_of_ble_eq_true rfl), (Nat.le_of_ble_eq_true rfl)⟩ hl.1 rfl (Nat.le_of_ble_eq_true rfl) dX6_step_133 rfl (fun H locs hw => ?_)
    obtain ⟨μ21, gμ21, h⟩ := bw_some h
    refine g_callVV (As := [.int a1, .long (s_X0_turn (94 : Int32) r20)]) (rest := []) cx hw hA (t_X6_goOn l G ad a1 (s_X0_turn (94 : Int32) r20) μ19 gμ21) shx_151 rfl ml_X6_123 im_X6_goOn se_X6_goOn in_X6 co_X6_goOn rfl hd_X6_goOn rfl ⟨(Nat.le_of_ble_eq_true rfl), (Nat.le_of_ble_eq_true rfl)⟩ hl.1 rfl (Nat.le_of_ble_eq_true rfl) dX6_step_136 ⟨rfl, rfl⟩ (fun H locs hw => ?_)
    refine lv_goto (tgt := 324) hx hb dX6_step_139 (by decide) ?_
    exact g_vret cx hr hlk hw h dX6_step_324
  rw [if_neg c18] at h
  by_cases c23 : r4 = (3 : Int32)
  · rw [if_pos c23] at h
    have z9 := ev5.trans c23
    subst z9
    refine lv_tableIn (tgt := 142) hx hb dX6_step_19 (by decide +kernel) (by decide +kernel) rfl (by decide) ?_
    refine lv_aload_n hx hb dX6_step_142 rfl (lv_at hl 1 rfl) ?_
    refine lv_iload_n hx hb dX6_step_143 rfl (lv_at hl 2 rfl) ?_
    refine lv_bipush (v := 35) hx hb dX6_step_144 (by decide) ?_
    refine lv_aload_n hx hb dX6_step_146 rfl (lv_at hl 1 rfl) ?_
    refine lv_iload_n hx hb dX6_step_147 rfl (lv_at hl 2 rfl) ?_
    refine lv_iconst (v := 0) hx hb dX6_step_148 (by decide) ?_
    obtain ⟨r25, μ24, gr25, h⟩ := bd_some h
    refine g_callVL (As := [.int a1, .int 0]) (rest := [.int 35, .int a1, .ref (ad 151)]) cx hw hA (t_X6_num l G ad a1 (0 : Int32) μ3 gr25) shx_151 rfl ml_X6_127 im_X6_num se_X6_num in_X6 co_X6_num rfl hd_X6_num rfl ⟨(Nat.le_of_ble_eq_true rfl), (Nat.le_of_ble_eq_true rfl)⟩ hl.1 rfl (Nat.le_of_ble_eq_true rfl) dX6_step_149 ⟨rfl, rfl⟩ (fun H locs hw => ?_)
    refine s_callL (As := [.int 35, .long r25]) (rest := [.int a1, .ref (ad 151)]) cx hw hA (t_X0_turn l G (35 : Int32) r25) ml_X6_133 st_X0_turn in_X0 co_X0_turn hd_X0_turn rfl ⟨(Nat.le_of_ble_eq_true rfl), (Nat.le_of_ble_eq_true rfl)⟩ hl.1 rfl (Nat.le_of_ble_eq_true rfl) dX6_step_152 rfl (fun H locs hw => ?_)
    obtain ⟨μ26, gμ26, h⟩ := bw_some h
    refine g_callVV (As := [.int a1, .long (s_X0_turn (35 : Int32) r25)]) (rest := []) cx hw hA (t_X6_goOn l G ad a1 (s_X0_turn (35 : Int32) r25) μ24 gμ26) shx_151 rfl ml_X6_123 im_X6_goOn se_X6_goOn in_X6 co_X6_goOn rfl hd_X6_goOn rfl ⟨(Nat.le_of_ble_eq_true rfl), (Nat.le_of_ble_eq_true rfl)⟩ hl.1 rfl (Nat.le_of_ble_eq_true rfl) dX6_step_155 ⟨rfl, rfl⟩ (fun H locs hw => ?_)
    refine lv_goto (tgt := 324) hx hb dX6_step_158 (by decide) ?_
    exact g_vret cx hr hlk hw h dX6_step_324
  rw [if_neg c23] at h
  by_cases c28 : r4 = (4 : Int32)
  · rw [if_pos c28] at h
    have z9 := ev5.trans c28
    subst z9
    refine lv_tableIn (tgt := 161) hx hb dX6_step_19 (by decide +kernel) (by decide +kernel) rfl (by decide) ?_
    refine lv_aload_n hx hb dX6_step_161 rfl (lv_at hl 1 rfl) ?_
    refine lv_iload_n hx hb dX6_step_162 rfl (lv_at hl 2 rfl) ?_
    refine lv_aload_n hx hb dX6_step_163 rfl (lv_at hl 1 rfl) ?_
    refine g_get cx hw inX6 (ci := 5) rfl 0 (by decide) rfl (v := .ref (ad 30)) shx_151 rfl fl_X6_13 dX6_step_164 ?_
    refine lv_aload_n hx hb dX6_step_167 rfl (lv_at hl 1 rfl) ?_
    refine lv_iload_n hx hb dX6_step_168 rfl (lv_at hl 2 rfl) ?_
    refine lv_iconst (v := 0) hx hb dX6_step_169 (by decide) ?_
    obtain ⟨r30, μ29, gr30, h⟩ := bd_some h
    refine g_callVL (As := [.int a1, .int 0]) (rest := [.ref (ad 30), .int a1, .ref (ad 151)]) cx hw hA (t_X6_operand l G ad a1 (0 : Int32) μ3 gr30) shx_151 rfl ml_X6_105 im_X6_operand se_X6_operand in_X6 co_X6_operand rfl hd_X6_operand rfl ⟨(Nat.le_of_ble_eq_true rfl), (Nat.le_of_ble_eq_true rfl)⟩ hl.1 rfl (Nat.le_of_ble_eq_true rfl) dX6_step_170 ⟨rfl, rfl⟩ (fun H locs hw => ?_)
    obtain ⟨r32, μ31, gr32, h⟩ := bd_some h
    refine g_callVL (As := [.long r30]) (rest := [.int a1, .ref (ad 151)]) cx hw hA (t_X8_firstOf l G ad r30 μ29 gr32) shx_30 rfl ml_X6_137 im_X8_firstOf se_X8_firstOf in_X8 co_X8_firstOf rfl hd_X8_firstOf rfl ⟨(Nat.le_of_ble_eq_true rfl), (Nat.le_of_ble_eq_true rfl)⟩ hl.1 rfl (Nat.le_of_ble_eq_true rfl) dX6_step_173 ⟨rfl, rfl⟩ (fun H locs hw => ?_)
    obtain ⟨μ33, gμ33, h⟩ := bw_some h
    refine g_callVV (As := [.int a1, .long r32]) (rest := []) cx hw hA (t_X6_goOn l G ad a1 r32 μ31 gμ33) shx_151 rfl ml_X6_123 im_X6_goOn se_X6_goOn in_X6 co_X6_goOn rfl hd_X6_goOn rfl ⟨(Nat.le_of_ble_eq_true rfl), (Nat.le_of_ble_eq_true rfl)⟩ hl.1 rfl (Nat.le_of_ble_eq_true rfl) dX6_step_176 ⟨rfl, rfl⟩ (fun H locs hw => ?_)
    refine lv_goto (tgt := 324) hx hb dX6_step_179 (by decide) ?_
    exact g_vret cx hr hlk hw h dX6_step_324
  rw [if_neg c28] at h
  by_cases c35 : r4 = (5 : Int32)
  · rw [if_pos c35] at h
    have z9 := ev5.trans c35
    subst z9
    refine lv_tableIn (tgt := 182) hx hb dX6_step_19 (by decide +kernel) (by decide +kernel) rfl (by decide) ?_
    refine lv_aload_n hx hb dX6_step_182 rfl (lv_at hl 1 rfl) ?_
    refine lv_iload_n hx hb dX6_step_183 rfl (lv_at hl 2 rfl) ?_
    refine lv_aload_n hx hb dX6_step_184 rfl (lv_at hl 1 rfl) ?_
    refine g_get cx hw inX6 (ci := 5) rfl 0 (by decide) rfl (v := .ref (ad 30)) shx_151 rfl fl_X6_13 dX6_step_185 ?_
    refine lv_aload_n hx hb dX6_step_188 rfl (lv_at hl 1 rfl) ?_
    refine lv_iload_n hx hb dX6_step_189 rfl (lv_at hl 2 rfl) ?_
    refine lv_iconst (v := 0) hx hb dX6_step_190 (by decide) ?_
    obtain ⟨r37, μ36, gr37, h⟩ := bd_some h
    refine g_callVL (As := [.int a1, .int 0]) (rest := [.ref (ad 30), .int a1, .ref (ad 151)]) cx hw hA (t_X6_operand l G ad a1 (0 : Int32) μ3 gr37) shx_151 rfl ml_X6_105 im_X6_operand se_X6_operand in_X6 co_X6_operand rfl hd_X6_operand rfl ⟨(Nat.le_of_ble_eq_true rfl), (Nat.le_of_ble_eq_true rfl)⟩ hl.1 rfl (Nat.le_of_ble_eq_true rfl) dX6_step_191 ⟨rfl, rfl⟩ (fun H locs hw => ?_)
    obtain ⟨r39, μ38, gr39, h⟩ := bd_some h
    refine g_callVL (As := [.long r37]) (rest := [.int a1, .ref (ad 151)]) cx hw hA (t_X8_secondOf l G ad r37 μ36 gr39) shx_30 rfl ml_X6_139 im_X8_secondOf se_X8_secondOf in_X8 co_X8_secondOf rfl hd_X8_secondOf rfl ⟨(Nat.le_of_ble_eq_true rfl), (Nat.le_of_ble_eq_true rfl)⟩ hl.1 rfl (Nat.le_of_ble_eq_true rfl) dX6_step_194 ⟨rfl, rfl⟩ (fun H locs hw => ?_)
    obtain ⟨μ40, gμ40, h⟩ := bw_some h
    refine g_callVV (As := [.int a1, .long r39]) (rest := []) cx hw hA (t_X6_goOn l G ad a1 r39 μ38 gμ40) shx_151 rfl ml_X6_123 im_X6_goOn se_X6_goOn in_X6 co_X6_goOn rfl hd_X6_goOn rfl ⟨(Nat.le_of_ble_eq_true rfl), (Nat.le_of_ble_eq_true rfl)⟩ hl.1 rfl (Nat.le_of_ble_eq_true rfl) dX6_step_197 ⟨rfl, rfl⟩ (fun H locs hw => ?_)
    refine lv_goto (tgt := 324) hx hb dX6_step_200 (by decide) ?_
    exact g_vret cx hr hlk hw h dX6_step_324
  rw [if_neg c35] at h
  by_cases c42 : r4 = (6 : Int32)
  · rw [if_pos c42] at h
    have z9 := ev5.trans c42
    subst z9
    refine lv_tableIn (tgt := 203) hx hb dX6_step_19 (by decide +kernel) (by decide +kernel) rfl (by decide) ?_
    refine lv_aload_n hx hb dX6_step_203 rfl (lv_at hl 1 rfl) ?_
    refine lv_aload_n hx hb dX6_step_204 rfl (lv_at hl 1 rfl) ?_
    refine g_get cx hw inX6 (ci := 5) rfl 7 (by decide) rfl (v := .ref (ad 39)) shx_151 rfl fl_X6_33 dX6_step_205 ?_
    refine lv_iload_n hx hb dX6_step_208 rfl (lv_at hl 2 rfl) ?_
    refine lv_aload_n hx hb dX6_step_209 rfl (lv_at hl 1 rfl) ?_
    refine lv_iload_n hx hb dX6_step_210 rfl (lv_at hl 2 rfl) ?_
    refine lv_iconst (v := 0) hx hb dX6_step_211 (by decide) ?_
    obtain ⟨r44, μ43, gr44, h⟩ := bd_some h
    refine g_callVL (As := [.int a1, .int 0]) (rest := [.int a1, .ref (ad 39), .ref (ad 151)]) cx hw hA (t_X6_num l G ad a1 (0 : Int32) μ3 gr44) shx_151 rfl ml_X6_127 im_X6_num se_X6_num in_X6 co_X6_num rfl hd_X6_num rfl ⟨(Nat.le_of_ble_eq_true rfl), (Nat.le_of_ble_eq_true rfl)⟩ hl.1 rfl (Nat.le_of_ble_eq_true rfl) dX6_step_212 ⟨rfl, rfl⟩ (fun H locs hw => ?_)
    refine s_callI (As := [.long r44]) (rest := [.int a1, .ref (ad 39), .ref (ad 151)]) cx hw hA (t_X0_isTrue l G r44) ml_X6_142 st_X0_isTrue in_X0 co_X0_isTrue hd_X0_isTrue rfl ⟨(Nat.le_of_ble_eq_true rfl), (Nat.le_of_ble_eq_true rfl)⟩ hl.1 rfl (Nat.le_of_ble_eq_true rfl) dX6_step_215 rfl (fun H locs hw => ?_)
    refine lv_if_eq (tgt := 225) hx hb dX6_step_218 (by decide) (fun c45 => ?_) (fun c45 => ?_)
    · rw [if_pos c45] at h
      refine lv_iconst (v := 4) hx hb dX6_step_225 (by decide) ?_
      obtain ⟨r47, μ46, gr47, h⟩ := bd_some h
      refine g_callVI (As := [.int a1, .int 4]) (rest := [.ref (ad 151)]) cx hw hA (t_X5_cell l G ad a1 (4 : Int32) μ43 gr47) shx_39 rfl ml_X6_117 im_X5_cell se_X5_cell in_X5 co_X5_cell rfl hd_X5_cell rfl ⟨(Nat.le_of_ble_eq_true rfl), (Nat.le_of_ble_eq_true rfl)⟩ hl.1 rfl (Nat.le_of_ble_eq_true rfl) dX6_step_226 ⟨rfl, rfl⟩ (fun H locs hw => ?_)
      obtain ⟨μ48, gμ48, h⟩ := bw_some h
      refine g_callVV (As := [.int r47]) (rest := []) cx hw hA (t_X6_enter l G ad r47 μ46 gμ48) shx_151 rfl ml_X6_70 im_X6_enter se_X6_enter in_X6 co_X6_enter rfl hd_X6_enter rfl ⟨(Nat.le_of_ble_eq_true rfl), (Nat.le_of_ble_eq_true rfl)⟩ hl.1 rfl (Nat.le_of_ble_eq_true rfl) dX6_step_229 ⟨rfl, rfl⟩ (fun H locs hw => ?_)
      refine lv_goto (tgt := 324) hx hb dX6_step_232 (by decide) ?_
      exact g_vret cx hr hlk hw h dX6_step_324
    · rw [if_neg c45] at h
      refine lv_iconst (v := 3) hx hb dX6_step_221 (by decide) ?_
      refine lv_goto (tgt := 226) hx hb dX6_step_222 (by decide) ?_
      obtain ⟨r51, μ50, gr51, h⟩ := bd_some h
      refine g_callVI (As := [.int a1, .int 3]) (rest := [.ref (ad 151)]) cx hw hA (t_X5_cell l G ad a1 (3 : Int32) μ43 gr51) shx_39 rfl ml_X6_117 im_X5_cell se_X5_cell in_X5 co_X5_cell rfl hd_X5_cell rfl ⟨(Nat.le_of_ble_eq_true rfl), (Nat.le_of_ble_eq_true rfl)⟩ hl.1 rfl (Nat.le_of_ble_eq_true rfl) dX6_step_226 ⟨rfl, rfl⟩ (fun H locs hw => ?_)
      obtain ⟨μ52, gμ52, h⟩ := bw_some h
      refine g_callVV (As := [.int r51]) (rest := []) cx hw hA (t_X6_enter l G ad r51 μ50 gμ52) shx_151 rfl ml_X6_70 im_X6_enter se_X6_enter in_X6 co_X6_enter rfl hd_X6_enter rfl ⟨(Nat.le_of_ble_eq_true rfl), (Nat.le_of_ble_eq_true rfl)⟩ hl.1 rfl (Nat.le_of_ble_eq_true rfl) dX6_step_229 ⟨rfl, rfl⟩ (fun H locs hw => ?_)
      refine lv_goto (tgt := 324) hx hb dX6_step_232 (by decide) ?_
      exact g_vret cx hr hlk hw h dX6_step_324
  rw [if_neg c42] at h
  by_cases c54 : r4 = (7 : Int32)
  · rw [if_pos c54] at h
    have z9 := ev5.trans c54
    subst z9
    refine lv_tableIn (tgt := 235) hx hb dX6_step_19 (by decide +kernel) (by decide +kernel) rfl (by decide) ?_
    refine lv_aload_n hx hb dX6_step_235 rfl (lv_at hl 1 rfl) ?_
    refine g_get cx hw inX6 (ci := 5) rfl 8 (by decide) rfl (v := .ref (ad (sel 0 (μ3.2.2 151 8)))) shx_151 rfl fl_X6_37 dX6_step_236 ?_
    refine lv_aload_n hx hb dX6_step_239 rfl (lv_at hl 1 rfl) ?_
    refine lv_iload_n hx hb dX6_step_240 rfl (lv_at hl 2 rfl) ?_
    refine lv_iconst (v := 0) hx hb dX6_step_241 (by decide) ?_
    obtain ⟨r56, μ55, gr56, h⟩ := bd_some h
    refine g_callVL (As := [.int a1, .int 0]) (rest := [.ref (ad (sel 0 (μ3.2.2 151 8)))]) cx hw hA (t_X6_num l G ad a1 (0 : Int32) μ3 gr56) shx_151 rfl ml_X6_127 im_X6_num se_X6_num in_X6 co_X6_num rfl hd_X6_num rfl ⟨(Nat.le_of_ble_eq_true rfl), (Nat.le_of_ble_eq_true rfl)⟩ hl.1 rfl (Nat.le_of_ble_eq_true rfl) dX6_step_242 ⟨rfl, rfl⟩ (fun H locs hw => ?_)
    obtain ⟨μ57, gμ57, h⟩ := bw_some h
    refine g_callVV (As := [.long r56]) (rest := []) cx hw hA (t_X1_writeOut l G ad (sel 0 (μ3.2.2 151 8)) (sel_0 _) r56 μ55 gμ57) (sel_0 _) rfl ml_X6_146 im_X1_writeOut se_X1_writeOut in_X1 co_X1_writeOut rfl hd_X1_writeOut rfl ⟨(Nat.le_of_ble_eq_true rfl), (Nat.le_of_ble_eq_true rfl)⟩ hl.1 rfl (Nat.le_of_ble_eq_true rfl) dX6_step_245 ⟨rfl, rfl⟩ (fun H locs hw => ?_)
    refine lv_aload_n hx hb dX6_step_248 rfl (lv_at hl 1 rfl) ?_
    refine lv_iload_n hx hb dX6_step_249 rfl (lv_at hl 2 rfl) ?_
    refine lv_lconst (v := 0) hx hb dX6_step_250 (by decide) ?_
    obtain ⟨μ59, gμ59, h⟩ := bw_some h
    refine g_callVV (As := [.int a1, .long 0]) (rest := []) cx hw hA (t_X6_goOn l G ad a1 (0 : Int64) μ57 gμ59) shx_151 rfl ml_X6_123 im_X6_goOn se_X6_goOn in_X6 co_X6_goOn rfl hd_X6_goOn rfl ⟨(Nat.le_of_ble_eq_true rfl), (Nat.le_of_ble_eq_true rfl)⟩ hl.1 rfl (Nat.le_of_ble_eq_true rfl) dX6_step_251 ⟨rfl, rfl⟩ (fun H locs hw => ?_)
    refine lv_goto (tgt := 324) hx hb dX6_step_254 (by decide) ?_
    exact g_vret cx hr hlk hw h dX6_step_324
  rw [if_neg c54] at h
  by_cases c61 : r4 = (8 : Int32)
  · rw [if_pos c61] at h
    have z9 := ev5.trans c61
    subst z9
    refine lv_tableIn (tgt := 257) hx hb dX6_step_19 (by decide +kernel) (by decide +kernel) rfl (by decide) ?_
    refine lv_aload_n hx hb dX6_step_257 rfl (lv_at hl 1 rfl) ?_
    refine lv_iload_n hx hb dX6_step_258 rfl (lv_at hl 2 rfl) ?_
    refine lv_aload_n hx hb dX6_step_259 rfl (lv_at hl 1 rfl) ?_
    refine g_get cx hw inX6 (ci := 5) rfl 8 (by decide) rfl (v := .ref (ad (sel 0 (μ3.2.2 151 8)))) shx_151 rfl fl_X6_37 dX6_step_260 ?_
    refine lv_iload_n hx hb dX6_step_263 rfl (lv_at hl 0 rfl) ?_
    refine lv_iload_n hx hb dX6_step_264 rfl (lv_at hl 0 rfl) ?_
    refine lv_aload_n hx hb dX6_step_265 rfl (lv_at hl 1 rfl) ?_
    refine lv_iload_n hx hb dX6_step_266 rfl (lv_at hl 2 rfl) ?_
    refine lv_iconst (v := 0) hx hb dX6_step_267 (by decide) ?_
    obtain ⟨r63, μ62, gr63, h⟩ := bd_some h
    refine g_callVL (As := [.int a1, .int 0]) (rest := [.int r2, .int r2, .ref (ad (sel 0 (μ3.2.2 151 8))), .int a1, .ref (ad 151)]) cx hw hA (t_X6_num l G ad a1 (0 : Int32) μ3 gr63) shx_151 rfl ml_X6_127 im_X6_num se_X6_num in_X6 co_X6_num rfl hd_X6_num rfl ⟨(Nat.le_of_ble_eq_true rfl), (Nat.le_of_ble_eq_true rfl)⟩ hl.1 rfl (Nat.le_of_ble_eq_true rfl) dX6_step_268 ⟨rfl, rfl⟩ (fun H locs hw => ?_)
    refine s_callL (As := [.int r2, .long r63]) (rest := [.int r2, .ref (ad (sel 0 (μ3.2.2 151 8))), .int a1, .ref (ad 151)]) cx hw hA (t_X0_stored l G r2 r63) ml_X6_150 st_X0_stored in_X0 co_X0_stored hd_X0_stored rfl ⟨(Nat.le_of_ble_eq_true rfl), (Nat.le_of_ble_eq_true rfl)⟩ hl.1 rfl (Nat.le_of_ble_eq_true rfl) dX6_step_271 rfl (fun H locs hw => ?_)
    obtain ⟨r65, μ64, gr65, h⟩ := bd_some h
    refine g_callVL (As := [.int r2, .long (s_X0_stored r2 r63)]) (rest := [.int a1, .ref (ad 151)]) cx hw hA (t_X1_put l G ad (sel 0 (μ3.2.2 151 8)) (sel_0 _) r2 (s_X0_stored r2 r63) μ62 gr65) (sel_0 _) rfl ml_X6_153 im_X1_put se_X1_put in_X1 co_X1_put rfl hd_X1_put rfl ⟨(Nat.le_of_ble_eq_true rfl), (Nat.le_of_ble_eq_true rfl)⟩ hl.1 rfl (Nat.le_of_ble_eq_true rfl) dX6_step_274 ⟨rfl, rfl⟩ (fun H locs hw => ?_)
    obtain ⟨μ66, gμ66, h⟩ := bw_some h
    refine g_callVV (As := [.int a1, .long r65]) (rest := []) cx hw hA (t_X6_goOn l G ad a1 r65 μ64 gμ66) shx_151 rfl ml_X6_123 im_X6_goOn se_X6_goOn in_X6 co_X6_goOn rfl hd_X6_goOn rfl ⟨(Nat.le_of_ble_eq_true rfl), (Nat.le_of_ble_eq_true rfl)⟩ hl.1 rfl (Nat.le_of_ble_eq_true rfl) dX6_step_277 ⟨rfl, rfl⟩ (fun H locs hw => ?_)
    refine lv_goto (tgt := 324) hx hb dX6_step_280 (by decide) ?_
    exact g_vret cx hr hlk hw h dX6_step_324
  rw [if_neg c61] at h
  by_cases c68 : r4 = (9 : Int32)
  · rw [if_pos c68] at h
    have z9 := ev5.trans c68
    subst z9
    refine lv_tableIn (tgt := 283) hx hb dX6_step_19 (by decide +kernel) (by decide +kernel) rfl (by decide) ?_
    refine lv_aload_n hx hb dX6_step_283 rfl (lv_at hl 1 rfl) ?_
    refine lv_iload_n hx hb dX6_step_284 rfl (lv_at hl 2 rfl) ?_
    refine lv_aload_n hx hb dX6_step_285 rfl (lv_at hl 1 rfl) ?_
    refine g_get cx hw inX6 (ci := 5) rfl 8 (by decide) rfl (v := .ref (ad (sel 0 (μ3.2.2 151 8)))) shx_151 rfl fl_X6_37 dX6_step_286 ?_
    refine lv_iload_n hx hb dX6_step_289 rfl (lv_at hl 0 rfl) ?_
    obtain ⟨r70, μ69, gr70, h⟩ := bd_some h
    refine g_callVL (As := [.int r2]) (rest := [.int a1, .ref (ad 151)]) cx hw hA (t_X1_get l G ad (sel 0 (μ3.2.2 151 8)) (sel_0 _) r2 μ3 gr70) (sel_0 _) rfl ml_X6_156 im_X1_get se_X1_get in_X1 co_X1_get rfl hd_X1_get rfl ⟨(Nat.le_of_ble_eq_true rfl), (Nat.le_of_ble_eq_true rfl)⟩ hl.1 rfl (Nat.le_of_ble_eq_true rfl) dX6_step_290 ⟨rfl, rfl⟩ (fun H locs hw => ?_)
    obtain ⟨μ71, gμ71, h⟩ := bw_some h
    refine g_callVV (As := [.int a1, .long r70]) (rest := []) cx hw hA (t_X6_goOn l G ad a1 r70 μ69 gμ71) shx_151 rfl ml_X6_123 im_X6_goOn se_X6_goOn in_X6 co_X6_goOn rfl hd_X6_goOn rfl ⟨(Nat.le_of_ble_eq_true rfl), (Nat.le_of_ble_eq_true rfl)⟩ hl.1 rfl (Nat.le_of_ble_eq_true rfl) dX6_step_293 ⟨rfl, rfl⟩ (fun H locs hw => ?_)
    refine lv_goto (tgt := 324) hx hb dX6_step_296 (by decide) ?_
    exact g_vret cx hr hlk hw h dX6_step_324
  rw [if_neg c68] at h
  by_cases c73 : r4 = (10 : Int32)
  · rw [if_pos c73] at h
    have z9 := ev5.trans c73
    subst z9
    refine lv_tableIn (tgt := 299) hx hb dX6_step_19 (by decide +kernel) (by decide +kernel) rfl (by decide) ?_
    refine lv_aload_n hx hb dX6_step_299 rfl (lv_at hl 1 rfl) ?_
    refine lv_iload_n hx hb dX6_step_300 rfl (lv_at hl 2 rfl) ?_
    obtain ⟨μ74, gμ74, h⟩ := bw_some h
    refine g_callVV (As := [.int a1]) (rest := []) cx hw hA (t_X6_makePair l G ad a1 μ3 gμ74) shx_151 rfl ml_X6_159 im_X6_makePair se_X6_makePair in_X6 co_X6_makePair rfl hd_X6_makePair rfl ⟨(Nat.le_of_ble_eq_true rfl), (Nat.le_of_ble_eq_true rfl)⟩ hl.1 rfl (Nat.le_of_ble_eq_true rfl) dX6_step_301 ⟨rfl, rfl⟩ (fun H locs hw => ?_)
    refine lv_goto (tgt := 324) hx hb dX6_step_304 (by decide) ?_
    exact g_vret cx hr hlk hw h dX6_step_324
  rw [if_neg c73] at h
  by_cases c76 : r4 = (11 : Int32)
  · rw [if_pos c76] at h
    have z9 := ev5.trans c76
    subst z9
    refine lv_tableIn (tgt := 307) hx hb dX6_step_19 (by decide +kernel) (by decide +kernel) rfl (by decide) ?_
    refine lv_aload_n hx hb dX6_step_307 rfl (lv_at hl 1 rfl) ?_
    refine lv_iload_n hx hb dX6_step_308 rfl (lv_at hl 2 rfl) ?_
    refine lv_iload_n hx hb dX6_step_309 rfl (lv_at hl 0 rfl) ?_
    obtain ⟨μ77, gμ77, h⟩ := bw_some h
    refine g_callVV (As := [.int a1, .int r2]) (rest := []) cx hw hA (t_X6_call l G ad a1 r2 μ3 gμ77) shx_151 rfl ml_X6_162 im_X6_call se_X6_call in_X6 co_X6_call rfl hd_X6_call rfl ⟨(Nat.le_of_ble_eq_true rfl), (Nat.le_of_ble_eq_true rfl)⟩ hl.1 rfl (Nat.le_of_ble_eq_true rfl) dX6_step_310 ⟨rfl, rfl⟩ (fun H locs hw => ?_)
    refine lv_goto (tgt := 324) hx hb dX6_step_313 (by decide) ?_
    exact g_vret cx hr hlk hw h dX6_step_324
  rw [if_neg c76] at h
  rw [ev5]
  refine lv_tableOut (tgt := 316) hx hb dX6_step_19 (sw_out (L := [(0 : Int32), (1 : Int32), (2 : Int32), (3 : Int32), (4 : Int32), (5 : Int32), (6 : Int32), (7 : Int32), (8 : Int32), (9 : Int32), (10 : Int32), (11 : Int32)]) (by decide +kernel) (by simp only [List.forall_mem_cons]; exact ⟨c6, c13, c18, c23, c28, c35, c42, c54, c61, c68, c73, c76, fun _ q => absurd q List.not_mem_nil⟩)) (by decide) ?_
  refine lv_aload_n hx hb dX6_step_316 rfl (lv_at hl 1 rfl) ?_
  refine g_get cx hw inX6 (ci := 5) rfl 8 (by decide) rfl (v := .ref (ad (sel 0 (μ3.2.2 151 8)))) shx_151 rfl fl_X6_37 dX6_step_317 ?_
  refine lv_iconst (v := 4) hx hb dX6_step_320 (by decide) ?_
  refine g_put cx hw inX1 (ci := 0) rfl tyX1_ok nmX1 0 (by decide) rfl rfl rfl rfl (sel_0 _) h fl_X6_166 dX6_step_321 (fun μ79 H locs h hw => ?_)
  exact g_vret cx hr hlk hw h dX6_step_324

theorem p_X6_runResidue_b166_ex : ∃ f : (Int32 → Mem → Option Mem) → Int32 → Mem → Option Mem, ∀ (K109 : Int32 → Mem → Option Mem) (a5 : Int32) (μ : Mem), f K109 a5 μ = bv (a5 + 1) (fun v27 => K109 v27 μ) := ⟨fun (K109 : Int32 → Mem → Option Mem) (a5 : Int32) (μ : Mem) => bv (a5 + 1) (fun v27 => K109 v27 μ), fun _ _ _ => rfl⟩
noncomputable def p_X6_runResidue_b166 : (Int32 → Mem → Option Mem) → Int32 → Mem → Option Mem := Classical.choose p_X6_runResidue_b166_ex
theorem p_X6_runResidue_b166_eq (K109 : Int32 → Mem → Option Mem) (a5 : Int32) (μ : Mem) : p_X6_runResidue_b166 K109 a5 μ = bv (a5 + 1) (fun v27 => K109 v27 μ) := Classical.choose_spec p_X6_runResidue_b166_ex K109 a5 μ
set_option maxHeartbeats 4000000 in
set_option maxRecDepth 100000 in
theorem t_X6_runResidue_b166 (l : Launch) (G : Gt) (ad : Nat → Nat) (av : List Value) {μz : Mem} (K109 : Int32 → Mem → Option Mem) (hK109 : ∀ (z5 : Int32) (μ1 : Mem), K109 z5 μ1 = some μz → Bk l cX6_runResidue 7 RX6 none ({ frames := 6, cells := 0, slots := 0, locals := 157 } : Room) G av (eV 0 G ad μz) (wd 0 G ad μ1) 109 [(0, .ref (ad 151)), (5, .int z5)] []) (a5 : Int32) (μ : Mem) (h : p_X6_runResidue_b166 K109 a5 μ = some μz) : Bk l cX6_runResidue 7 RX6 none ({ frames := 6, cells := 0, slots := 0, locals := 157 } : Room) G av (eV 0 G ad μz) (wd 0 G ad μ) 166 [(0, .ref (ad 151)), (5, .int a5)] [] := by
  intro p e s m below meth c A ls H locs cx hr hlk hA hl hw
  have hx := cx.1
  have hb := cx.2.1
  rw [p_X6_runResidue_b166_eq] at h
  obtain ⟨v27, ev27, h⟩ := bv_ex h
  refine lv_iinc (v := v27) (lv' := [(5, .int v27), (0, .ref (ad 151))]) hx hb dX6_runResidue_166 hl (k := 1) rfl (by rw [ev27]; rfl) (by decide) rfl (fun ls hl => ?_)
  refine lv_goto (tgt := 109) hx hb dX6_runResidue_169 (by decide) ?_
  exact hK109 v27 μ h p e s m below meth c A ls H locs cx hr hlk hA (lv_sub hl [1, 0] rfl) hw
theorem p_X6_runResidue_b109_ex : ∃ f : Nat → Int32 → Mem → Option Mem, (∀ (a5 : Int32) (μ : Mem), f  0 a5 μ = none) ∧ (∀ (n : Nat) (a5 : Int32) (μ : Mem), f  (n + 1) a5 μ = (if (1000000 : Int32) ≤ a5 then some μ else (if (μ.1 151 5) < (1 : Int32) then some μ else bd (p_X1_isRunning (sel 0 (μ.2.2 151 8)) μ) (fun r21 μ20 => (if r21 = (0 : Int32) then some μ20 else gd (inb ((μ20.1 151 5) - (1 : Int32)) 744) (bv (μ20.1 155 ((μ20.1 151 5) - (1 : Int32)).toNatClampNeg) (fun v23 => (if v23 = (-1 : Int32) then bw (p_X6_endBlock μ20) (fun μ28 => p_X6_runResidue_b166 (f n) a5 μ28) else bw (p_X6_step v23 μ20) (fun μ25 => p_X6_runResidue_b166 (f n) a5 μ25))))))))) := ⟨fun n => Nat.rec (fun (a5 : Int32) (μ : Mem) => none) (fun _ ih => fun (a5 : Int32) (μ : Mem) => (if (1000000 : Int32) ≤ a5 then some μ else (if (μ.1 151 5) < (1 : Int32) then some μ else bd (p_X1_isRunning (sel 0 (μ.2.2 151 8)) μ) (fun r21 μ20 => (if r21 = (0 : Int32) then some μ20 else gd (inb ((μ20.1 151 5) - (1 : Int32)) 744) (bv (μ20.1 155 ((μ20.1 151 5) - (1 : Int32)).toNatClampNeg) (fun v23 => (if v23 = (-1 : Int32) then bw (p_X6_endBlock μ20) (fun μ28 => p_X6_runResidue_b166 (ih) a5 μ28) else bw (p_X6_step v23 μ20) (fun μ25 => p_X6_runResidue_b166 (ih) a5 μ25))))))))) n, fun  _ _ => rfl, fun  _ _ _ => rfl⟩
noncomputable def p_X6_runResidue_b109 : Nat → Int32 → Mem → Option Mem := Classical.choose p_X6_runResidue_b109_ex
theorem p_X6_runResidue_b109_z (a5 : Int32) (μ : Mem) : p_X6_runResidue_b109  0 a5 μ = none := (Classical.choose_spec p_X6_runResidue_b109_ex).1  a5 μ
theorem p_X6_runResidue_b109_s (n : Nat) (a5 : Int32) (μ : Mem) : p_X6_runResidue_b109  (n + 1) a5 μ = (if (1000000 : Int32) ≤ a5 then some μ else (if (μ.1 151 5) < (1 : Int32) then some μ else bd (p_X1_isRunning (sel 0 (μ.2.2 151 8)) μ) (fun r21 μ20 => (if r21 = (0 : Int32) then some μ20 else gd (inb ((μ20.1 151 5) - (1 : Int32)) 744) (bv (μ20.1 155 ((μ20.1 151 5) - (1 : Int32)).toNatClampNeg) (fun v23 => (if v23 = (-1 : Int32) then bw (p_X6_endBlock μ20) (fun μ28 => p_X6_runResidue_b166 (p_X6_runResidue_b109  n) a5 μ28) else bw (p_X6_step v23 μ20) (fun μ25 => p_X6_runResidue_b166 (p_X6_runResidue_b109  n) a5 μ25)))))))) := (Classical.choose_spec p_X6_runResidue_b109_ex).2  n a5 μ
set_option maxHeartbeats 4000000 in
set_option maxRecDepth 100000 in
theorem t_X6_runResidue_b109 (l : Launch) (G : Gt) (ad : Nat → Nat) (av : List Value) {μz : Mem} : ∀ (n : Nat) (a5 : Int32) (μ : Mem), p_X6_runResidue_b109  n a5 μ = some μz → Bk l cX6_runResidue 7 RX6 none ({ frames := 6, cells := 0, slots := 0, locals := 157 } : Room) G av (eV 0 G ad μz) (wd 0 G ad μ) 109 [(0, .ref (ad 151)), (5, .int a5)] [] := by
  intro n
  induction n with
  | zero => intro a5 μ h; rw [p_X6_runResidue_b109_z] at h; cases h
  | succ n ih =>
    intro a5 μ h p e s m below meth c A ls H locs cx hr hlk hA hl hw
    have hx := cx.1
    have hb := cx.2.1
    rw [p_X6_runResidue_b109_s] at h
    refine lv_iload hx hb dX6_runResidue_109 (lv_at hl 1 rfl) ?_
    refine lv_ldc hx hb cx.2.2.2.1 (cx.2.2.2.2.1 _ cs_X6_74) dX6_runResidue_111 ?_
    refine lv_icmp_ge (tgt := 172) hx hb dX6_runResidue_113 (by decide) (fun c18 => ?_) (fun c18 => ?_)
    · rw [if_pos c18] at h
      exact g_vret cx hr hlk hw h dX6_runResidue_172
    · rw [if_neg c18] at h
      refine lv_aload_n hx hb dX6_runResidue_116 rfl (lv_at hl 0 rfl) ?_
      refine g_get cx hw inX6 (ci := 5) rfl 5 (by decide) rfl (v := .int (μ.1 151 5)) shx_151 rfl fl_X6_41 dX6_runResidue_117 ?_
      refine lv_iconst (v := 1) hx hb dX6_runResidue_120 (by decide) ?_
      refine lv_icmp_lt (tgt := 172) hx hb dX6_runResidue_121 (by decide) (fun c19 => ?_) (fun c19 => ?_)
      · rw [if_pos c19] at h
        exact g_vret cx hr hlk hw h dX6_runResidue_172
      · rw [if_neg c19] at h
        refine lv_aload_n hx hb dX6_runResidue_124 rfl (lv_at hl 0 rfl) ?_
        refine g_get cx hw inX6 (ci := 5) rfl 8 (by decide) rfl (v := .ref (ad (sel 0 (μ.2.2 151 8)))) shx_151 rfl fl_X6_37 dX6_runResidue_125 ?_
        obtain ⟨r21, μ20, gr21, h⟩ := bd_some h
        refine g_callVI (As := []) (rest := []) cx hw hA (t_X1_isRunning l G ad (sel 0 (μ.2.2 151 8)) (sel_0 _) μ gr21) (sel_0 _) rfl ml_X6_75 im_X1_isRunning se_X1_isRunning in_X1 co_X1_isRunning rfl hd_X1_isRunning rfl ⟨(Nat.le_of_ble_eq_true rfl), (Nat.le_of_ble_eq_true rfl)⟩ hl.1 rfl (Nat.le_of_ble_eq_true rfl) dX6_runResidue_128 ⟨rfl, rfl⟩ (fun H locs hw => ?_)
        refine lv_if_eq (tgt := 172) hx hb dX6_runResidue_131 (by decide) (fun c22 => ?_) (fun c22 => ?_)
        · rw [if_pos c22] at h
          exact g_vret cx hr hlk hw h dX6_runResidue_172
        · rw [if_neg c22] at h
          refine lv_aload_n hx hb dX6_runResidue_134 rfl (lv_at hl 0 rfl) ?_
          refine g_get cx hw inX6 (ci := 5) rfl 4 (by decide) rfl (v := .ref (ad 155)) shx_151 rfl fl_X6_30 dX6_runResidue_135 ?_
          refine lv_aload_n hx hb dX6_runResidue_138 rfl (lv_at hl 0 rfl) ?_
          refine g_get cx hw inX6 (ci := 5) rfl 5 (by decide) rfl (v := .int (μ20.1 151 5)) shx_151 rfl fl_X6_41 dX6_runResidue_139 ?_
          refine lv_iconst (v := 1) hx hb dX6_runResidue_142 (by decide) ?_
          refine lv_isub hx hb dX6_runResidue_143 ?_
          refine g_iald cx hw shx_155 h dX6_runResidue_144 (fun h => ?_)
          obtain ⟨v23, ev23, h⟩ := bv_ex h
          refine lv_topi (fun y9 z9 => ?_)
          obtain rfl : v23 = y9 := ev23.trans z9.symm
          refine lv_istore (lv' := [(6, .int v23), (0, .ref (ad 151)), (5, .int a5)]) hx hb dX6_runResidue_145 hl (by decide) rfl (fun ls hl => ?_)
          refine lv_iload hx hb dX6_runResidue_147 (lv_at hl 0 rfl) ?_
          refine lv_iconst (v := (-1)) hx hb dX6_runResidue_149 (by decide) ?_
          refine lv_icmp_ne (tgt := 160) hx hb dX6_runResidue_150 (by decide) (fun c24 => ?_) (fun c24 => ?_)
          · rw [if_neg c24] at h
            refine lv_aload_n hx hb dX6_runResidue_160 rfl (lv_at hl 1 rfl) ?_
            refine lv_iload hx hb dX6_runResidue_161 (lv_at hl 0 rfl) ?_
            obtain ⟨μ25, gμ25, h⟩ := bw_some h
            refine g_callVV (As := [.int v23]) (rest := []) cx hw hA (t_X6_step l G ad v23 μ20 gμ25) shx_151 rfl ml_X6_81 im_X6_step se_X6_step in_X6 co_X6_step rfl hd_X6_step rfl ⟨(Nat.le_of_ble_eq_true rfl), (Nat.le_of_ble_eq_true rfl)⟩ hl.1 rfl (Nat.le_of_ble_eq_true rfl) dX6_runResidue_163 ⟨rfl, rfl⟩ (fun H locs hw => ?_)
            exact t_X6_runResidue_b166 l G ad av _ ih a5 μ25 h p e s m below meth c A ls H locs cx hr hlk hA (lv_sub hl [1, 2] rfl) hw
          · rw [if_pos c24] at h
            refine lv_aload_n hx hb dX6_runResidue_153 rfl (lv_at hl 1 rfl) ?_
            obtain ⟨μ28, gμ28, h⟩ := bw_some h
            refine g_callVV (As := []) (rest := []) cx hw hA (t_X6_endBlock l G ad μ20 gμ28) shx_151 rfl ml_X6_78 im_X6_endBlock se_X6_endBlock in_X6 co_X6_endBlock rfl hd_X6_endBlock rfl ⟨(Nat.le_of_ble_eq_true rfl), (Nat.le_of_ble_eq_true rfl)⟩ hl.1 rfl (Nat.le_of_ble_eq_true rfl) dX6_runResidue_154 ⟨rfl, rfl⟩ (fun H locs hw => ?_)
            refine lv_goto (tgt := 166) hx hb dX6_runResidue_157 (by decide) ?_
            exact t_X6_runResidue_b166 l G ad av _ ih a5 μ28 h p e s m below meth c A ls H locs cx hr hlk hA (lv_sub hl [1, 2] rfl) hw
theorem p_X6_runResidue_b63_ex : ∃ f : Nat → Int32 → Int32 → Mem → Option Mem, (∀ (a4 : Int32) (a5 : Int32) (μ : Mem), f  0 a4 a5 μ = none) ∧ (∀ (n : Nat) (a4 : Int32) (a5 : Int32) (μ : Mem), f  (n + 1) a4 a5 μ = (if a4 ≤ a5 then bd (p_X5_ofVariant (0 : Int32) (3 : Int32) μ) (fun r15 μ14 => bw (p_X6_enter r15 μ14) (fun μ16 => p_X6_runResidue_b109  FUEL (0 : Int32) μ16)) else gd (inb a5 8) (bw (p_X6_setRegister (μ.1 151 6) a5 (μ.2.1 153 a5.toNatClampNeg) μ) (fun μ30 => bv (a5 + 1) (fun v32 => f n a4 v32 μ30))))) := ⟨fun n => Nat.rec (fun (a4 : Int32) (a5 : Int32) (μ : Mem) => none) (fun _ ih => fun (a4 : Int32) (a5 : Int32) (μ : Mem) => (if a4 ≤ a5 then bd (p_X5_ofVariant (0 : Int32) (3 : Int32) μ) (fun r15 μ14 => bw (p_X6_enter r15 μ14) (fun μ16 => p_X6_runResidue_b109  FUEL (0 : Int32) μ16)) else gd (inb a5 8) (bw (p_X6_setRegister (μ.1 151 6) a5 (μ.2.1 153 a5.toNatClampNeg) μ) (fun μ30 => bv (a5 + 1) (fun v32 => ih a4 v32 μ30))))) n, fun  _ _ _ => rfl, fun  _ _ _ _ => rfl⟩
noncomputable def p_X6_runResidue_b63 : Nat → Int32 → Int32 → Mem → Option Mem := Classical.choose p_X6_runResidue_b63_ex
theorem p_X6_runResidue_b63_z (a4 : Int32) (a5 : Int32) (μ : Mem) : p_X6_runResidue_b63  0 a4 a5 μ = none := (Classical.choose_spec p_X6_runResidue_b63_ex).1  a4 a5 μ
theorem p_X6_runResidue_b63_s (n : Nat) (a4 : Int32) (a5 : Int32) (μ : Mem) : p_X6_runResidue_b63  (n + 1) a4 a5 μ = (if a4 ≤ a5 then bd (p_X5_ofVariant (0 : Int32) (3 : Int32) μ) (fun r15 μ14 => bw (p_X6_enter r15 μ14) (fun μ16 => p_X6_runResidue_b109  FUEL (0 : Int32) μ16)) else gd (inb a5 8) (bw (p_X6_setRegister (μ.1 151 6) a5 (μ.2.1 153 a5.toNatClampNeg) μ) (fun μ30 => bv (a5 + 1) (fun v32 => p_X6_runResidue_b63  n a4 v32 μ30)))) := (Classical.choose_spec p_X6_runResidue_b63_ex).2  n a4 a5 μ
set_option maxHeartbeats 4000000 in
set_option maxRecDepth 100000 in
theorem t_X6_runResidue_b63 (l : Launch) (G : Gt) (ad : Nat → Nat) (av : List Value) {μz : Mem} : ∀ (n : Nat) (a4 : Int32) (a5 : Int32) (μ : Mem), p_X6_runResidue_b63  n a4 a5 μ = some μz → Bk l cX6_runResidue 7 RX6 none ({ frames := 6, cells := 0, slots := 0, locals := 157 } : Room) G av (eV 0 G ad μz) (wd 0 G ad μ) 63 [(0, .ref (ad 151)), (4, .int a4), (5, .int a5)] [] := by
  intro n
  induction n with
  | zero => intro a4 a5 μ h; rw [p_X6_runResidue_b63_z] at h; cases h
  | succ n ih =>
    intro a4 a5 μ h p e s m below meth c A ls H locs cx hr hlk hA hl hw
    have hx := cx.1
    have hb := cx.2.1
    rw [p_X6_runResidue_b63_s] at h
    refine lv_iload hx hb dX6_runResidue_63 (lv_at hl 2 rfl) ?_
    refine lv_iload hx hb dX6_runResidue_65 (lv_at hl 1 rfl) ?_
    refine lv_icmp_ge (tgt := 93) hx hb dX6_runResidue_67 (by decide) (fun c13 => ?_) (fun c13 => ?_)
    · rw [if_pos c13] at h
      refine lv_aload_n hx hb dX6_runResidue_93 rfl (lv_at hl 0 rfl) ?_
      refine lv_aload_n hx hb dX6_runResidue_94 rfl (lv_at hl 0 rfl) ?_
      refine g_get cx hw inX6 (ci := 5) rfl 7 (by decide) rfl (v := .ref (ad 39)) shx_151 rfl fl_X6_33 dX6_runResidue_95 ?_
      refine lv_iconst (v := 0) hx hb dX6_runResidue_98 (by decide) ?_
      refine lv_iconst (v := 3) hx hb dX6_runResidue_99 (by decide) ?_
      obtain ⟨r15, μ14, gr15, h⟩ := bd_some h
      refine g_callVI (As := [.int 0, .int 3]) (rest := [.ref (ad 151)]) cx hw hA (t_X5_ofVariant l G ad (0 : Int32) (3 : Int32) μ gr15) shx_39 rfl ml_X6_66 im_X5_ofVariant se_X5_ofVariant in_X5 co_X5_ofVariant rfl hd_X5_ofVariant rfl ⟨(Nat.le_of_ble_eq_true rfl), (Nat.le_of_ble_eq_true rfl)⟩ hl.1 rfl (Nat.le_of_ble_eq_true rfl) dX6_runResidue_100 ⟨rfl, rfl⟩ (fun H locs hw => ?_)
      obtain ⟨μ16, gμ16, h⟩ := bw_some h
      refine g_callVV (As := [.int r15]) (rest := []) cx hw hA (t_X6_enter l G ad r15 μ14 gμ16) shx_151 rfl ml_X6_70 im_X6_enter se_X6_enter in_X6 co_X6_enter rfl hd_X6_enter rfl ⟨(Nat.le_of_ble_eq_true rfl), (Nat.le_of_ble_eq_true rfl)⟩ hl.1 rfl (Nat.le_of_ble_eq_true rfl) dX6_runResidue_103 ⟨rfl, rfl⟩ (fun H locs hw => ?_)
      refine lv_iconst (v := 0) hx hb dX6_runResidue_106 (by decide) ?_
      refine lv_istore (lv' := [(5, .int 0), (0, .ref (ad 151)), (4, .int a4)]) hx hb dX6_runResidue_107 hl (by decide) rfl (fun ls hl => ?_)
      exact t_X6_runResidue_b109 l G ad av  FUEL (0 : Int32) μ16 h p e s m below meth c A ls H locs cx hr hlk hA (lv_sub hl [1, 0] rfl) hw
    · rw [if_neg c13] at h
      refine lv_aload_n hx hb dX6_runResidue_70 rfl (lv_at hl 0 rfl) ?_
      refine lv_aload_n hx hb dX6_runResidue_71 rfl (lv_at hl 0 rfl) ?_
      refine g_get cx hw inX6 (ci := 5) rfl 6 (by decide) rfl (v := .int (μ.1 151 6)) shx_151 rfl fl_X6_45 dX6_runResidue_72 ?_
      refine lv_iload hx hb dX6_runResidue_75 (lv_at hl 2 rfl) ?_
      refine lv_aload_n hx hb dX6_runResidue_77 rfl (lv_at hl 0 rfl) ?_
      refine g_get cx hw inX6 (ci := 5) rfl 2 (by decide) rfl (v := .ref (ad 153)) shx_151 rfl fl_X6_23 dX6_runResidue_78 ?_
      refine lv_iload hx hb dX6_runResidue_81 (lv_at hl 2 rfl) ?_
      refine g_lald cx hw shx_153 h dX6_runResidue_83 (fun h => ?_)
      obtain ⟨μ30, gμ30, h⟩ := bw_some h
      refine g_callVV (As := [.int (μ.1 151 6), .int a5, .long (μ.2.1 153 a5.toNatClampNeg)]) (rest := []) cx hw hA (t_X6_setRegister l G ad (μ.1 151 6) a5 (μ.2.1 153 a5.toNatClampNeg) μ gμ30) shx_151 rfl ml_X6_62 im_X6_setRegister se_X6_setRegister in_X6 co_X6_setRegister rfl hd_X6_setRegister rfl ⟨(Nat.le_of_ble_eq_true rfl), (Nat.le_of_ble_eq_true rfl)⟩ hl.1 rfl (Nat.le_of_ble_eq_true rfl) dX6_runResidue_84 ⟨rfl, rfl⟩ (fun H locs hw => ?_)
      obtain ⟨v32, ev32, h⟩ := bv_ex h
      refine lv_iinc (v := v32) (lv' := [(5, .int v32), (0, .ref (ad 151)), (4, .int a4)]) hx hb dX6_runResidue_87 hl (k := 2) rfl (by rw [ev32]; rfl) (by decide) rfl (fun ls hl => ?_)
      refine lv_goto (tgt := 63) hx hb dX6_runResidue_90 (by decide) ?_
      exact ih a4 v32 μ30 h p e s m below meth c A ls H locs cx hr hlk hA (lv_sub hl [1, 2, 0] rfl) hw
theorem p_X6_runResidue_ex : ∃ f : Nat → Nat → Mem → Option Mem, ∀ (a2 : Nat) (a3 : Nat) (μ : Mem), f a2 a3 μ = bv (sR μ 151 8 a3) (fun μ2 => bw (p_X1_clear (sel 0 (μ2.2.2 151 8)) μ2) (fun μ3 => bw (p_X8_clear μ3) (fun μ5 => bv (sF μ5 151 5 (0 : Int32)) (fun μ7 => bv (sF μ7 151 6 (0 : Int32)) (fun μ8 => bd (p_X8_build a2 153 153 μ8) (fun r10 μ9 => bd (p_X1_beginCall (sel 0 (μ9.2.2 151 8)) μ9) (fun r12 μ11 => p_X6_runResidue_b63  FUEL r10 (0 : Int32) μ11))))))) := ⟨fun (a2 : Nat) (a3 : Nat) (μ : Mem) => bv (sR μ 151 8 a3) (fun μ2 => bw (p_X1_clear (sel 0 (μ2.2.2 151 8)) μ2) (fun μ3 => bw (p_X8_clear μ3) (fun μ5 => bv (sF μ5 151 5 (0 : Int32)) (fun μ7 => bv (sF μ7 151 6 (0 : Int32)) (fun μ8 => bd (p_X8_build a2 153 153 μ8) (fun r10 μ9 => bd (p_X1_beginCall (sel 0 (μ9.2.2 151 8)) μ9) (fun r12 μ11 => p_X6_runResidue_b63  FUEL r10 (0 : Int32) μ11))))))), fun _ _ _ => rfl⟩
noncomputable def p_X6_runResidue : Nat → Nat → Mem → Option Mem := Classical.choose p_X6_runResidue_ex
theorem p_X6_runResidue_eq (a2 : Nat) (a3 : Nat) (μ : Mem) : p_X6_runResidue a2 a3 μ = bv (sR μ 151 8 a3) (fun μ2 => bw (p_X1_clear (sel 0 (μ2.2.2 151 8)) μ2) (fun μ3 => bw (p_X8_clear μ3) (fun μ5 => bv (sF μ5 151 5 (0 : Int32)) (fun μ7 => bv (sF μ7 151 6 (0 : Int32)) (fun μ8 => bd (p_X8_build a2 153 153 μ8) (fun r10 μ9 => bd (p_X1_beginCall (sel 0 (μ9.2.2 151 8)) μ9) (fun r12 μ11 => p_X6_runResidue_b63  FUEL r10 (0 : Int32) μ11))))))) := Classical.choose_spec p_X6_runResidue_ex a2 a3 μ
set_option maxHeartbeats 4000000 in
set_option maxRecDepth 100000 in
theorem t_X6_runResidue (l : Launch) (G : Gt) (ad : Nat → Nat) (a2 : Nat) (q2 : sh 0 a2 = (0, 1)) (a3 : Nat) (q3 : sh 0 a3 = (0, 0)) (μ : Mem) {μz : Mem} (h : p_X6_runResidue a2 a3 μ = some μz) : Mt l yX6_runResidue cX6_runResidue 7 none ({ frames := 6, cells := 0, slots := 0, locals := 157 } : Room) G [.ref (ad 151), .ref (ad 39), .ref (ad a2), .ref (ad a3)] (wd 0 G ad μ) (eV 0 G ad μz) := by
  refine Bk.mt (by decide) rfl (Nat.le_of_ble_eq_true rfl) ?_
  intro p e s m below meth c A ls H locs cx hr hlk hA hl hw
  have hx := cx.1
  have hb := cx.2.1
  have hl : lv_has ls 7 [(0, .ref (ad 151)), (1, .ref (ad 39)), (2, .ref (ad a2)), (3, .ref (ad a3))] := hl
  rw [p_X6_runResidue_eq] at h
  refine lv_aload_n hx hb dX6_runResidue_0 rfl (lv_at hl 0 rfl) ?_
  refine lv_aload_n hx hb dX6_runResidue_1 rfl (lv_at hl 1 rfl) ?_
  refine g_putC cx hw inX6 (ci := 5) rfl tyX6_ok nmX6 7 (by decide) rfl rfl rfl rfl shx_151 fl_X6_33 dX6_runResidue_2 (fun H locs hw => ?_)
  refine lv_aload_n hx hb dX6_runResidue_5 rfl (lv_at hl 0 rfl) ?_
  refine lv_aload_n hx hb dX6_runResidue_6 rfl (lv_at hl 3 rfl) ?_
  refine g_putR cx hw inX6 (ci := 5) rfl tyX6_ok nmX6 8 (by decide) rfl rfl rfl rfl shx_151 q3 h fl_X6_37 dX6_runResidue_7 (fun μ2 H locs h hw => ?_)
  refine lv_aload_n hx hb dX6_runResidue_10 rfl (lv_at hl 0 rfl) ?_
  refine g_get cx hw inX6 (ci := 5) rfl 8 (by decide) rfl (v := .ref (ad (sel 0 (μ2.2.2 151 8)))) shx_151 rfl fl_X6_37 dX6_runResidue_11 ?_
  obtain ⟨μ3, gμ3, h⟩ := bw_some h
  refine g_callVV (As := []) (rest := []) cx hw hA (t_X1_clear l G ad (sel 0 (μ2.2.2 151 8)) (sel_0 _) μ2 gμ3) (sel_0 _) rfl ml_X6_48 im_X1_clear se_X1_clear in_X1 co_X1_clear rfl hd_X1_clear rfl ⟨(Nat.le_of_ble_eq_true rfl), (Nat.le_of_ble_eq_true rfl)⟩ hl.1 rfl (Nat.le_of_ble_eq_true rfl) dX6_runResidue_14 ⟨rfl, rfl⟩ (fun H locs hw => ?_)
  refine lv_aload_n hx hb dX6_runResidue_17 rfl (lv_at hl 0 rfl) ?_
  refine g_get cx hw inX6 (ci := 5) rfl 0 (by decide) rfl (v := .ref (ad 30)) shx_151 rfl fl_X6_13 dX6_runResidue_18 ?_
  obtain ⟨μ5, gμ5, h⟩ := bw_some h
  refine g_callVV (As := []) (rest := []) cx hw hA (t_X8_clear l G ad μ3 gμ5) shx_30 rfl ml_X6_51 im_X8_clear se_X8_clear in_X8 co_X8_clear rfl hd_X8_clear rfl ⟨(Nat.le_of_ble_eq_true rfl), (Nat.le_of_ble_eq_true rfl)⟩ hl.1 rfl (Nat.le_of_ble_eq_true rfl) dX6_runResidue_21 ⟨rfl, rfl⟩ (fun H locs hw => ?_)
  refine lv_aload_n hx hb dX6_runResidue_24 rfl (lv_at hl 0 rfl) ?_
  refine lv_iconst (v := 0) hx hb dX6_runResidue_25 (by decide) ?_
  refine g_put cx hw inX6 (ci := 5) rfl tyX6_ok nmX6 5 (by decide) rfl rfl rfl rfl shx_151 h fl_X6_41 dX6_runResidue_26 (fun μ7 H locs h hw => ?_)
  refine lv_aload_n hx hb dX6_runResidue_29 rfl (lv_at hl 0 rfl) ?_
  refine lv_iconst (v := 0) hx hb dX6_runResidue_30 (by decide) ?_
  refine g_put cx hw inX6 (ci := 5) rfl tyX6_ok nmX6 6 (by decide) rfl rfl rfl rfl shx_151 h fl_X6_45 dX6_runResidue_31 (fun μ8 H locs h hw => ?_)
  refine lv_aload_n hx hb dX6_runResidue_34 rfl (lv_at hl 0 rfl) ?_
  refine g_get cx hw inX6 (ci := 5) rfl 0 (by decide) rfl (v := .ref (ad 30)) shx_151 rfl fl_X6_13 dX6_runResidue_35 ?_
  refine lv_aload_n hx hb dX6_runResidue_38 rfl (lv_at hl 2 rfl) ?_
  refine lv_aload_n hx hb dX6_runResidue_39 rfl (lv_at hl 0 rfl) ?_
  refine g_get cx hw inX6 (ci := 5) rfl 2 (by decide) rfl (v := .ref (ad 153)) shx_151 rfl fl_X6_23 dX6_runResidue_40 ?_
  refine lv_aload_n hx hb dX6_runResidue_43 rfl (lv_at hl 0 rfl) ?_
  refine g_get cx hw inX6 (ci := 5) rfl 2 (by decide) rfl (v := .ref (ad 153)) shx_151 rfl fl_X6_23 dX6_runResidue_44 ?_
  obtain ⟨r10, μ9, gr10, h⟩ := bd_some h
  refine g_callVI (As := [.ref (ad a2), .ref (ad 153), .ref (ad 153)]) (rest := []) cx hw hA (t_X8_build l G ad a2 q2 153 (sh_f shx_153) 153 (sh_f shx_153) μ8 gr10) shx_30 rfl ml_X6_54 im_X8_build se_X8_build in_X8 co_X8_build rfl hd_X8_build rfl ⟨(Nat.le_of_ble_eq_true rfl), (Nat.le_of_ble_eq_true rfl)⟩ hl.1 rfl (Nat.le_of_ble_eq_true rfl) dX6_runResidue_47 ⟨rfl, rfl⟩ (fun H locs hw => ?_)
  refine lv_istore (lv' := [(4, .int r10), (0, .ref (ad 151)), (1, .ref (ad 39)), (2, .ref (ad a2)), (3, .ref (ad a3))]) hx hb dX6_runResidue_50 hl (by decide) rfl (fun ls hl => ?_)
  refine lv_aload_n hx hb dX6_runResidue_52 rfl (lv_at hl 1 rfl) ?_
  refine g_get cx hw inX6 (ci := 5) rfl 8 (by decide) rfl (v := .ref (ad (sel 0 (μ9.2.2 151 8)))) shx_151 rfl fl_X6_37 dX6_runResidue_53 ?_
  obtain ⟨r12, μ11, gr12, h⟩ := bd_some h
  refine g_callVI (As := []) (rest := []) cx hw hA (t_X1_beginCall l G ad (sel 0 (μ9.2.2 151 8)) (sel_0 _) μ9 gr12) (sel_0 _) rfl ml_X6_58 im_X1_beginCall se_X1_beginCall in_X1 co_X1_beginCall rfl hd_X1_beginCall rfl ⟨(Nat.le_of_ble_eq_true rfl), (Nat.le_of_ble_eq_true rfl)⟩ hl.1 rfl (Nat.le_of_ble_eq_true rfl) dX6_runResidue_56 ⟨rfl, rfl⟩ (fun H locs hw => ?_)
  refine lv_pop hx hb dX6_runResidue_59 rfl ?_
  refine lv_iconst (v := 0) hx hb dX6_runResidue_60 (by decide) ?_
  refine lv_istore (lv' := [(5, .int 0), (4, .int r10), (0, .ref (ad 151)), (1, .ref (ad 39)), (2, .ref (ad a2)), (3, .ref (ad a3))]) hx hb dX6_runResidue_61 hl (by decide) rfl (fun ls hl => ?_)
  exact t_X6_runResidue_b63 l G ad _  FUEL r10 (0 : Int32) μ11 h p e s m below meth c A ls H locs cx hr hlk hA (lv_sub hl [2, 1, 0] rfl) hw

theorem p_X1_about_ex : ∃ f : Nat → Int32 → Mem → Option (Int32 × Mem), ∀ (a0 : Nat) (a1 : Int32) (μ : Mem), f a0 a1 μ = (if a1 = (0 : Int32) then some ((μ.1 a0 0), μ) else (if a1 = (1 : Int32) then some ((μ.1 a0 1), μ) else (if a1 = (2 : Int32) then some ((μ.1 a0 4), μ) else (if a1 = (3 : Int32) then some ((μ.1 a0 5), μ) else (if a1 = (4 : Int32) then some ((μ.1 a0 6), μ) else (if a1 = (5 : Int32) then some ((μ.1 a0 3), μ) else some ((-1 : Int32), μ))))))) := ⟨fun (a0 : Nat) (a1 : Int32) (μ : Mem) => (if a1 = (0 : Int32) then some ((μ.1 a0 0), μ) else (if a1 = (1 : Int32) then some ((μ.1 a0 1), μ) else (if a1 = (2 : Int32) then some ((μ.1 a0 4), μ) else (if a1 = (3 : Int32) then some ((μ.1 a0 5), μ) else (if a1 = (4 : Int32) then some ((μ.1 a0 6), μ) else (if a1 = (5 : Int32) then some ((μ.1 a0 3), μ) else some ((-1 : Int32), μ))))))), fun _ _ _ => rfl⟩
noncomputable def p_X1_about : Nat → Int32 → Mem → Option (Int32 × Mem) := Classical.choose p_X1_about_ex
theorem p_X1_about_eq (a0 : Nat) (a1 : Int32) (μ : Mem) : p_X1_about a0 a1 μ = (if a1 = (0 : Int32) then some ((μ.1 a0 0), μ) else (if a1 = (1 : Int32) then some ((μ.1 a0 1), μ) else (if a1 = (2 : Int32) then some ((μ.1 a0 4), μ) else (if a1 = (3 : Int32) then some ((μ.1 a0 5), μ) else (if a1 = (4 : Int32) then some ((μ.1 a0 6), μ) else (if a1 = (5 : Int32) then some ((μ.1 a0 3), μ) else some ((-1 : Int32), μ))))))) := Classical.choose_spec p_X1_about_ex a0 a1 μ
set_option maxHeartbeats 4000000 in
set_option maxRecDepth 100000 in
theorem t_X1_about (l : Launch) (G : Gt) (ad : Nat → Nat) (a0 : Nat) (q0 : sh 0 a0 = (0, 0)) (a1 : Int32) (μ : Mem) {r : Int32} {μz : Mem} (h : p_X1_about a0 a1 μ = some (r, μz)) : Mt l yX1_about cX1_about 2 (some .int) ({ frames := 0, cells := 0, slots := 0, locals := 0 } : Room) G [.ref (ad a0), .int a1] (wd 0 G ad μ) (eI 0 G ad r μz) := by
  refine Bk.mt (by decide) rfl (Nat.le_of_ble_eq_true rfl) ?_
  intro p e s m below meth c A ls H locs cx hr hlk hA hl hw
  have hx := cx.1
  have hb := cx.2.1
  have hl : lv_has ls 2 [(0, .ref (ad a0)), (1, .int a1)] := hl
  rw [p_X1_about_eq] at h
  refine lv_iload_n hx hb dX1_about_0 rfl (lv_at hl 1 rfl) ?_
  refine lv_topi (fun v1 ev1 => ?_)
  by_cases c2 : a1 = (0 : Int32)
  · rw [if_pos c2] at h
    have z9 := ev1.trans c2
    subst z9
    refine lv_tableIn (tgt := 40) hx hb dX1_about_1 (by decide +kernel) (by decide +kernel) rfl (by decide) ?_
    refine lv_aload_n hx hb dX1_about_40 rfl (lv_at hl 0 rfl) ?_
    refine g_get cx hw inX1 (ci := 0) rfl 0 (by decide) rfl (v := .int (μ.1 a0 0)) q0 rfl fl_X1_31 dX1_about_41 ?_
    exact g_iret cx hr hlk hw h dX1_about_44
  rw [if_neg c2] at h
  by_cases c3 : a1 = (1 : Int32)
  · rw [if_pos c3] at h
    have z9 := ev1.trans c3
    subst z9
    refine lv_tableIn (tgt := 45) hx hb dX1_about_1 (by decide +kernel) (by decide +kernel) rfl (by decide) ?_
    refine lv_aload_n hx hb dX1_about_45 rfl (lv_at hl 0 rfl) ?_
    refine g_get cx hw inX1 (ci := 0) rfl 1 (by decide) rfl (v := .int (μ.1 a0 1)) q0 rfl fl_X1_35 dX1_about_46 ?_
    exact g_iret cx hr hlk hw h dX1_about_49
  rw [if_neg c3] at h
  by_cases c4 : a1 = (2 : Int32)
  · rw [if_pos c4] at h
    have z9 := ev1.trans c4
    subst z9
    refine lv_tableIn (tgt := 50) hx hb dX1_about_1 (by decide +kernel) (by decide +kernel) rfl (by decide) ?_
    refine lv_aload_n hx hb dX1_about_50 rfl (lv_at hl 0 rfl) ?_
    refine g_get cx hw inX1 (ci := 0) rfl 4 (by decide) rfl (v := .int (μ.1 a0 4)) q0 rfl fl_X1_44 dX1_about_51 ?_
    exact g_iret cx hr hlk hw h dX1_about_54
  rw [if_neg c4] at h
  by_cases c5 : a1 = (3 : Int32)
  · rw [if_pos c5] at h
    have z9 := ev1.trans c5
    subst z9
    refine lv_tableIn (tgt := 55) hx hb dX1_about_1 (by decide +kernel) (by decide +kernel) rfl (by decide) ?_
    refine lv_aload_n hx hb dX1_about_55 rfl (lv_at hl 0 rfl) ?_
    refine g_get cx hw inX1 (ci := 0) rfl 5 (by decide) rfl (v := .int (μ.1 a0 5)) q0 rfl fl_X1_47 dX1_about_56 ?_
    exact g_iret cx hr hlk hw h dX1_about_59
  rw [if_neg c5] at h
  by_cases c6 : a1 = (4 : Int32)
  · rw [if_pos c6] at h
    have z9 := ev1.trans c6
    subst z9
    refine lv_tableIn (tgt := 60) hx hb dX1_about_1 (by decide +kernel) (by decide +kernel) rfl (by decide) ?_
    refine lv_aload_n hx hb dX1_about_60 rfl (lv_at hl 0 rfl) ?_
    refine g_get cx hw inX1 (ci := 0) rfl 6 (by decide) rfl (v := .int (μ.1 a0 6)) q0 rfl fl_X1_50 dX1_about_61 ?_
    exact g_iret cx hr hlk hw h dX1_about_64
  rw [if_neg c6] at h
  by_cases c7 : a1 = (5 : Int32)
  · rw [if_pos c7] at h
    have z9 := ev1.trans c7
    subst z9
    refine lv_tableIn (tgt := 65) hx hb dX1_about_1 (by decide +kernel) (by decide +kernel) rfl (by decide) ?_
    refine lv_aload_n hx hb dX1_about_65 rfl (lv_at hl 0 rfl) ?_
    refine g_get cx hw inX1 (ci := 0) rfl 3 (by decide) rfl (v := .int (μ.1 a0 3)) q0 rfl fl_X1_41 dX1_about_66 ?_
    exact g_iret cx hr hlk hw h dX1_about_69
  rw [if_neg c7] at h
  rw [ev1]
  refine lv_tableOut (tgt := 70) hx hb dX1_about_1 (sw_out (L := [(0 : Int32), (1 : Int32), (2 : Int32), (3 : Int32), (4 : Int32), (5 : Int32)]) (by decide +kernel) (by simp only [List.forall_mem_cons]; exact ⟨c2, c3, c4, c5, c6, c7, fun _ q => absurd q List.not_mem_nil⟩)) (by decide) ?_
  refine lv_iconst (v := (-1)) hx hb dX1_about_70 (by decide) ?_
  exact g_iret cx hr hlk hw h dX1_about_71

theorem p_X11_run_b69_ex : ∃ f : Int32 → Mem → Option (Int32 × Mem), ∀ (a2 : Int32) (μ : Mem), f a2 μ = (if (μ.1 119 0) = (0 : Int32) then bw (p_X2_copyFrom 156 122 μ) (fun μ12 => bd (p_X1_about 119 a2 μ12) (fun r15 μ14 => some (r15, μ14))) else bd (p_X1_about 119 a2 μ) (fun r11 μ10 => some (r11, μ10))) := ⟨fun (a2 : Int32) (μ : Mem) => (if (μ.1 119 0) = (0 : Int32) then bw (p_X2_copyFrom 156 122 μ) (fun μ12 => bd (p_X1_about 119 a2 μ12) (fun r15 μ14 => some (r15, μ14))) else bd (p_X1_about 119 a2 μ) (fun r11 μ10 => some (r11, μ10))), fun _ _ => rfl⟩
noncomputable def p_X11_run_b69 : Int32 → Mem → Option (Int32 × Mem) := Classical.choose p_X11_run_b69_ex
theorem p_X11_run_b69_eq (a2 : Int32) (μ : Mem) : p_X11_run_b69 a2 μ = (if (μ.1 119 0) = (0 : Int32) then bw (p_X2_copyFrom 156 122 μ) (fun μ12 => bd (p_X1_about 119 a2 μ12) (fun r15 μ14 => some (r15, μ14))) else bd (p_X1_about 119 a2 μ) (fun r11 μ10 => some (r11, μ10))) := Classical.choose_spec p_X11_run_b69_ex a2 μ
set_option maxHeartbeats 4000000 in
set_option maxRecDepth 100000 in
theorem t_X11_run_b69 (l : Launch) (G : Gt) (ad : Nat → Nat) (av : List Value) {r : Int32} {μz : Mem} (a2 : Int32) (μ : Mem) (h : p_X11_run_b69  a2 μ = some (r, μz)) : Bk l cX11_run 3 RX11 (some .int) ({ frames := 7, cells := 0, slots := 0, locals := 188 } : Room) G av (eI 0 G ad r μz) (wd 0 G ad μ) 69 [(0, .ref (ad 0)), (2, .int a2)] [] := by
  intro p e s m below meth c A ls H locs cx hr hlk hA hl hw
  have hx := cx.1
  have hb := cx.2.1
  rw [p_X11_run_b69_eq] at h
  refine lv_aload_n hx hb dX11_run_69 rfl (lv_at hl 0 rfl) ?_
  refine g_get cx hw inX11 (ci := 10) rfl 15 (by decide) rfl (v := .ref (ad 119)) shx_0 rfl fl_X11_74 dX11_run_70 ?_
  refine g_get cx hw inX1 (ci := 0) rfl 0 (by decide) rfl (v := .int (μ.1 119 0)) shx_119 rfl fl_X11_214 dX11_run_73 ?_
  refine lv_if_ne (tgt := 93) hx hb dX11_run_76 (by decide) (fun c9 => ?_) (fun c9 => ?_)
  · rw [if_neg c9] at h
    refine lv_aload_n hx hb dX11_run_93 rfl (lv_at hl 0 rfl) ?_
    refine g_get cx hw inX11 (ci := 10) rfl 15 (by decide) rfl (v := .ref (ad 119)) shx_0 rfl fl_X11_74 dX11_run_94 ?_
    refine lv_iload_n hx hb dX11_run_97 rfl (lv_at hl 1 rfl) ?_
    obtain ⟨r11, μ10, gr11, h⟩ := bd_some h
    refine g_callVI (As := [.int a2]) (rest := []) cx hw hA (t_X1_about l G ad 119 shx_119 a2 μ gr11) shx_119 rfl ml_X11_223 im_X1_about se_X1_about in_X1 co_X1_about rfl hd_X1_about rfl ⟨(Nat.le_of_ble_eq_true rfl), (Nat.le_of_ble_eq_true rfl)⟩ hl.1 rfl (Nat.le_of_ble_eq_true rfl) dX11_run_98 ⟨rfl, rfl⟩ (fun H locs hw => ?_)
    exact g_iret cx hr hlk hw h dX11_run_101
  · rw [if_pos c9] at h
    refine lv_aload_n hx hb dX11_run_79 rfl (lv_at hl 0 rfl) ?_
    refine g_get cx hw inX11 (ci := 10) rfl 18 (by decide) rfl (v := .ref (ad 156)) shx_0 rfl fl_X11_111 dX11_run_80 ?_
    refine lv_aload_n hx hb dX11_run_83 rfl (lv_at hl 0 rfl) ?_
    refine g_get cx hw inX11 (ci := 10) rfl 15 (by decide) rfl (v := .ref (ad 119)) shx_0 rfl fl_X11_74 dX11_run_84 ?_
    refine g_get cx hw inX1 (ci := 0) rfl 9 (by decide) rfl (v := .ref (ad 122)) shx_119 rfl fl_X11_217 dX11_run_87 ?_
    obtain ⟨μ12, gμ12, h⟩ := bw_some h
    refine g_callVV (As := [.ref (ad 122)]) (rest := []) cx hw hA (t_X2_copyFrom l G ad 156 shx_156 122 shx_122 μ gμ12) shx_156 rfl ml_X11_220 im_X2_copyFrom se_X2_copyFrom in_X2 co_X2_copyFrom rfl hd_X2_copyFrom rfl ⟨(Nat.le_of_ble_eq_true rfl), (Nat.le_of_ble_eq_true rfl)⟩ hl.1 rfl (Nat.le_of_ble_eq_true rfl) dX11_run_90 ⟨rfl, rfl⟩ (fun H locs hw => ?_)
    refine lv_aload_n hx hb dX11_run_93 rfl (lv_at hl 0 rfl) ?_
    refine g_get cx hw inX11 (ci := 10) rfl 15 (by decide) rfl (v := .ref (ad 119)) shx_0 rfl fl_X11_74 dX11_run_94 ?_
    refine lv_iload_n hx hb dX11_run_97 rfl (lv_at hl 1 rfl) ?_
    obtain ⟨r15, μ14, gr15, h⟩ := bd_some h
    refine g_callVI (As := [.int a2]) (rest := []) cx hw hA (t_X1_about l G ad 119 shx_119 a2 μ12 gr15) shx_119 rfl ml_X11_223 im_X1_about se_X1_about in_X1 co_X1_about rfl hd_X1_about rfl ⟨(Nat.le_of_ble_eq_true rfl), (Nat.le_of_ble_eq_true rfl)⟩ hl.1 rfl (Nat.le_of_ble_eq_true rfl) dX11_run_98 ⟨rfl, rfl⟩ (fun H locs hw => ?_)
    exact g_iret cx hr hlk hw h dX11_run_101
theorem p_X11_run_ex : ∃ f : Int32 → Int32 → Mem → Option (Int32 × Mem), ∀ (a1 : Int32) (a2 : Int32) (μ : Mem), f a1 a2 μ = (if a2 < (0 : Int32) then some ((-1 : Int32), μ) else (if (6 : Int32) ≤ a2 then some ((-1 : Int32), μ) else bd (p_X11_canRun a1 μ) (fun r4 μ3 => (if r4 = (0 : Int32) then some ((-1 : Int32), μ3) else (if a1 = (0 : Int32) then bw (p_X7_runTask (sel 2 (μ3.2.2 0 4)) (sel 1 (μ3.2.2 0 6)) (sel 1 (μ3.2.2 0 8)) 119 μ3) (fun μ16 => p_X11_run_b69  a2 μ16) else bw (p_X6_runResidue (sel 1 (μ3.2.2 0 8)) 119 μ3) (fun μ7 => p_X11_run_b69  a2 μ7)))))) := ⟨fun (a1 : Int32) (a2 : Int32) (μ : Mem) => (if a2 < (0 : Int32) then some ((-1 : Int32), μ) else (if (6 : Int32) ≤ a2 then some ((-1 : Int32), μ) else bd (p_X11_canRun a1 μ) (fun r4 μ3 => (if r4 = (0 : Int32) then some ((-1 : Int32), μ3) else (if a1 = (0 : Int32) then bw (p_X7_runTask (sel 2 (μ3.2.2 0 4)) (sel 1 (μ3.2.2 0 6)) (sel 1 (μ3.2.2 0 8)) 119 μ3) (fun μ16 => p_X11_run_b69  a2 μ16) else bw (p_X6_runResidue (sel 1 (μ3.2.2 0 8)) 119 μ3) (fun μ7 => p_X11_run_b69  a2 μ7)))))), fun _ _ _ => rfl⟩
noncomputable def p_X11_run : Int32 → Int32 → Mem → Option (Int32 × Mem) := Classical.choose p_X11_run_ex
theorem p_X11_run_eq (a1 : Int32) (a2 : Int32) (μ : Mem) : p_X11_run a1 a2 μ = (if a2 < (0 : Int32) then some ((-1 : Int32), μ) else (if (6 : Int32) ≤ a2 then some ((-1 : Int32), μ) else bd (p_X11_canRun a1 μ) (fun r4 μ3 => (if r4 = (0 : Int32) then some ((-1 : Int32), μ3) else (if a1 = (0 : Int32) then bw (p_X7_runTask (sel 2 (μ3.2.2 0 4)) (sel 1 (μ3.2.2 0 6)) (sel 1 (μ3.2.2 0 8)) 119 μ3) (fun μ16 => p_X11_run_b69  a2 μ16) else bw (p_X6_runResidue (sel 1 (μ3.2.2 0 8)) 119 μ3) (fun μ7 => p_X11_run_b69  a2 μ7)))))) := Classical.choose_spec p_X11_run_ex a1 a2 μ
set_option maxHeartbeats 4000000 in
set_option maxRecDepth 100000 in
theorem t_X11_run (l : Launch) (G : Gt) (ad : Nat → Nat) (a1 : Int32) (a2 : Int32) (μ : Mem) {r : Int32} {μz : Mem} (h : p_X11_run a1 a2 μ = some (r, μz)) : Mt l yX11_run cX11_run 3 (some .int) ({ frames := 7, cells := 0, slots := 0, locals := 188 } : Room) G [.ref (ad 0), .int a1, .int a2] (wd 0 G ad μ) (eI 0 G ad r μz) := by
  refine Bk.mt (by decide) rfl (Nat.le_of_ble_eq_true rfl) ?_
  intro p e s m below meth c A ls H locs cx hr hlk hA hl hw
  have hx := cx.1
  have hb := cx.2.1
  have hl : lv_has ls 3 [(0, .ref (ad 0)), (1, .int a1), (2, .int a2)] := hl
  rw [p_X11_run_eq] at h
  refine lv_iload_n hx hb dX11_run_0 rfl (lv_at hl 2 rfl) ?_
  refine lv_if_lt (tgt := 18) hx hb dX11_run_1 (by decide) (fun c1 => ?_) (fun c1 => ?_)
  · rw [if_pos c1] at h
    refine lv_iconst (v := (-1)) hx hb dX11_run_18 (by decide) ?_
    exact g_iret cx hr hlk hw h dX11_run_19
  · rw [if_neg c1] at h
    refine lv_iload_n hx hb dX11_run_4 rfl (lv_at hl 2 rfl) ?_
    refine lv_bipush (v := 6) hx hb dX11_run_5 (by decide) ?_
    refine lv_icmp_ge (tgt := 18) hx hb dX11_run_7 (by decide) (fun c2 => ?_) (fun c2 => ?_)
    · rw [if_pos c2] at h
      refine lv_iconst (v := (-1)) hx hb dX11_run_18 (by decide) ?_
      exact g_iret cx hr hlk hw h dX11_run_19
    · rw [if_neg c2] at h
      refine lv_aload_n hx hb dX11_run_10 rfl (lv_at hl 0 rfl) ?_
      refine lv_iload_n hx hb dX11_run_11 rfl (lv_at hl 1 rfl) ?_
      obtain ⟨r4, μ3, gr4, h⟩ := bd_some h
      refine g_callVI (As := [.int a1]) (rest := []) cx hw hA (t_X11_canRun l G ad a1 μ gr4) shx_0 rfl ml_X11_203 im_X11_canRun se_X11_canRun in_X11 co_X11_canRun rfl hd_X11_canRun rfl ⟨(Nat.le_of_ble_eq_true rfl), (Nat.le_of_ble_eq_true rfl)⟩ hl.1 rfl (Nat.le_of_ble_eq_true rfl) dX11_run_12 ⟨rfl, rfl⟩ (fun H locs hw => ?_)
      refine lv_if_ne (tgt := 20) hx hb dX11_run_15 (by decide) (fun c5 => ?_) (fun c5 => ?_)
      · rw [if_neg c5] at h
        refine lv_iload_n hx hb dX11_run_20 rfl (lv_at hl 1 rfl) ?_
        refine lv_if_ne (tgt := 50) hx hb dX11_run_21 (by decide) (fun c6 => ?_) (fun c6 => ?_)
        · rw [if_neg c6] at h
          refine lv_aload_n hx hb dX11_run_50 rfl (lv_at hl 0 rfl) ?_
          refine g_get cx hw inX11 (ci := 10) rfl 14 (by decide) rfl (v := .ref (ad 151)) shx_0 rfl fl_X11_101 dX11_run_51 ?_
          refine lv_aload_n hx hb dX11_run_54 rfl (lv_at hl 0 rfl) ?_
          refine g_get cx hw inX11 (ci := 10) rfl 12 (by decide) rfl (v := .ref (ad 39)) shx_0 rfl fl_X11_67 dX11_run_55 ?_
          refine lv_aload_n hx hb dX11_run_58 rfl (lv_at hl 0 rfl) ?_
          refine g_get cx hw inX11 (ci := 10) rfl 8 (by decide) rfl (v := .ref (ad (sel 1 (μ3.2.2 0 8)))) shx_0 rfl fl_X11_51 dX11_run_59 ?_
          refine lv_aload_n hx hb dX11_run_62 rfl (lv_at hl 0 rfl) ?_
          refine g_get cx hw inX11 (ci := 10) rfl 15 (by decide) rfl (v := .ref (ad 119)) shx_0 rfl fl_X11_74 dX11_run_63 ?_
          obtain ⟨μ7, gμ7, h⟩ := bw_some h
          refine g_callVV (As := [.ref (ad 39), .ref (ad (sel 1 (μ3.2.2 0 8))), .ref (ad 119)]) (rest := []) cx hw hA (t_X6_runResidue l G ad (sel 1 (μ3.2.2 0 8)) (sel_1 _) 119 shx_119 μ3 gμ7) shx_151 rfl ml_X11_210 im_X6_runResidue se_X6_runResidue in_X6 co_X6_runResidue rfl hd_X6_runResidue rfl ⟨(Nat.le_of_ble_eq_true rfl), (Nat.le_of_ble_eq_true rfl)⟩ hl.1 rfl (Nat.le_of_ble_eq_true rfl) dX11_run_66 ⟨rfl, rfl⟩ (fun H locs hw => ?_)
          exact t_X11_run_b69 l G ad _  a2 μ7 h p e s m below meth c A ls H locs cx hr hlk hA (lv_sub hl [0, 2] rfl) hw
        · rw [if_pos c6] at h
          refine lv_aload_n hx hb dX11_run_24 rfl (lv_at hl 0 rfl) ?_
          refine g_get cx hw inX11 (ci := 10) rfl 13 (by decide) rfl (v := .ref (ad 148)) shx_0 rfl fl_X11_92 dX11_run_25 ?_
          refine lv_aload_n hx hb dX11_run_28 rfl (lv_at hl 0 rfl) ?_
          refine g_get cx hw inX11 (ci := 10) rfl 4 (by decide) rfl (v := .ref (ad (sel 2 (μ3.2.2 0 4)))) shx_0 rfl fl_X11_23 dX11_run_29 ?_
          refine lv_aload_n hx hb dX11_run_32 rfl (lv_at hl 0 rfl) ?_
          refine g_get cx hw inX11 (ci := 10) rfl 6 (by decide) rfl (v := .ref (ad (sel 1 (μ3.2.2 0 6)))) shx_0 rfl fl_X11_44 dX11_run_33 ?_
          refine lv_aload_n hx hb dX11_run_36 rfl (lv_at hl 0 rfl) ?_
          refine g_get cx hw inX11 (ci := 10) rfl 8 (by decide) rfl (v := .ref (ad (sel 1 (μ3.2.2 0 8)))) shx_0 rfl fl_X11_51 dX11_run_37 ?_
          refine lv_aload_n hx hb dX11_run_40 rfl (lv_at hl 0 rfl) ?_
          refine g_get cx hw inX11 (ci := 10) rfl 15 (by decide) rfl (v := .ref (ad 119)) shx_0 rfl fl_X11_74 dX11_run_41 ?_
          obtain ⟨μ16, gμ16, h⟩ := bw_some h
          refine g_callVV (As := [.ref (ad (sel 2 (μ3.2.2 0 4))), .ref (ad (sel 1 (μ3.2.2 0 6))), .ref (ad (sel 1 (μ3.2.2 0 8))), .ref (ad 119)]) (rest := []) cx hw hA (t_X7_runTask l G ad (sel 2 (μ3.2.2 0 4)) (sel_2 _) (sel 1 (μ3.2.2 0 6)) (sel_1 _) (sel 1 (μ3.2.2 0 8)) (sel_1 _) 119 shx_119 μ3 gμ16) shx_148 rfl ml_X11_206 im_X7_runTask se_X7_runTask in_X7 co_X7_runTask rfl hd_X7_runTask rfl ⟨(Nat.le_of_ble_eq_true rfl), (Nat.le_of_ble_eq_true rfl)⟩ hl.1 rfl (Nat.le_of_ble_eq_true rfl) dX11_run_44 ⟨rfl, rfl⟩ (fun H locs hw => ?_)
          refine lv_goto (tgt := 69) hx hb dX11_run_47 (by decide) ?_
          exact t_X11_run_b69 l G ad _  a2 μ16 h p e s m below meth c A ls H locs cx hr hlk hA (lv_sub hl [0, 2] rfl) hw
      · rw [if_pos c5] at h
        refine lv_iconst (v := (-1)) hx hb dX11_run_18 (by decide) ?_
        exact g_iret cx hr hlk hw h dX11_run_19

theorem p_X1_keptCount_ex : ∃ f : Nat → Mem → Option (Int32 × Mem), ∀ (a0 : Nat) (μ : Mem), f a0 μ = some ((imin (μ.1 a0 4) (60 : Int32)), μ) := ⟨fun (a0 : Nat) (μ : Mem) => some ((imin (μ.1 a0 4) (60 : Int32)), μ), fun _ _ => rfl⟩
noncomputable def p_X1_keptCount : Nat → Mem → Option (Int32 × Mem) := Classical.choose p_X1_keptCount_ex
theorem p_X1_keptCount_eq (a0 : Nat) (μ : Mem) : p_X1_keptCount a0 μ = some ((imin (μ.1 a0 4) (60 : Int32)), μ) := Classical.choose_spec p_X1_keptCount_ex a0 μ
set_option maxHeartbeats 4000000 in
set_option maxRecDepth 100000 in
theorem t_X1_keptCount (l : Launch) (G : Gt) (ad : Nat → Nat) (a0 : Nat) (q0 : sh 0 a0 = (0, 0)) (μ : Mem) {r : Int32} {μz : Mem} (h : p_X1_keptCount a0 μ = some (r, μz)) : Mt l yX1_keptCount cX1_keptCount 1 (some .int) ({ frames := 1, cells := 0, slots := 0, locals := 24 } : Room) G [.ref (ad a0)] (wd 0 G ad μ) (eI 0 G ad r μz) := by
  refine Bk.mt (by decide) rfl (Nat.le_of_ble_eq_true rfl) ?_
  intro p e s m below meth c A ls H locs cx hr hlk hA hl hw
  have hx := cx.1
  have hb := cx.2.1
  have hl : lv_has ls 1 [(0, .ref (ad a0))] := hl
  rw [p_X1_keptCount_eq] at h
  refine lv_aload_n hx hb dX1_keptCount_0 rfl (lv_at hl 0 rfl) ?_
  refine g_get cx hw inX1 (ci := 0) rfl 4 (by decide) rfl (v := .int (μ.1 a0 4)) q0 rfl fl_X1_44 dX1_keptCount_1 ?_
  refine lv_bipush (v := 60) hx hb dX1_keptCount_4 (by decide) ?_
  refine r_mmin (v := (imin (μ.1 a0 4) (60 : Int32))) cx ml_X1_91 hl.1 (Nat.le_of_ble_eq_true rfl) (Nat.le_of_ble_eq_true rfl) (Nat.le_of_ble_eq_true rfl) (Nat.le_of_ble_eq_true rfl) rfl dX1_keptCount_6 ?_
  exact g_iret cx hr hlk hw h dX1_keptCount_9
