theorem p_X12_set_b51_ex : ∃ f : Int32 → Int32 → Int32 → Mem → Option (Int32 × Mem), ∀ (a1 : Int32) (a2 : Int32) (k0 : Int32) (μ : Mem), f a1 a2 k0 μ = (if k0 = (0 : Int32) then some ((0 : Int32), μ) else gd (inb a1 3) (bv (sF μ 29 a1.toNatClampNeg a2) (fun μ5 => bv (sF μ5 0 95 (0 : Int32)) (fun μ6 => some ((1 : Int32), μ6))))) := ⟨fun (a1 : Int32) (a2 : Int32) (k0 : Int32) (μ : Mem) => (if k0 = (0 : Int32) then some ((0 : Int32), μ) else gd (inb a1 3) (bv (sF μ 29 a1.toNatClampNeg a2) (fun μ5 => bv (sF μ5 0 95 (0 : Int32)) (fun μ6 => some ((1 : Int32), μ6))))), fun _ _ _ _ => rfl⟩
noncomputable def p_X12_set_b51 : Int32 → Int32 → Int32 → Mem → Option (Int32 × Mem) := Classical.choose p_X12_set_b51_ex
theorem p_X12_set_b51_eq (a1 : Int32) (a2 : Int32) (k0 : Int32) (μ : Mem) : p_X12_set_b51 a1 a2 k0 μ = (if k0 = (0 : Int32) then some ((0 : Int32), μ) else gd (inb a1 3) (bv (sF μ 29 a1.toNatClampNeg a2) (fun μ5 => bv (sF μ5 0 95 (0 : Int32)) (fun μ6 => some ((1 : Int32), μ6))))) := Classical.choose_spec p_X12_set_b51_ex a1 a2 k0 μ
set_option maxHeartbeats 4000000 in
set_option maxRecDepth 100000 in
theorem t_X12_set_b51 (l : Launch) (G : Gt) (ad : Nat → Nat) (av : List Value) {r : Int32} {μz : Mem} (a1 : Int32) (a2 : Int32) (k0 : Int32) (μ : Mem) (h : p_X12_set_b51  a1 a2 k0 μ = some (r, μz)) : Bk l cX12_set 4 RX12 (some .boolean) ({ frames := 1, cells := 0, slots := 0, locals := 22 } : Room) G av (eI 1 G ad r μz) (wd 1 G ad μ) 51 [(0, .ref (ad 0)), (1, .int a1), (2, .int a2)] [.int k0] := by
  intro p e s m below meth c A ls H locs cx hr hlk hA hl hw
  have hx := cx.1
  have hb := cx.2.1
  rw [p_X12_set_b51_eq] at h
  refine lv_istore_n (lv' := [(3, .int k0), (0, .ref (ad 0)), (1, .int a1), (2, .int a2)]) hx hb dX12_set_51 rfl hl (by decide) rfl (fun ls hl => ?_)
  refine lv_iload_n hx hb dX12_set_52 rfl (lv_at hl 0 rfl) ?_
  refine lv_if_ne (tgt := 58) hx hb dX12_set_53 (by decide) (fun c4 => ?_) (fun c4 => ?_)
  · rw [if_neg c4] at h
    refine lv_aload_n hx hb dX12_set_58 rfl (lv_at hl 1 rfl) ?_
    refine g_get cx hw inX12 (ci := 11) rfl 50 (by decide) rfl (v := .ref (ad 29)) shm_0 rfl fl_X12_102 dX12_set_59 ?_
    refine lv_iload_n hx hb dX12_set_62 rfl (lv_at hl 2 rfl) ?_
    refine lv_iload_n hx hb dX12_set_63 rfl (lv_at hl 3 rfl) ?_
    refine g_iast cx hw shm_29 h dX12_set_64 (fun μ5 H locs h hw => ?_)
    refine lv_aload_n hx hb dX12_set_65 rfl (lv_at hl 1 rfl) ?_
    refine lv_iconst (v := 0) hx hb dX12_set_66 (by decide) ?_
    refine g_put cx hw inX12 (ci := 11) rfl tyX12_ok nmX12 95 (by decide) rfl rfl rfl rfl shm_0 h fl_X12_464 dX12_set_67 (fun μ6 H locs h hw => ?_)
    refine lv_iconst (v := 1) hx hb dX12_set_70 (by decide) ?_
    exact g_zret cx hr hlk rfl hw h dX12_set_71
  · rw [if_pos c4] at h
    refine lv_iconst (v := 0) hx hb dX12_set_56 (by decide) ?_
    exact g_zret cx hr hlk rfl hw h dX12_set_57
theorem p_X12_set_b50_ex : ∃ f : Int32 → Int32 → Mem → Option (Int32 × Mem), ∀ (a1 : Int32) (a2 : Int32) (μ : Mem), f a1 a2 μ = p_X12_set_b51  a1 a2 (0 : Int32) μ := ⟨fun (a1 : Int32) (a2 : Int32) (μ : Mem) => p_X12_set_b51  a1 a2 (0 : Int32) μ, fun _ _ _ => rfl⟩
noncomputable def p_X12_set_b50 : Int32 → Int32 → Mem → Option (Int32 × Mem) := Classical.choose p_X12_set_b50_ex
theorem p_X12_set_b50_eq (a1 : Int32) (a2 : Int32) (μ : Mem) : p_X12_set_b50 a1 a2 μ = p_X12_set_b51  a1 a2 (0 : Int32) μ := Classical.choose_spec p_X12_set_b50_ex a1 a2 μ
set_option maxHeartbeats 4000000 in
set_option maxRecDepth 100000 in
theorem t_X12_set_b50 (l : Launch) (G : Gt) (ad : Nat → Nat) (av : List Value) {r : Int32} {μz : Mem} (a1 : Int32) (a2 : Int32) (μ : Mem) (h : p_X12_set_b50  a1 a2 μ = some (r, μz)) : Bk l cX12_set 4 RX12 (some .boolean) ({ frames := 1, cells := 0, slots := 0, locals := 22 } : Room) G av (eI 1 G ad r μz) (wd 1 G ad μ) 50 [(0, .ref (ad 0)), (1, .int a1), (2, .int a2)] [] := by
  intro p e s m below meth c A ls H locs cx hr hlk hA hl hw
  have hx := cx.1
  have hb := cx.2.1
  rw [p_X12_set_b50_eq] at h
  refine lv_iconst (v := 0) hx hb dX12_set_50 (by decide) ?_
  exact t_X12_set_b51 l G ad av  a1 a2 (0 : Int32) μ h p e s m below meth c A ls H locs cx hr hlk hA (lv_sub hl [0, 1, 2] rfl) hw
theorem p_X12_set_ex : ∃ f : Int32 → Int32 → Mem → Option (Int32 × Mem), ∀ (a1 : Int32) (a2 : Int32) (μ : Mem), f a1 a2 μ = (if a1 = (0 : Int32) then p_X12_set_b51  a1 a2 (s_X12_isIn a2 (0 : Int32) (12 : Int32)) μ else (if a1 = (1 : Int32) then p_X12_set_b51  a1 a2 (s_X12_isIn a2 (1 : Int32) (6 : Int32)) μ else (if a1 = (2 : Int32) then (if (s_X12_isIn a2 (10 : Int32) (300 : Int32)) = (0 : Int32) then p_X12_set_b50  a1 a2 μ else p_X12_set_b51  a1 a2 (1 : Int32) μ) else p_X12_set_b50  a1 a2 μ))) := ⟨fun (a1 : Int32) (a2 : Int32) (μ : Mem) => (if a1 = (0 : Int32) then p_X12_set_b51  a1 a2 (s_X12_isIn a2 (0 : Int32) (12 : Int32)) μ else (if a1 = (1 : Int32) then p_X12_set_b51  a1 a2 (s_X12_isIn a2 (1 : Int32) (6 : Int32)) μ else (if a1 = (2 : Int32) then (if (s_X12_isIn a2 (10 : Int32) (300 : Int32)) = (0 : Int32) then p_X12_set_b50  a1 a2 μ else p_X12_set_b51  a1 a2 (1 : Int32) μ) else p_X12_set_b50  a1 a2 μ))), fun _ _ _ => rfl⟩
noncomputable def p_X12_set : Int32 → Int32 → Mem → Option (Int32 × Mem) := Classical.choose p_X12_set_ex
theorem p_X12_set_eq (a1 : Int32) (a2 : Int32) (μ : Mem) : p_X12_set a1 a2 μ = (if a1 = (0 : Int32) then p_X12_set_b51  a1 a2 (s_X12_isIn a2 (0 : Int32) (12 : Int32)) μ else (if a1 = (1 : Int32) then p_X12_set_b51  a1 a2 (s_X12_isIn a2 (1 : Int32) (6 : Int32)) μ else (if a1 = (2 : Int32) then (if (s_X12_isIn a2 (10 : Int32) (300 : Int32)) = (0 : Int32) then p_X12_set_b50  a1 a2 μ else p_X12_set_b51  a1 a2 (1 : Int32) μ) else p_X12_set_b50  a1 a2 μ))) := Classical.choose_spec p_X12_set_ex a1 a2 μ
set_option maxHeartbeats 4000000 in
set_option maxRecDepth 100000 in
theorem t_X12_set (l : Launch) (G : Gt) (ad : Nat → Nat) (a1 : Int32) (a2 : Int32) (μ : Mem) {r : Int32} {μz : Mem} (h : p_X12_set a1 a2 μ = some (r, μz)) : Mt l yX12_set cX12_set 4 (some .boolean) ({ frames := 1, cells := 0, slots := 0, locals := 22 } : Room) G [.ref (ad 0), .int a1, .int a2] (wd 1 G ad μ) (eI 1 G ad r μz) := by
  refine Bk.mt (by decide) rfl (Nat.le_of_ble_eq_true rfl) ?_
  intro p e s m below meth c A ls H locs cx hr hlk hA hl hw
  have hx := cx.1
  have hb := cx.2.1
  have hl : lv_has ls 4 [(0, .ref (ad 0)), (1, .int a1), (2, .int a2)] := hl
  rw [p_X12_set_eq] at h
  refine lv_iload_n hx hb dX12_set_0 rfl (lv_at hl 1 rfl) ?_
  refine lv_if_ne (tgt := 14) hx hb dX12_set_1 (by decide) (fun c1 => ?_) (fun c1 => ?_)
  · rw [if_neg c1] at h
    refine lv_iload_n hx hb dX12_set_14 rfl (lv_at hl 1 rfl) ?_
    refine lv_iconst (v := 1) hx hb dX12_set_15 (by decide) ?_
    refine lv_icmp_ne (tgt := 29) hx hb dX12_set_16 (by decide) (fun c2 => ?_) (fun c2 => ?_)
    · rw [if_neg c2] at h
      refine lv_iload_n hx hb dX12_set_29 rfl (lv_at hl 1 rfl) ?_
      refine lv_iconst (v := 2) hx hb dX12_set_30 (by decide) ?_
      refine lv_icmp_ne (tgt := 50) hx hb dX12_set_31 (by decide) (fun c3 => ?_) (fun c3 => ?_)
      · rw [if_neg c3] at h
        exact t_X12_set_b50 l G ad _  a1 a2 μ h p e s m below meth c A ls H locs cx hr hlk hA (lv_sub hl [0, 1, 2] rfl) hw
      · rw [if_pos c3] at h
        refine lv_iload_n hx hb dX12_set_34 rfl (lv_at hl 2 rfl) ?_
        refine lv_bipush (v := 10) hx hb dX12_set_35 (by decide) ?_
        refine lv_sipush (v := 300) hx hb dX12_set_37 (by decide) ?_
        refine s_callI (As := [.int a2, .int 10, .int 300]) (rest := []) cx hw hA (t_X12_isIn l G a2 (10 : Int32) (300 : Int32)) ml_X12_359 st_X12_isIn in_X12 co_X12_isIn hd_X12_isIn rfl ⟨(Nat.le_of_ble_eq_true rfl), (Nat.le_of_ble_eq_true rfl)⟩ hl.1 rfl (Nat.le_of_ble_eq_true rfl) dX12_set_40 rfl (fun H locs hw => ?_)
        refine lv_if_eq (tgt := 50) hx hb dX12_set_43 (by decide) (fun c7 => ?_) (fun c7 => ?_)
        · rw [if_pos c7] at h
          exact t_X12_set_b50 l G ad _  a1 a2 μ h p e s m below meth c A ls H locs cx hr hlk hA (lv_sub hl [0, 1, 2] rfl) hw
        · rw [if_neg c7] at h
          refine lv_iconst (v := 1) hx hb dX12_set_46 (by decide) ?_
          refine lv_goto (tgt := 51) hx hb dX12_set_47 (by decide) ?_
          exact t_X12_set_b51 l G ad _  a1 a2 (1 : Int32) μ h p e s m below meth c A ls H locs cx hr hlk hA (lv_sub hl [0, 1, 2] rfl) hw
    · rw [if_pos c2] at h
      refine lv_iload_n hx hb dX12_set_19 rfl (lv_at hl 2 rfl) ?_
      refine lv_iconst (v := 1) hx hb dX12_set_20 (by decide) ?_
      refine lv_bipush (v := 6) hx hb dX12_set_21 (by decide) ?_
      refine s_callI (As := [.int a2, .int 1, .int 6]) (rest := []) cx hw hA (t_X12_isIn l G a2 (1 : Int32) (6 : Int32)) ml_X12_359 st_X12_isIn in_X12 co_X12_isIn hd_X12_isIn rfl ⟨(Nat.le_of_ble_eq_true rfl), (Nat.le_of_ble_eq_true rfl)⟩ hl.1 rfl (Nat.le_of_ble_eq_true rfl) dX12_set_23 rfl (fun H locs hw => ?_)
      refine lv_goto (tgt := 51) hx hb dX12_set_26 (by decide) ?_
      exact t_X12_set_b51 l G ad _  a1 a2 (s_X12_isIn a2 (1 : Int32) (6 : Int32)) μ h p e s m below meth c A ls H locs cx hr hlk hA (lv_sub hl [0, 1, 2] rfl) hw
  · rw [if_pos c1] at h
    refine lv_iload_n hx hb dX12_set_4 rfl (lv_at hl 2 rfl) ?_
    refine lv_iconst (v := 0) hx hb dX12_set_5 (by decide) ?_
    refine lv_bipush (v := 12) hx hb dX12_set_6 (by decide) ?_
    refine s_callI (As := [.int a2, .int 0, .int 12]) (rest := []) cx hw hA (t_X12_isIn l G a2 (0 : Int32) (12 : Int32)) ml_X12_359 st_X12_isIn in_X12 co_X12_isIn hd_X12_isIn rfl ⟨(Nat.le_of_ble_eq_true rfl), (Nat.le_of_ble_eq_true rfl)⟩ hl.1 rfl (Nat.le_of_ble_eq_true rfl) dX12_set_8 rfl (fun H locs hw => ?_)
    refine lv_goto (tgt := 51) hx hb dX12_set_11 (by decide) ?_
    exact t_X12_set_b51 l G ad _  a1 a2 (s_X12_isIn a2 (0 : Int32) (12 : Int32)) μ h p e s m below meth c A ls H locs cx hr hlk hA (lv_sub hl [0, 1, 2] rfl) hw

theorem p_X12_is_ex : ∃ f : Int32 → Mem → Option (Int32 × Mem), ∀ (a1 : Int32) (μ : Mem), f a1 μ = (if a1 = (0 : Int32) then some ((μ.1 0 17), μ) else (if a1 = (1 : Int32) then some ((μ.1 0 45), μ) else (if a1 = (2 : Int32) then some ((μ.1 0 47), μ) else (if a1 = (3 : Int32) then gd (inb (a1 - (3 : Int32)) 3) (some ((μ.1 29 (a1 - (3 : Int32)).toNatClampNeg), μ)) else (if a1 = (4 : Int32) then gd (inb (a1 - (3 : Int32)) 3) (some ((μ.1 29 (a1 - (3 : Int32)).toNatClampNeg), μ)) else (if a1 = (5 : Int32) then gd (inb (a1 - (3 : Int32)) 3) (some ((μ.1 29 (a1 - (3 : Int32)).toNatClampNeg), μ)) else (if a1 = (6 : Int32) then some ((μ.1 0 3), μ) else (if a1 = (7 : Int32) then some ((μ.1 0 18), μ) else some ((-1 : Int32), μ))))))))) := ⟨fun (a1 : Int32) (μ : Mem) => (if a1 = (0 : Int32) then some ((μ.1 0 17), μ) else (if a1 = (1 : Int32) then some ((μ.1 0 45), μ) else (if a1 = (2 : Int32) then some ((μ.1 0 47), μ) else (if a1 = (3 : Int32) then gd (inb (a1 - (3 : Int32)) 3) (some ((μ.1 29 (a1 - (3 : Int32)).toNatClampNeg), μ)) else (if a1 = (4 : Int32) then gd (inb (a1 - (3 : Int32)) 3) (some ((μ.1 29 (a1 - (3 : Int32)).toNatClampNeg), μ)) else (if a1 = (5 : Int32) then gd (inb (a1 - (3 : Int32)) 3) (some ((μ.1 29 (a1 - (3 : Int32)).toNatClampNeg), μ)) else (if a1 = (6 : Int32) then some ((μ.1 0 3), μ) else (if a1 = (7 : Int32) then some ((μ.1 0 18), μ) else some ((-1 : Int32), μ))))))))), fun _ _ => rfl⟩
noncomputable def p_X12_is : Int32 → Mem → Option (Int32 × Mem) := Classical.choose p_X12_is_ex
theorem p_X12_is_eq (a1 : Int32) (μ : Mem) : p_X12_is a1 μ = (if a1 = (0 : Int32) then some ((μ.1 0 17), μ) else (if a1 = (1 : Int32) then some ((μ.1 0 45), μ) else (if a1 = (2 : Int32) then some ((μ.1 0 47), μ) else (if a1 = (3 : Int32) then gd (inb (a1 - (3 : Int32)) 3) (some ((μ.1 29 (a1 - (3 : Int32)).toNatClampNeg), μ)) else (if a1 = (4 : Int32) then gd (inb (a1 - (3 : Int32)) 3) (some ((μ.1 29 (a1 - (3 : Int32)).toNatClampNeg), μ)) else (if a1 = (5 : Int32) then gd (inb (a1 - (3 : Int32)) 3) (some ((μ.1 29 (a1 - (3 : Int32)).toNatClampNeg), μ)) else (if a1 = (6 : Int32) then some ((μ.1 0 3), μ) else (if a1 = (7 : Int32) then some ((μ.1 0 18), μ) else some ((-1 : Int32), μ))))))))) := Classical.choose_spec p_X12_is_ex a1 μ
set_option maxHeartbeats 4000000 in
set_option maxRecDepth 100000 in
theorem t_X12_is (l : Launch) (G : Gt) (ad : Nat → Nat) (a1 : Int32) (μ : Mem) {r : Int32} {μz : Mem} (h : p_X12_is a1 μ = some (r, μz)) : Mt l yX12_is cX12_is 2 (some .int) ({ frames := 0, cells := 0, slots := 0, locals := 0 } : Room) G [.ref (ad 0), .int a1] (wd 1 G ad μ) (eI 1 G ad r μz) := by
  refine Bk.mt (by decide) rfl (Nat.le_of_ble_eq_true rfl) ?_
  intro p e s m below meth c A ls H locs cx hr hlk hA hl hw
  have hx := cx.1
  have hb := cx.2.1
  have hl : lv_has ls 2 [(0, .ref (ad 0)), (1, .int a1)] := hl
  rw [p_X12_is_eq] at h
  refine lv_iload_n hx hb dX12_is_0 rfl (lv_at hl 1 rfl) ?_
  refine lv_topi (fun v1 ev1 => ?_)
  by_cases c2 : a1 = (0 : Int32)
  · rw [if_pos c2] at h
    have z9 := ev1.trans c2
    subst z9
    refine lv_tableIn (tgt := 48) hx hb dX12_is_1 (by decide +kernel) (by decide +kernel) rfl (by decide) ?_
    refine lv_aload_n hx hb dX12_is_48 rfl (lv_at hl 0 rfl) ?_
    refine g_get cx hw inX12 (ci := 11) rfl 17 (by decide) rfl (v := .int (μ.1 0 17)) shm_0 rfl fl_X12_468 dX12_is_49 ?_
    exact g_iret cx hr hlk hw h dX12_is_52
  rw [if_neg c2] at h
  by_cases c3 : a1 = (1 : Int32)
  · rw [if_pos c3] at h
    have z9 := ev1.trans c3
    subst z9
    refine lv_tableIn (tgt := 53) hx hb dX12_is_1 (by decide +kernel) (by decide +kernel) rfl (by decide) ?_
    refine lv_aload_n hx hb dX12_is_53 rfl (lv_at hl 0 rfl) ?_
    refine g_get cx hw inX12 (ci := 11) rfl 45 (by decide) rfl (v := .int (μ.1 0 45)) shm_0 rfl fl_X12_509 dX12_is_54 ?_
    exact g_iret cx hr hlk hw h dX12_is_57
  rw [if_neg c3] at h
  by_cases c4 : a1 = (2 : Int32)
  · rw [if_pos c4] at h
    have z9 := ev1.trans c4
    subst z9
    refine lv_tableIn (tgt := 58) hx hb dX12_is_1 (by decide +kernel) (by decide +kernel) rfl (by decide) ?_
    refine lv_aload_n hx hb dX12_is_58 rfl (lv_at hl 0 rfl) ?_
    refine g_get cx hw inX12 (ci := 11) rfl 47 (by decide) rfl (v := .int (μ.1 0 47)) shm_0 rfl fl_X12_512 dX12_is_59 ?_
    exact g_iret cx hr hlk hw h dX12_is_62
  rw [if_neg c4] at h
  by_cases c5 : a1 = (3 : Int32)
  · rw [if_pos c5] at h
    have z9 := ev1.trans c5
    subst z9
    refine lv_tableIn (tgt := 63) hx hb dX12_is_1 (by decide +kernel) (by decide +kernel) rfl (by decide) ?_
    refine lv_aload_n hx hb dX12_is_63 rfl (lv_at hl 0 rfl) ?_
    refine g_get cx hw inX12 (ci := 11) rfl 50 (by decide) rfl (v := .ref (ad 29)) shm_0 rfl fl_X12_102 dX12_is_64 ?_
    refine lv_iload_n hx hb dX12_is_67 rfl (lv_at hl 1 rfl) ?_
    refine lv_iconst (v := 3) hx hb dX12_is_68 (by decide) ?_
    refine lv_isub hx hb dX12_is_69 ?_
    refine g_iald cx hw shm_29 h dX12_is_70 (fun h => ?_)
    exact g_iret cx hr hlk hw h dX12_is_71
  rw [if_neg c5] at h
  by_cases c6 : a1 = (4 : Int32)
  · rw [if_pos c6] at h
    have z9 := ev1.trans c6
    subst z9
    refine lv_tableIn (tgt := 63) hx hb dX12_is_1 (by decide +kernel) (by decide +kernel) rfl (by decide) ?_
    refine lv_aload_n hx hb dX12_is_63 rfl (lv_at hl 0 rfl) ?_
    refine g_get cx hw inX12 (ci := 11) rfl 50 (by decide) rfl (v := .ref (ad 29)) shm_0 rfl fl_X12_102 dX12_is_64 ?_
    refine lv_iload_n hx hb dX12_is_67 rfl (lv_at hl 1 rfl) ?_
    refine lv_iconst (v := 3) hx hb dX12_is_68 (by decide) ?_
    refine lv_isub hx hb dX12_is_69 ?_
    refine g_iald cx hw shm_29 h dX12_is_70 (fun h => ?_)
    exact g_iret cx hr hlk hw h dX12_is_71
  rw [if_neg c6] at h
  by_cases c7 : a1 = (5 : Int32)
  · rw [if_pos c7] at h
    have z9 := ev1.trans c7
    subst z9
    refine lv_tableIn (tgt := 63) hx hb dX12_is_1 (by decide +kernel) (by decide +kernel) rfl (by decide) ?_
    refine lv_aload_n hx hb dX12_is_63 rfl (lv_at hl 0 rfl) ?_
    refine g_get cx hw inX12 (ci := 11) rfl 50 (by decide) rfl (v := .ref (ad 29)) shm_0 rfl fl_X12_102 dX12_is_64 ?_
    refine lv_iload_n hx hb dX12_is_67 rfl (lv_at hl 1 rfl) ?_
    refine lv_iconst (v := 3) hx hb dX12_is_68 (by decide) ?_
    refine lv_isub hx hb dX12_is_69 ?_
    refine g_iald cx hw shm_29 h dX12_is_70 (fun h => ?_)
    exact g_iret cx hr hlk hw h dX12_is_71
  rw [if_neg c7] at h
  by_cases c8 : a1 = (6 : Int32)
  · rw [if_pos c8] at h
    have z9 := ev1.trans c8
    subst z9
    refine lv_tableIn (tgt := 72) hx hb dX12_is_1 (by decide +kernel) (by decide +kernel) rfl (by decide) ?_
    refine lv_aload_n hx hb dX12_is_72 rfl (lv_at hl 0 rfl) ?_
    refine g_get cx hw inX12 (ci := 11) rfl 3 (by decide) rfl (v := .int (μ.1 0 3)) shm_0 rfl fl_X12_352 dX12_is_73 ?_
    exact g_iret cx hr hlk hw h dX12_is_76
  rw [if_neg c8] at h
  by_cases c9 : a1 = (7 : Int32)
  · rw [if_pos c9] at h
    have z9 := ev1.trans c9
    subst z9
    refine lv_tableIn (tgt := 77) hx hb dX12_is_1 (by decide +kernel) (by decide +kernel) rfl (by decide) ?_
    refine lv_aload_n hx hb dX12_is_77 rfl (lv_at hl 0 rfl) ?_
    refine g_get cx hw inX12 (ci := 11) rfl 18 (by decide) rfl (v := .int (μ.1 0 18)) shm_0 rfl fl_X12_458 dX12_is_78 ?_
    exact g_iret cx hr hlk hw h dX12_is_81
  rw [if_neg c9] at h
  rw [ev1]
  refine lv_tableOut (tgt := 82) hx hb dX12_is_1 (sw_out (L := [(0 : Int32), (1 : Int32), (2 : Int32), (3 : Int32), (4 : Int32), (5 : Int32), (6 : Int32), (7 : Int32)]) (by decide +kernel) (by simp only [List.forall_mem_cons]; exact ⟨c2, c3, c4, c5, c6, c7, c8, c9, fun _ q => absurd q List.not_mem_nil⟩)) (by decide) ?_
  refine lv_iconst (v := (-1)) hx hb dX12_is_82 (by decide) ?_
  exact g_iret cx hr hlk hw h dX12_is_83

theorem p_X12_countThings_b58_ex : ∃ f : (Int32 → Int32 → Int32 → Int32 → Int32 → Mem → Option (Int32 × Mem)) → Int32 → Int32 → Int32 → Int32 → Int32 → Int32 → Mem → Option (Int32 × Mem), ∀ (K11 : Int32 → Int32 → Int32 → Int32 → Int32 → Mem → Option (Int32 × Mem)) (a1 : Int32) (a2 : Int32) (a3 : Int32) (a5 : Int32) (k0 : Int32) (k1 : Int32) (μ : Mem), f K11 a1 a2 a3 a5 k0 k1 μ = bv (k1 + k0) (fun v4 => bv (a5 + 1) (fun v5 => K11 a1 a2 a3 v4 v5 μ)) := ⟨fun (K11 : Int32 → Int32 → Int32 → Int32 → Int32 → Mem → Option (Int32 × Mem)) (a1 : Int32) (a2 : Int32) (a3 : Int32) (a5 : Int32) (k0 : Int32) (k1 : Int32) (μ : Mem) => bv (k1 + k0) (fun v4 => bv (a5 + 1) (fun v5 => K11 a1 a2 a3 v4 v5 μ)), fun _ _ _ _ _ _ _ _ => rfl⟩
noncomputable def p_X12_countThings_b58 : (Int32 → Int32 → Int32 → Int32 → Int32 → Mem → Option (Int32 × Mem)) → Int32 → Int32 → Int32 → Int32 → Int32 → Int32 → Mem → Option (Int32 × Mem) := Classical.choose p_X12_countThings_b58_ex
theorem p_X12_countThings_b58_eq (K11 : Int32 → Int32 → Int32 → Int32 → Int32 → Mem → Option (Int32 × Mem)) (a1 : Int32) (a2 : Int32) (a3 : Int32) (a5 : Int32) (k0 : Int32) (k1 : Int32) (μ : Mem) : p_X12_countThings_b58 K11 a1 a2 a3 a5 k0 k1 μ = bv (k1 + k0) (fun v4 => bv (a5 + 1) (fun v5 => K11 a1 a2 a3 v4 v5 μ)) := Classical.choose_spec p_X12_countThings_b58_ex K11 a1 a2 a3 a5 k0 k1 μ
set_option maxHeartbeats 4000000 in
set_option maxRecDepth 100000 in
theorem t_X12_countThings_b58 (l : Launch) (G : Gt) (ad : Nat → Nat) (av : List Value) {r : Int32} {μz : Mem} (K11 : Int32 → Int32 → Int32 → Int32 → Int32 → Mem → Option (Int32 × Mem)) (hK11 : ∀ (z1 : Int32) (z2 : Int32) (z3 : Int32) (z4 : Int32) (z5 : Int32) (μ1 : Mem), K11 z1 z2 z3 z4 z5 μ1 = some (r, μz) → Bk l cX12_countThings 6 RX12 (some .int) ({ frames := 0, cells := 0, slots := 0, locals := 0 } : Room) G av (eI 1 G ad r μz) (wd 1 G ad μ1) 11 [(0, .ref (ad 0)), (1, .int z1), (2, .int z2), (3, .int z3), (4, .int z4), (5, .int z5)] []) (a1 : Int32) (a2 : Int32) (a3 : Int32) (a5 : Int32) (k0 : Int32) (k1 : Int32) (μ : Mem) (h : p_X12_countThings_b58 K11 a1 a2 a3 a5 k0 k1 μ = some (r, μz)) : Bk l cX12_countThings 6 RX12 (some .int) ({ frames := 0, cells := 0, slots := 0, locals := 0 } : Room) G av (eI 1 G ad r μz) (wd 1 G ad μ) 58 [(0, .ref (ad 0)), (1, .int a1), (2, .int a2), (3, .int a3), (5, .int a5)] [.int k0, .int k1] := by
  intro p e s m below meth c A ls H locs cx hr hlk hA hl hw
  have hx := cx.1
  have hb := cx.2.1
  rw [p_X12_countThings_b58_eq] at h
  refine lv_iadd hx hb dX12_countThings_58 ?_
  obtain ⟨v4, ev4, h⟩ := bv_ex h
  refine lv_topi (fun y9 z9 => ?_)
  obtain rfl : v4 = y9 := ev4.trans z9.symm
  refine lv_istore (lv' := [(4, .int v4), (0, .ref (ad 0)), (1, .int a1), (2, .int a2), (3, .int a3), (5, .int a5)]) hx hb dX12_countThings_59 hl (by decide) rfl (fun ls hl => ?_)
  obtain ⟨v5, ev5, h⟩ := bv_ex h
  refine lv_iinc (v := v5) (lv' := [(5, .int v5), (4, .int v4), (0, .ref (ad 0)), (1, .int a1), (2, .int a2), (3, .int a3)]) hx hb dX12_countThings_61 hl (k := 5) rfl (by rw [ev5]; rfl) (by decide) rfl (fun ls hl => ?_)
  refine lv_goto (tgt := 11) hx hb dX12_countThings_64 (by decide) ?_
  exact hK11 a1 a2 a3 v4 v5 μ h p e s m below meth c A ls H locs cx hr hlk hA (lv_sub hl [2, 3, 4, 5, 1, 0] rfl) hw
theorem p_X12_countThings_b53_ex : ∃ f : (Int32 → Int32 → Int32 → Int32 → Int32 → Mem → Option (Int32 × Mem)) → Int32 → Int32 → Int32 → Int32 → Int32 → Mem → Option (Int32 × Mem), ∀ (K11 : Int32 → Int32 → Int32 → Int32 → Int32 → Mem → Option (Int32 × Mem)) (a1 : Int32) (a2 : Int32) (a3 : Int32) (a5 : Int32) (k0 : Int32) (μ : Mem), f K11 a1 a2 a3 a5 k0 μ = p_X12_countThings_b58 K11 a1 a2 a3 a5 (1 : Int32) k0 μ := ⟨fun (K11 : Int32 → Int32 → Int32 → Int32 → Int32 → Mem → Option (Int32 × Mem)) (a1 : Int32) (a2 : Int32) (a3 : Int32) (a5 : Int32) (k0 : Int32) (μ : Mem) => p_X12_countThings_b58 K11 a1 a2 a3 a5 (1 : Int32) k0 μ, fun _ _ _ _ _ _ _ => rfl⟩
noncomputable def p_X12_countThings_b53 : (Int32 → Int32 → Int32 → Int32 → Int32 → Mem → Option (Int32 × Mem)) → Int32 → Int32 → Int32 → Int32 → Int32 → Mem → Option (Int32 × Mem) := Classical.choose p_X12_countThings_b53_ex
theorem p_X12_countThings_b53_eq (K11 : Int32 → Int32 → Int32 → Int32 → Int32 → Mem → Option (Int32 × Mem)) (a1 : Int32) (a2 : Int32) (a3 : Int32) (a5 : Int32) (k0 : Int32) (μ : Mem) : p_X12_countThings_b53 K11 a1 a2 a3 a5 k0 μ = p_X12_countThings_b58 K11 a1 a2 a3 a5 (1 : Int32) k0 μ := Classical.choose_spec p_X12_countThings_b53_ex K11 a1 a2 a3 a5 k0 μ
set_option maxHeartbeats 4000000 in
set_option maxRecDepth 100000 in
theorem t_X12_countThings_b53 (l : Launch) (G : Gt) (ad : Nat → Nat) (av : List Value) {r : Int32} {μz : Mem} (K11 : Int32 → Int32 → Int32 → Int32 → Int32 → Mem → Option (Int32 × Mem)) (hK11 : ∀ (z1 : Int32) (z2 : Int32) (z3 : Int32) (z4 : Int32) (z5 : Int32) (μ1 : Mem), K11 z1 z2 z3 z4 z5 μ1 = some (r, μz) → Bk l cX12_countThings 6 RX12 (some .int) ({ frames := 0, cells := 0, slots := 0, locals := 0 } : Room) G av (eI 1 G ad r μz) (wd 1 G ad μ1) 11 [(0, .ref (ad 0)), (1, .int z1), (2, .int z2), (3, .int z3), (4, .int z4), (5, .int z5)] []) (a1 : Int32) (a2 : Int32) (a3 : Int32) (a5 : Int32) (k0 : Int32) (μ : Mem) (h : p_X12_countThings_b53 K11 a1 a2 a3 a5 k0 μ = some (r, μz)) : Bk l cX12_countThings 6 RX12 (some .int) ({ frames := 0, cells := 0, slots := 0, locals := 0 } : Room) G av (eI 1 G ad r μz) (wd 1 G ad μ) 53 [(0, .ref (ad 0)), (1, .int a1), (2, .int a2), (3, .int a3), (5, .int a5)] [.int k0] := by
  intro p e s m below meth c A ls H locs cx hr hlk hA hl hw
  have hx := cx.1
  have hb := cx.2.1
  rw [p_X12_countThings_b53_eq] at h
  refine lv_iconst (v := 1) hx hb dX12_countThings_53 (by decide) ?_
  refine lv_goto (tgt := 58) hx hb dX12_countThings_54 (by decide) ?_
  exact t_X12_countThings_b58 l G ad av K11 hK11 a1 a2 a3 a5 (1 : Int32) k0 μ h p e s m below meth c A ls H locs cx hr hlk hA (lv_sub hl [0, 1, 2, 3, 4] rfl) hw
theorem p_X12_countThings_b11_ex : ∃ f : Nat → Int32 → Int32 → Int32 → Int32 → Int32 → Mem → Option (Int32 × Mem), (∀ (a1 : Int32) (a2 : Int32) (a3 : Int32) (a4 : Int32) (a5 : Int32) (μ : Mem), f  0 a1 a2 a3 a4 a5 μ = none) ∧ (∀ (n : Nat) (a1 : Int32) (a2 : Int32) (a3 : Int32) (a4 : Int32) (a5 : Int32) (μ : Mem), f  (n + 1) a1 a2 a3 a4 a5 μ = gd (inb a1 73) (gd (inb a1 73) ((if ((μ.1 5 a1.toNatClampNeg) + (μ.1 6 a1.toNatClampNeg)) ≤ a5 then some (a4, μ) else gd (inb a5 800) ((if (μ.1 7 a5.toNatClampNeg) = a2 then p_X12_countThings_b53 (f n) a1 a2 a3 a5 a4 μ else gd (inb a5 800) ((if (μ.1 7 a5.toNatClampNeg) = a3 then p_X12_countThings_b53 (f n) a1 a2 a3 a5 a4 μ else p_X12_countThings_b58 (f n) a1 a2 a3 a5 (0 : Int32) a4 μ)))))))) := ⟨fun n => Nat.rec (fun (a1 : Int32) (a2 : Int32) (a3 : Int32) (a4 : Int32) (a5 : Int32) (μ : Mem) => none) (fun _ ih => fun (a1 : Int32) (a2 : Int32) (a3 : Int32) (a4 : Int32) (a5 : Int32) (μ : Mem) => gd (inb a1 73) (gd (inb a1 73) ((if ((μ.1 5 a1.toNatClampNeg) + (μ.1 6 a1.toNatClampNeg)) ≤ a5 then some (a4, μ) else gd (inb a5 800) ((if (μ.1 7 a5.toNatClampNeg) = a2 then p_X12_countThings_b53 (ih) a1 a2 a3 a5 a4 μ else gd (inb a5 800) ((if (μ.1 7 a5.toNatClampNeg) = a3 then p_X12_countThings_b53 (ih) a1 a2 a3 a5 a4 μ else p_X12_countThings_b58 (ih) a1 a2 a3 a5 (0 : Int32) a4 μ)))))))) n, fun  _ _ _ _ _ _ => rfl, fun  _ _ _ _ _ _ _ => rfl⟩
noncomputable def p_X12_countThings_b11 : Nat → Int32 → Int32 → Int32 → Int32 → Int32 → Mem → Option (Int32 × Mem) := Classical.choose p_X12_countThings_b11_ex
theorem p_X12_countThings_b11_z (a1 : Int32) (a2 : Int32) (a3 : Int32) (a4 : Int32) (a5 : Int32) (μ : Mem) : p_X12_countThings_b11  0 a1 a2 a3 a4 a5 μ = none := (Classical.choose_spec p_X12_countThings_b11_ex).1  a1 a2 a3 a4 a5 μ
theorem p_X12_countThings_b11_s (n : Nat) (a1 : Int32) (a2 : Int32) (a3 : Int32) (a4 : Int32) (a5 : Int32) (μ : Mem) : p_X12_countThings_b11  (n + 1) a1 a2 a3 a4 a5 μ = gd (inb a1 73) (gd (inb a1 73) ((if ((μ.1 5 a1.toNatClampNeg) + (μ.1 6 a1.toNatClampNeg)) ≤ a5 then some (a4, μ) else gd (inb a5 800) ((if (μ.1 7 a5.toNatClampNeg) = a2 then p_X12_countThings_b53 (p_X12_countThings_b11  n) a1 a2 a3 a5 a4 μ else gd (inb a5 800) ((if (μ.1 7 a5.toNatClampNeg) = a3 then p_X12_countThings_b53 (p_X12_countThings_b11  n) a1 a2 a3 a5 a4 μ else p_X12_countThings_b58 (p_X12_countThings_b11  n) a1 a2 a3 a5 (0 : Int32) a4 μ))))))) := (Classical.choose_spec p_X12_countThings_b11_ex).2  n a1 a2 a3 a4 a5 μ
set_option maxHeartbeats 4000000 in
set_option maxRecDepth 100000 in
theorem t_X12_countThings_b11 (l : Launch) (G : Gt) (ad : Nat → Nat) (av : List Value) {r : Int32} {μz : Mem} : ∀ (n : Nat) (a1 : Int32) (a2 : Int32) (a3 : Int32) (a4 : Int32) (a5 : Int32) (μ : Mem), p_X12_countThings_b11  n a1 a2 a3 a4 a5 μ = some (r, μz) → Bk l cX12_countThings 6 RX12 (some .int) ({ frames := 0, cells := 0, slots := 0, locals := 0 } : Room) G av (eI 1 G ad r μz) (wd 1 G ad μ) 11 [(0, .ref (ad 0)), (1, .int a1), (2, .int a2), (3, .int a3), (4, .int a4), (5, .int a5)] [] := by
  intro n
  induction n with
  | zero => intro a1 a2 a3 a4 a5 μ h; rw [p_X12_countThings_b11_z] at h; cases h
  | succ n ih =>
    intro a1 a2 a3 a4 a5 μ h p e s m below meth c A ls H locs cx hr hlk hA hl hw
    have hx := cx.1
    have hb := cx.2.1
    rw [p_X12_countThings_b11_s] at h
    refine lv_iload hx hb dX12_countThings_11 (lv_at hl 5 rfl) ?_
    refine lv_aload_n hx hb dX12_countThings_13 rfl (lv_at hl 0 rfl) ?_
    refine g_get cx hw inX12 (ci := 11) rfl 11 (by decide) rfl (v := .ref (ad 5)) shm_0 rfl fl_X12_27 dX12_countThings_14 ?_
    refine lv_iload_n hx hb dX12_countThings_17 rfl (lv_at hl 1 rfl) ?_
    refine g_iald cx hw shm_5 h dX12_countThings_18 (fun h => ?_)
    refine lv_aload_n hx hb dX12_countThings_19 rfl (lv_at hl 0 rfl) ?_
    refine g_get cx hw inX12 (ci := 11) rfl 12 (by decide) rfl (v := .ref (ad 6)) shm_0 rfl fl_X12_30 dX12_countThings_20 ?_
    refine lv_iload_n hx hb dX12_countThings_23 rfl (lv_at hl 1 rfl) ?_
    refine g_iald cx hw shm_6 h dX12_countThings_24 (fun h => ?_)
    refine lv_iadd hx hb dX12_countThings_25 ?_
    refine lv_icmp_ge (tgt := 67) hx hb dX12_countThings_26 (by decide) (fun c2 => ?_) (fun c2 => ?_)
    · rw [if_pos c2] at h
      refine lv_iload hx hb dX12_countThings_67 (lv_at hl 4 rfl) ?_
      exact g_iret cx hr hlk hw h dX12_countThings_69
    · rw [if_neg c2] at h
      refine lv_iload hx hb dX12_countThings_29 (lv_at hl 4 rfl) ?_
      refine lv_aload_n hx hb dX12_countThings_31 rfl (lv_at hl 0 rfl) ?_
      refine g_get cx hw inX12 (ci := 11) rfl 13 (by decide) rfl (v := .ref (ad 7)) shm_0 rfl fl_X12_33 dX12_countThings_32 ?_
      refine lv_iload hx hb dX12_countThings_35 (lv_at hl 5 rfl) ?_
      refine g_iald cx hw shm_7 h dX12_countThings_37 (fun h => ?_)
      refine lv_iload_n hx hb dX12_countThings_38 rfl (lv_at hl 2 rfl) ?_
      refine lv_icmp_eq (tgt := 53) hx hb dX12_countThings_39 (by decide) (fun c3 => ?_) (fun c3 => ?_)
      · rw [if_pos c3] at h
        exact t_X12_countThings_b53 l G ad av _ ih a1 a2 a3 a5 a4 μ h p e s m below meth c A ls H locs cx hr hlk hA (lv_sub hl [0, 1, 2, 3, 5] rfl) hw
      · rw [if_neg c3] at h
        refine lv_aload_n hx hb dX12_countThings_42 rfl (lv_at hl 0 rfl) ?_
        refine g_get cx hw inX12 (ci := 11) rfl 13 (by decide) rfl (v := .ref (ad 7)) shm_0 rfl fl_X12_33 dX12_countThings_43 ?_
        refine lv_iload hx hb dX12_countThings_46 (lv_at hl 5 rfl) ?_
        refine g_iald cx hw shm_7 h dX12_countThings_48 (fun h => ?_)
        refine lv_iload_n hx hb dX12_countThings_49 rfl (lv_at hl 3 rfl) ?_
        refine lv_icmp_ne (tgt := 57) hx hb dX12_countThings_50 (by decide) (fun c6 => ?_) (fun c6 => ?_)
        · rw [if_neg c6] at h
          refine lv_iconst (v := 0) hx hb dX12_countThings_57 (by decide) ?_
          exact t_X12_countThings_b58 l G ad av _ ih a1 a2 a3 a5 (0 : Int32) a4 μ h p e s m below meth c A ls H locs cx hr hlk hA (lv_sub hl [0, 1, 2, 3, 5] rfl) hw
        · rw [if_pos c6] at h
          exact t_X12_countThings_b53 l G ad av _ ih a1 a2 a3 a5 a4 μ h p e s m below meth c A ls H locs cx hr hlk hA (lv_sub hl [0, 1, 2, 3, 5] rfl) hw
theorem p_X12_countThings_ex : ∃ f : Int32 → Int32 → Int32 → Mem → Option (Int32 × Mem), ∀ (a1 : Int32) (a2 : Int32) (a3 : Int32) (μ : Mem), f a1 a2 a3 μ = gd (inb a1 73) (bv (μ.1 5 a1.toNatClampNeg) (fun v1 => p_X12_countThings_b11  FUEL a1 a2 a3 (0 : Int32) v1 μ)) := ⟨fun (a1 : Int32) (a2 : Int32) (a3 : Int32) (μ : Mem) => gd (inb a1 73) (bv (μ.1 5 a1.toNatClampNeg) (fun v1 => p_X12_countThings_b11  FUEL a1 a2 a3 (0 : Int32) v1 μ)), fun _ _ _ _ => rfl⟩
noncomputable def p_X12_countThings : Int32 → Int32 → Int32 → Mem → Option (Int32 × Mem) := Classical.choose p_X12_countThings_ex
theorem p_X12_countThings_eq (a1 : Int32) (a2 : Int32) (a3 : Int32) (μ : Mem) : p_X12_countThings a1 a2 a3 μ = gd (inb a1 73) (bv (μ.1 5 a1.toNatClampNeg) (fun v1 => p_X12_countThings_b11  FUEL a1 a2 a3 (0 : Int32) v1 μ)) := Classical.choose_spec p_X12_countThings_ex a1 a2 a3 μ
set_option maxHeartbeats 4000000 in
set_option maxRecDepth 100000 in
theorem t_X12_countThings (l : Launch) (G : Gt) (ad : Nat → Nat) (a1 : Int32) (a2 : Int32) (a3 : Int32) (μ : Mem) {r : Int32} {μz : Mem} (h : p_X12_countThings a1 a2 a3 μ = some (r, μz)) : Mt l yX12_countThings cX12_countThings 6 (some .int) ({ frames := 0, cells := 0, slots := 0, locals := 0 } : Room) G [.ref (ad 0), .int a1, .int a2, .int a3] (wd 1 G ad μ) (eI 1 G ad r μz) := by
  refine Bk.mt (by decide) rfl (Nat.le_of_ble_eq_true rfl) ?_
  intro p e s m below meth c A ls H locs cx hr hlk hA hl hw
  have hx := cx.1
  have hb := cx.2.1
  have hl : lv_has ls 6 [(0, .ref (ad 0)), (1, .int a1), (2, .int a2), (3, .int a3)] := hl
  rw [p_X12_countThings_eq] at h
  refine lv_iconst (v := 0) hx hb dX12_countThings_0 (by decide) ?_
  refine lv_istore (lv' := [(4, .int 0), (0, .ref (ad 0)), (1, .int a1), (2, .int a2), (3, .int a3)]) hx hb dX12_countThings_1 hl (by decide) rfl (fun ls hl => ?_)
  refine lv_aload_n hx hb dX12_countThings_3 rfl (lv_at hl 1 rfl) ?_
  refine g_get cx hw inX12 (ci := 11) rfl 11 (by decide) rfl (v := .ref (ad 5)) shm_0 rfl fl_X12_27 dX12_countThings_4 ?_
  refine lv_iload_n hx hb dX12_countThings_7 rfl (lv_at hl 2 rfl) ?_
  refine g_iald cx hw shm_5 h dX12_countThings_8 (fun h => ?_)
  obtain ⟨v1, ev1, h⟩ := bv_ex h
  refine lv_topi (fun y9 z9 => ?_)
  obtain rfl : v1 = y9 := ev1.trans z9.symm
  refine lv_istore (lv' := [(5, .int v1), (4, .int 0), (0, .ref (ad 0)), (1, .int a1), (2, .int a2), (3, .int a3)]) hx hb dX12_countThings_9 hl (by decide) rfl (fun ls hl => ?_)
  exact t_X12_countThings_b11 l G ad _  FUEL a1 a2 a3 (0 : Int32) v1 μ h p e s m below meth c A ls H locs cx hr hlk hA (lv_sub hl [2, 3, 4, 5, 1, 0] rfl) hw

theorem p_X12_function_ex : ∃ f : Int32 → Int32 → Mem → Option (Int32 × Mem), ∀ (a1 : Int32) (a2 : Int32) (μ : Mem), f a1 a2 μ = (if (s_X12_isIn a1 (0 : Int32) ((μ.1 0 17) - (1 : Int32))) = (0 : Int32) then some ((-1 : Int32), μ) else (if a2 = (0 : Int32) then gd (inb a1 73) (some ((μ.1 2 a1.toNatClampNeg), μ)) else (if a2 = (1 : Int32) then gd (inb a1 73) (some ((μ.1 3 a1.toNatClampNeg), μ)) else (if a2 = (2 : Int32) then gd (inb a1 73) (some ((μ.1 6 a1.toNatClampNeg), μ)) else (if a2 = (3 : Int32) then bd (p_X12_countThings a1 (12 : Int32) (12 : Int32) μ) (fun r8 μ7 => some (r8, μ7)) else (if a2 = (4 : Int32) then bd (p_X12_countThings a1 (8 : Int32) (8 : Int32) μ) (fun r11 μ10 => some (r11, μ10)) else (if a2 = (5 : Int32) then bd (p_X12_countThings a1 (9 : Int32) (10 : Int32) μ) (fun r14 μ13 => some (r14, μ13)) else some ((-1 : Int32), μ)))))))) := ⟨fun (a1 : Int32) (a2 : Int32) (μ : Mem) => (if (s_X12_isIn a1 (0 : Int32) ((μ.1 0 17) - (1 : Int32))) = (0 : Int32) then some ((-1 : Int32), μ) else (if a2 = (0 : Int32) then gd (inb a1 73) (some ((μ.1 2 a1.toNatClampNeg), μ)) else (if a2 = (1 : Int32) then gd (inb a1 73) (some ((μ.1 3 a1.toNatClampNeg), μ)) else (if a2 = (2 : Int32) then gd (inb a1 73) (some ((μ.1 6 a1.toNatClampNeg), μ)) else (if a2 = (3 : Int32) then bd (p_X12_countThings a1 (12 : Int32) (12 : Int32) μ) (fun r8 μ7 => some (r8, μ7)) else (if a2 = (4 : Int32) then bd (p_X12_countThings a1 (8 : Int32) (8 : Int32) μ) (fun r11 μ10 => some (r11, μ10)) else (if a2 = (5 : Int32) then bd (p_X12_countThings a1 (9 : Int32) (10 : Int32) μ) (fun r14 μ13 => some (r14, μ13)) else some ((-1 : Int32), μ)))))))), fun _ _ _ => rfl⟩
noncomputable def p_X12_function : Int32 → Int32 → Mem → Option (Int32 × Mem) := Classical.choose p_X12_function_ex
theorem p_X12_function_eq (a1 : Int32) (a2 : Int32) (μ : Mem) : p_X12_function a1 a2 μ = (if (s_X12_isIn a1 (0 : Int32) ((μ.1 0 17) - (1 : Int32))) = (0 : Int32) then some ((-1 : Int32), μ) else (if a2 = (0 : Int32) then gd (inb a1 73) (some ((μ.1 2 a1.toNatClampNeg), μ)) else (if a2 = (1 : Int32) then gd (inb a1 73) (some ((μ.1 3 a1.toNatClampNeg), μ)) else (if a2 = (2 : Int32) then gd (inb a1 73) (some ((μ.1 6 a1.toNatClampNeg), μ)) else (if a2 = (3 : Int32) then bd (p_X12_countThings a1 (12 : Int32) (12 : Int32) μ) (fun r8 μ7 => some (r8, μ7)) else (if a2 = (4 : Int32) then bd (p_X12_countThings a1 (8 : Int32) (8 : Int32) μ) (fun r11 μ10 => some (r11, μ10)) else (if a2 = (5 : Int32) then bd (p_X12_countThings a1 (9 : Int32) (10 : Int32) μ) (fun r14 μ13 => some (r14, μ13)) else some ((-1 : Int32), μ)))))))) := Classical.choose_spec p_X12_function_ex a1 a2 μ
set_option maxHeartbeats 4000000 in
set_option maxRecDepth 100000 in
theorem t_X12_function (l : Launch) (G : Gt) (ad : Nat → Nat) (a1 : Int32) (a2 : Int32) (μ : Mem) {r : Int32} {μz : Mem} (h : p_X12_function a1 a2 μ = some (r, μz)) : Mt l yX12_function cX12_function 3 (some .int) ({ frames := 1, cells := 0, slots := 0, locals := 25 } : Room) G [.ref (ad 0), .int a1, .int a2] (wd 1 G ad μ) (eI 1 G ad r μz) := by
  refine Bk.mt (by decide) rfl (Nat.le_of_ble_eq_true rfl) ?_
  intro p e s m below meth c A ls H locs cx hr hlk hA hl hw
  have hx := cx.1
  have hb := cx.2.1
  have hl : lv_has ls 3 [(0, .ref (ad 0)), (1, .int a1), (2, .int a2)] := hl
  rw [p_X12_function_eq] at h
  refine lv_iload_n hx hb dX12_function_0 rfl (lv_at hl 1 rfl) ?_
  refine lv_iconst (v := 0) hx hb dX12_function_1 (by decide) ?_
  refine lv_aload_n hx hb dX12_function_2 rfl (lv_at hl 0 rfl) ?_
  refine g_get cx hw inX12 (ci := 11) rfl 17 (by decide) rfl (v := .int (μ.1 0 17)) shm_0 rfl fl_X12_468 dX12_function_3 ?_
  refine lv_iconst (v := 1) hx hb dX12_function_6 (by decide) ?_
  refine lv_isub hx hb dX12_function_7 ?_
  refine s_callI (As := [.int a1, .int 0, .int ((μ.1 0 17) - (1 : Int32))]) (rest := []) cx hw hA (t_X12_isIn l G a1 (0 : Int32) ((μ.1 0 17) - (1 : Int32))) ml_X12_359 st_X12_isIn in_X12 co_X12_isIn hd_X12_isIn rfl ⟨(Nat.le_of_ble_eq_true rfl), (Nat.le_of_ble_eq_true rfl)⟩ hl.1 rfl (Nat.le_of_ble_eq_true rfl) dX12_function_8 rfl (fun H locs hw => ?_)
  refine lv_if_ne (tgt := 16) hx hb dX12_function_11 (by decide) (fun c1 => ?_) (fun c1 => ?_)
  · rw [if_neg c1] at h
    refine lv_iload_n hx hb dX12_function_16 rfl (lv_at hl 2 rfl) ?_
    refine lv_topi (fun v2 ev2 => ?_)
    by_cases c3 : a2 = (0 : Int32)
    · rw [if_pos c3] at h
      have z9 := ev2.trans c3
      subst z9
      refine lv_tableIn (tgt := 56) hx hb dX12_function_17 (by decide +kernel) (by decide +kernel) rfl (by decide) ?_
      refine lv_aload_n hx hb dX12_function_56 rfl (lv_at hl 0 rfl) ?_
      refine g_get cx hw inX12 (ci := 11) rfl 8 (by decide) rfl (v := .ref (ad 2)) shm_0 rfl fl_X12_17 dX12_function_57 ?_
      refine lv_iload_n hx hb dX12_function_60 rfl (lv_at hl 1 rfl) ?_
      refine g_iald cx hw shm_2 h dX12_function_61 (fun h => ?_)
      exact g_iret cx hr hlk hw h dX12_function_62
    rw [if_neg c3] at h
    by_cases c4 : a2 = (1 : Int32)
    · rw [if_pos c4] at h
      have z9 := ev2.trans c4
      subst z9
      refine lv_tableIn (tgt := 63) hx hb dX12_function_17 (by decide +kernel) (by decide +kernel) rfl (by decide) ?_
      refine lv_aload_n hx hb dX12_function_63 rfl (lv_at hl 0 rfl) ?_
      refine g_get cx hw inX12 (ci := 11) rfl 9 (by decide) rfl (v := .ref (ad 3)) shm_0 rfl fl_X12_21 dX12_function_64 ?_
      refine lv_iload_n hx hb dX12_function_67 rfl (lv_at hl 1 rfl) ?_
      refine g_iald cx hw shm_3 h dX12_function_68 (fun h => ?_)
      exact g_iret cx hr hlk hw h dX12_function_69
    rw [if_neg c4] at h
    by_cases c5 : a2 = (2 : Int32)
    · rw [if_pos c5] at h
      have z9 := ev2.trans c5
      subst z9
      refine lv_tableIn (tgt := 70) hx hb dX12_function_17 (by decide +kernel) (by decide +kernel) rfl (by decide) ?_
      refine lv_aload_n hx hb dX12_function_70 rfl (lv_at hl 0 rfl) ?_
      refine g_get cx hw inX12 (ci := 11) rfl 12 (by decide) rfl (v := .ref (ad 6)) shm_0 rfl fl_X12_30 dX12_function_71 ?_
      refine lv_iload_n hx hb dX12_function_74 rfl (lv_at hl 1 rfl) ?_
      refine g_iald cx hw shm_6 h dX12_function_75 (fun h => ?_)
      exact g_iret cx hr hlk hw h dX12_function_76
    rw [if_neg c5] at h
    by_cases c6 : a2 = (3 : Int32)
    · rw [if_pos c6] at h
      have z9 := ev2.trans c6
      subst z9
      refine lv_tableIn (tgt := 77) hx hb dX12_function_17 (by decide +kernel) (by decide +kernel) rfl (by decide) ?_
      refine lv_aload_n hx hb dX12_function_77 rfl (lv_at hl 0 rfl) ?_
      refine lv_iload_n hx hb dX12_function_78 rfl (lv_at hl 1 rfl) ?_
      refine lv_bipush (v := 12) hx hb dX12_function_79 (by decide) ?_
      refine lv_bipush (v := 12) hx hb dX12_function_81 (by decide) ?_
      obtain ⟨r8, μ7, gr8, h⟩ := bd_some h
      refine g_callVI (As := [.int a1, .int 12, .int 12]) (rest := []) cx hw hA (t_X12_countThings l G ad a1 (12 : Int32) (12 : Int32) μ gr8) shm_0 rfl ml_X12_521 im_X12_countThings se_X12_countThings in_X12 co_X12_countThings rfl hd_X12_countThings rfl ⟨(Nat.le_of_ble_eq_true rfl), (Nat.le_of_ble_eq_true rfl)⟩ hl.1 rfl (Nat.le_of_ble_eq_true rfl) dX12_function_83 ⟨rfl, rfl⟩ (fun H locs hw => ?_)
      exact g_iret cx hr hlk hw h dX12_function_86
    rw [if_neg c6] at h
    by_cases c9 : a2 = (4 : Int32)
    · rw [if_pos c9] at h
      have z9 := ev2.trans c9
      subst z9
      refine lv_tableIn (tgt := 87) hx hb dX12_function_17 (by decide +kernel) (by decide +kernel) rfl (by decide) ?_
      refine lv_aload_n hx hb dX12_function_87 rfl (lv_at hl 0 rfl) ?_
      refine lv_iload_n hx hb dX12_function_88 rfl (lv_at hl 1 rfl) ?_
      refine lv_bipush (v := 8) hx hb dX12_function_89 (by decide) ?_
      refine lv_bipush (v := 8) hx hb dX12_function_91 (by decide) ?_
      obtain ⟨r11, μ10, gr11, h⟩ := bd_some h
      refine g_callVI (As := [.int a1, .int 8, .int 8]) (rest := []) cx hw hA (t_X12_countThings l G ad a1 (8 : Int32) (8 : Int32) μ gr11) shm_0 rfl ml_X12_521 im_X12_countThings se_X12_countThings in_X12 co_X12_countThings rfl hd_X12_countThings rfl ⟨(Nat.le_of_ble_eq_true rfl), (Nat.le_of_ble_eq_true rfl)⟩ hl.1 rfl (Nat.le_of_ble_eq_true rfl) dX12_function_93 ⟨rfl, rfl⟩ (fun H locs hw => ?_)
      exact g_iret cx hr hlk hw h dX12_function_96
    rw [if_neg c9] at h
    by_cases c12 : a2 = (5 : Int32)
    · rw [if_pos c12] at h
      have z9 := ev2.trans c12
      subst z9
      refine lv_tableIn (tgt := 97) hx hb dX12_function_17 (by decide +kernel) (by decide +kernel) rfl (by decide) ?_
      refine lv_aload_n hx hb dX12_function_97 rfl (lv_at hl 0 rfl) ?_
      refine lv_iload_n hx hb dX12_function_98 rfl (lv_at hl 1 rfl) ?_
      refine lv_bipush (v := 9) hx hb dX12_function_99 (by decide) ?_
      refine lv_bipush (v := 10) hx hb dX12_function_101 (by decide) ?_
      obtain ⟨r14, μ13, gr14, h⟩ := bd_some h
      refine g_callVI (As := [.int a1, .int 9, .int 10]) (rest := []) cx hw hA (t_X12_countThings l G ad a1 (9 : Int32) (10 : Int32) μ gr14) shm_0 rfl ml_X12_521 im_X12_countThings se_X12_countThings in_X12 co_X12_countThings rfl hd_X12_countThings rfl ⟨(Nat.le_of_ble_eq_true rfl), (Nat.le_of_ble_eq_true rfl)⟩ hl.1 rfl (Nat.le_of_ble_eq_true rfl) dX12_function_103 ⟨rfl, rfl⟩ (fun H locs hw => ?_)
      exact g_iret cx hr hlk hw h dX12_function_106
    rw [if_neg c12] at h
    rw [ev2]
    refine lv_tableOut (tgt := 107) hx hb dX12_function_17 (sw_out (L := [(0 : Int32), (1 : Int32), (2 : Int32), (3 : Int32), (4 : Int32), (5 : Int32)]) (by decide +kernel) (by simp only [List.forall_mem_cons]; exact ⟨c3, c4, c5, c6, c9, c12, fun _ q => absurd q List.not_mem_nil⟩)) (by decide) ?_
    refine lv_iconst (v := (-1)) hx hb dX12_function_107 (by decide) ?_
    exact g_iret cx hr hlk hw h dX12_function_108
  · rw [if_pos c1] at h
    refine lv_iconst (v := (-1)) hx hb dX12_function_14 (by decide) ?_
    exact g_iret cx hr hlk hw h dX12_function_15

theorem p_X12_node_ex : ∃ f : Int32 → Int32 → Mem → Option (Int32 × Mem), ∀ (a1 : Int32) (a2 : Int32) (μ : Mem), f a1 a2 μ = gd (inb (μ.1 0 56) 100000) (bv (sF μ 30 (μ.1 0 56).toNatClampNeg a1) (fun μ1 => gd (inb (μ1.1 0 56) 100000) (bv (sF μ1 31 (μ1.1 0 56).toNatClampNeg a2) (fun μ2 => gd (inb (μ2.1 0 56) 100000) (bv (sF μ2 32 (μ2.1 0 56).toNatClampNeg (-1 : Int32)) (fun μ3 => gd (inb (μ3.1 0 56) 100000) (bv (sF μ3 33 (μ3.1 0 56).toNatClampNeg (1 : Int32)) (fun μ4 => gd (inb (μ4.1 0 56) 100000) (bv (sF μ4 34 (μ4.1 0 56).toNatClampNeg (0 : Int32)) (fun μ5 => bv (sF μ5 0 56 ((μ5.1 0 56) + (1 : Int32))) (fun μ6 => some (((μ6.1 0 56) - (1 : Int32)), μ6)))))))))))) := ⟨fun (a1 : Int32) (a2 : Int32) (μ : Mem) => gd (inb (μ.1 0 56) 100000) (bv (sF μ 30 (μ.1 0 56).toNatClampNeg a1) (fun μ1 => gd (inb (μ1.1 0 56) 100000) (bv (sF μ1 31 (μ1.1 0 56).toNatClampNeg a2) (fun μ2 => gd (inb (μ2.1 0 56) 100000) (bv (sF μ2 32 (μ2.1 0 56).toNatClampNeg (-1 : Int32)) (fun μ3 => gd (inb (μ3.1 0 56) 100000) (bv (sF μ3 33 (μ3.1 0 56).toNatClampNeg (1 : Int32)) (fun μ4 => gd (inb (μ4.1 0 56) 100000) (bv (sF μ4 34 (μ4.1 0 56).toNatClampNeg (0 : Int32)) (fun μ5 => bv (sF μ5 0 56 ((μ5.1 0 56) + (1 : Int32))) (fun μ6 => some (((μ6.1 0 56) - (1 : Int32)), μ6)))))))))))), fun _ _ _ => rfl⟩
noncomputable def p_X12_node : Int32 → Int32 → Mem → Option (Int32 × Mem) := Classical.choose p_X12_node_ex
theorem p_X12_node_eq (a1 : Int32) (a2 : Int32) (μ : Mem) : p_X12_node a1 a2 μ = gd (inb (μ.1 0 56) 100000) (bv (sF μ 30 (μ.1 0 56).toNatClampNeg a1) (fun μ1 => gd (inb (μ1.1 0 56) 100000) (bv (sF μ1 31 (μ1.1 0 56).toNatClampNeg a2) (fun μ2 => gd (inb (μ2.1 0 56) 100000) (bv (sF μ2 32 (μ2.1 0 56).toNatClampNeg (-1 : Int32)) (fun μ3 => gd (inb (μ3.1 0 56) 100000) (bv (sF μ3 33 (μ3.1 0 56).toNatClampNeg (1 : Int32)) (fun μ4 => gd (inb (μ4.1 0 56) 100000) (bv (sF μ4 34 (μ4.1 0 56).toNatClampNeg (0 : Int32)) (fun μ5 => bv (sF μ5 0 56 ((μ5.1 0 56) + (1 : Int32))) (fun μ6 => some (((μ6.1 0 56) - (1 : Int32)), μ6)))))))))))) := Classical.choose_spec p_X12_node_ex a1 a2 μ
set_option maxHeartbeats 4000000 in
set_option maxRecDepth 100000 in
theorem t_X12_node (l : Launch) (G : Gt) (ad : Nat → Nat) (a1 : Int32) (a2 : Int32) (μ : Mem) {r : Int32} {μz : Mem} (h : p_X12_node a1 a2 μ = some (r, μz)) : Mt l yX12_node cX12_node 3 (some .int) ({ frames := 0, cells := 0, slots := 0, locals := 0 } : Room) G [.ref (ad 0), .int a1, .int a2] (wd 1 G ad μ) (eI 1 G ad r μz) := by
  refine Bk.mt (by decide) rfl (Nat.le_of_ble_eq_true rfl) ?_
  intro p e s m below meth c A ls H locs cx hr hlk hA hl hw
  have hx := cx.1
  have hb := cx.2.1
  have hl : lv_has ls 3 [(0, .ref (ad 0)), (1, .int a1), (2, .int a2)] := hl
  rw [p_X12_node_eq] at h
  refine lv_aload_n hx hb dX12_node_0 rfl (lv_at hl 0 rfl) ?_
  refine g_get cx hw inX12 (ci := 11) rfl 51 (by decide) rfl (v := .ref (ad 30)) shm_0 rfl fl_X12_106 dX12_node_1 ?_
  refine lv_aload_n hx hb dX12_node_4 rfl (lv_at hl 0 rfl) ?_
  refine g_get cx hw inX12 (ci := 11) rfl 56 (by decide) rfl (v := .int (μ.1 0 56)) shm_0 rfl fl_X12_524 dX12_node_5 ?_
  refine lv_iload_n hx hb dX12_node_8 rfl (lv_at hl 1 rfl) ?_
  refine g_iast cx hw shm_30 h dX12_node_9 (fun μ1 H locs h hw => ?_)
  refine lv_aload_n hx hb dX12_node_10 rfl (lv_at hl 0 rfl) ?_
  refine g_get cx hw inX12 (ci := 11) rfl 52 (by decide) rfl (v := .ref (ad 31)) shm_0 rfl fl_X12_109 dX12_node_11 ?_
  refine lv_aload_n hx hb dX12_node_14 rfl (lv_at hl 0 rfl) ?_
  refine g_get cx hw inX12 (ci := 11) rfl 56 (by decide) rfl (v := .int (μ1.1 0 56)) shm_0 rfl fl_X12_524 dX12_node_15 ?_
  refine lv_iload_n hx hb dX12_node_18 rfl (lv_at hl 2 rfl) ?_
  refine g_iast cx hw shm_31 h dX12_node_19 (fun μ2 H locs h hw => ?_)
  refine lv_aload_n hx hb dX12_node_20 rfl (lv_at hl 0 rfl) ?_
  refine g_get cx hw inX12 (ci := 11) rfl 53 (by decide) rfl (v := .ref (ad 32)) shm_0 rfl fl_X12_112 dX12_node_21 ?_
  refine lv_aload_n hx hb dX12_node_24 rfl (lv_at hl 0 rfl) ?_
  refine g_get cx hw inX12 (ci := 11) rfl 56 (by decide) rfl (v := .int (μ2.1 0 56)) shm_0 rfl fl_X12_524 dX12_node_25 ?_
  refine lv_iconst (v := (-1)) hx hb dX12_node_28 (by decide) ?_
  refine g_iast cx hw shm_32 h dX12_node_29 (fun μ3 H locs h hw => ?_)
  refine lv_aload_n hx hb dX12_node_30 rfl (lv_at hl 0 rfl) ?_
  refine g_get cx hw inX12 (ci := 11) rfl 54 (by decide) rfl (v := .ref (ad 33)) shm_0 rfl fl_X12_115 dX12_node_31 ?_
  refine lv_aload_n hx hb dX12_node_34 rfl (lv_at hl 0 rfl) ?_
  refine g_get cx hw inX12 (ci := 11) rfl 56 (by decide) rfl (v := .int (μ3.1 0 56)) shm_0 rfl fl_X12_524 dX12_node_35 ?_
  refine lv_iconst (v := 1) hx hb dX12_node_38 (by decide) ?_
  refine g_iast cx hw shm_33 h dX12_node_39 (fun μ4 H locs h hw => ?_)
  refine lv_aload_n hx hb dX12_node_40 rfl (lv_at hl 0 rfl) ?_
  refine g_get cx hw inX12 (ci := 11) rfl 55 (by decide) rfl (v := .ref (ad 34)) shm_0 rfl fl_X12_118 dX12_node_41 ?_
  refine lv_aload_n hx hb dX12_node_44 rfl (lv_at hl 0 rfl) ?_
  refine g_get cx hw inX12 (ci := 11) rfl 56 (by decide) rfl (v := .int (μ4.1 0 56)) shm_0 rfl fl_X12_524 dX12_node_45 ?_
  refine lv_iconst (v := 0) hx hb dX12_node_48 (by decide) ?_
  refine g_iast cx hw shm_34 h dX12_node_49 (fun μ5 H locs h hw => ?_)
  refine lv_aload_n hx hb dX12_node_50 rfl (lv_at hl 0 rfl) ?_
  refine lv_dup hx hb dX12_node_51 rfl ?_
  refine g_get cx hw inX12 (ci := 11) rfl 56 (by decide) rfl (v := .int (μ5.1 0 56)) shm_0 rfl fl_X12_524 dX12_node_52 ?_
  refine lv_iconst (v := 1) hx hb dX12_node_55 (by decide) ?_
  refine lv_iadd hx hb dX12_node_56 ?_
  refine g_put cx hw inX12 (ci := 11) rfl tyX12_ok nmX12 56 (by decide) rfl rfl rfl rfl shm_0 h fl_X12_524 dX12_node_57 (fun μ6 H locs h hw => ?_)
  refine lv_aload_n hx hb dX12_node_60 rfl (lv_at hl 0 rfl) ?_
  refine g_get cx hw inX12 (ci := 11) rfl 56 (by decide) rfl (v := .int (μ6.1 0 56)) shm_0 rfl fl_X12_524 dX12_node_61 ?_
  refine lv_iconst (v := 1) hx hb dX12_node_64 (by decide) ?_
  refine lv_isub hx hb dX12_node_65 ?_
  exact g_iret cx hr hlk hw h dX12_node_66

theorem p_X12_given_ex : ∃ f : Mem → Option (Int32 × Mem), ∀  (μ : Mem), f  μ = bd (p_X12_node (μ.1 0 0) (μ.1 0 1) μ) (fun r2 μ1 => some (r2, μ1)) := ⟨fun  (μ : Mem) => bd (p_X12_node (μ.1 0 0) (μ.1 0 1) μ) (fun r2 μ1 => some (r2, μ1)), fun _ => rfl⟩
noncomputable def p_X12_given : Mem → Option (Int32 × Mem) := Classical.choose p_X12_given_ex
theorem p_X12_given_eq  (μ : Mem) : p_X12_given  μ = bd (p_X12_node (μ.1 0 0) (μ.1 0 1) μ) (fun r2 μ1 => some (r2, μ1)) := Classical.choose_spec p_X12_given_ex  μ
set_option maxHeartbeats 4000000 in
set_option maxRecDepth 100000 in
theorem t_X12_given (l : Launch) (G : Gt) (ad : Nat → Nat)  (μ : Mem) {r : Int32} {μz : Mem} (h : p_X12_given  μ = some (r, μz)) : Mt l yX12_given cX12_given 1 (some .int) ({ frames := 1, cells := 0, slots := 0, locals := 22 } : Room) G [.ref (ad 0)] (wd 1 G ad μ) (eI 1 G ad r μz) := by
  refine Bk.mt (by decide) rfl (Nat.le_of_ble_eq_true rfl) ?_
  intro p e s m below meth c A ls H locs cx hr hlk hA hl hw
  have hx := cx.1
  have hb := cx.2.1
  have hl : lv_has ls 1 [(0, .ref (ad 0))] := hl
  rw [p_X12_given_eq] at h
  refine lv_aload_n hx hb dX12_given_0 rfl (lv_at hl 0 rfl) ?_
  refine lv_aload_n hx hb dX12_given_1 rfl (lv_at hl 0 rfl) ?_
  refine g_get cx hw inX12 (ci := 11) rfl 0 (by decide) rfl (v := .int (μ.1 0 0)) shm_0 rfl fl_X12_305 dX12_given_2 ?_
  refine lv_aload_n hx hb dX12_given_5 rfl (lv_at hl 0 rfl) ?_
  refine g_get cx hw inX12 (ci := 11) rfl 1 (by decide) rfl (v := .int (μ.1 0 1)) shm_0 rfl fl_X12_308 dX12_given_6 ?_
  obtain ⟨r2, μ1, gr2, h⟩ := bd_some h
  refine g_callVI (As := [.int (μ.1 0 0), .int (μ.1 0 1)]) (rest := []) cx hw hA (t_X12_node l G ad (μ.1 0 0) (μ.1 0 1) μ gr2) shm_0 rfl ml_X12_527 im_X12_node se_X12_node in_X12 co_X12_node rfl hd_X12_node rfl ⟨(Nat.le_of_ble_eq_true rfl), (Nat.le_of_ble_eq_true rfl)⟩ hl.1 rfl (Nat.le_of_ble_eq_true rfl) dX12_given_9 ⟨rfl, rfl⟩ (fun H locs hw => ?_)
  exact g_iret cx hr hlk hw h dX12_given_12

theorem p_X12_pair_ex : ∃ f : Int32 → Int32 → Mem → Option (Int32 × Mem), ∀ (a1 : Int32) (a2 : Int32) (μ : Mem), f a1 a2 μ = bd (p_X12_node (2 : Int32) a1 μ) (fun r2 μ1 => gd (inb r2 100000) (bv (sF μ1 32 r2.toNatClampNeg a2) (fun μ3 => gd (inb a1 100000) (gd (inb a2 100000) (bv (((1 : Int32) + (μ3.1 33 a1.toNatClampNeg)) + (μ3.1 33 a2.toNatClampNeg)) (fun v4 => gd (inb r2 100000) (bv (sF μ3 33 r2.toNatClampNeg v4) (fun μ5 => gd (inb a1 100000) (gd (inb a2 100000) ((if (μ5.1 34 a1.toNatClampNeg) ≤ (μ5.1 34 a2.toNatClampNeg) then gd (inb a2 100000) (gd (inb r2 100000) (bv (sF μ5 34 r2.toNatClampNeg ((1 : Int32) + (μ5.1 34 a2.toNatClampNeg))) (fun μ7 => some (r2, μ7)))) else gd (inb a1 100000) (gd (inb r2 100000) (bv (sF μ5 34 r2.toNatClampNeg ((1 : Int32) + (μ5.1 34 a1.toNatClampNeg))) (fun μ8 => some (r2, μ8))))))))))))))) := ⟨fun (a1 : Int32) (a2 : Int32) (μ : Mem) => bd (p_X12_node (2 : Int32) a1 μ) (fun r2 μ1 => gd (inb r2 100000) (bv (sF μ1 32 r2.toNatClampNeg a2) (fun μ3 => gd (inb a1 100000) (gd (inb a2 100000) (bv (((1 : Int32) + (μ3.1 33 a1.toNatClampNeg)) + (μ3.1 33 a2.toNatClampNeg)) (fun v4 => gd (inb r2 100000) (bv (sF μ3 33 r2.toNatClampNeg v4) (fun μ5 => gd (inb a1 100000) (gd (inb a2 100000) ((if (μ5.1 34 a1.toNatClampNeg) ≤ (μ5.1 34 a2.toNatClampNeg) then gd (inb a2 100000) (gd (inb r2 100000) (bv (sF μ5 34 r2.toNatClampNeg ((1 : Int32) + (μ5.1 34 a2.toNatClampNeg))) (fun μ7 => some (r2, μ7)))) else gd (inb a1 100000) (gd (inb r2 100000) (bv (sF μ5 34 r2.toNatClampNeg ((1 : Int32) + (μ5.1 34 a1.toNatClampNeg))) (fun μ8 => some (r2, μ8))))))))))))))), fun _ _ _ => rfl⟩
noncomputable def p_X12_pair : Int32 → Int32 → Mem → Option (Int32 × Mem) := Classical.choose p_X12_pair_ex
theorem p_X12_pair_eq (a1 : Int32) (a2 : Int32) (μ : Mem) : p_X12_pair a1 a2 μ = bd (p_X12_node (2 : Int32) a1 μ) (fun r2 μ1 => gd (inb r2 100000) (bv (sF μ1 32 r2.toNatClampNeg a2) (fun μ3 => gd (inb a1 100000) (gd (inb a2 100000) (bv (((1 : Int32) + (μ3.1 33 a1.toNatClampNeg)) + (μ3.1 33 a2.toNatClampNeg)) (fun v4 => gd (inb r2 100000) (bv (sF μ3 33 r2.toNatClampNeg v4) (fun μ5 => gd (inb a1 100000) (gd (inb a2 100000) ((if (μ5.1 34 a1.toNatClampNeg) ≤ (μ5.1 34 a2.toNatClampNeg) then gd (inb a2 100000) (gd (inb r2 100000) (bv (sF μ5 34 r2.toNatClampNeg ((1 : Int32) + (μ5.1 34 a2.toNatClampNeg))) (fun μ7 => some (r2, μ7)))) else gd (inb a1 100000) (gd (inb r2 100000) (bv (sF μ5 34 r2.toNatClampNeg ((1 : Int32) + (μ5.1 34 a1.toNatClampNeg))) (fun μ8 => some (r2, μ8))))))))))))))) := Classical.choose_spec p_X12_pair_ex a1 a2 μ
set_option maxHeartbeats 4000000 in
set_option maxRecDepth 100000 in
theorem t_X12_pair (l : Launch) (G : Gt) (ad : Nat → Nat) (a1 : Int32) (a2 : Int32) (μ : Mem) {r : Int32} {μz : Mem} (h : p_X12_pair a1 a2 μ = some (r, μz)) : Mt l yX12_pair cX12_pair 4 (some .int) ({ frames := 1, cells := 0, slots := 0, locals := 22 } : Room) G [.ref (ad 0), .int a1, .int a2] (wd 1 G ad μ) (eI 1 G ad r μz) := by
  refine Bk.mt (by decide) rfl (Nat.le_of_ble_eq_true rfl) ?_
  intro p e s m below meth c A ls H locs cx hr hlk hA hl hw
  have hx := cx.1
  have hb := cx.2.1
  have hl : lv_has ls 4 [(0, .ref (ad 0)), (1, .int a1), (2, .int a2)] := hl
  rw [p_X12_pair_eq] at h
  refine lv_aload_n hx hb dX12_pair_0 rfl (lv_at hl 0 rfl) ?_
  refine lv_iconst (v := 2) hx hb dX12_pair_1 (by decide) ?_
  refine lv_iload_n hx hb dX12_pair_2 rfl (lv_at hl 1 rfl) ?_
  obtain ⟨r2, μ1, gr2, h⟩ := bd_some h
  refine g_callVI (As := [.int 2, .int a1]) (rest := []) cx hw hA (t_X12_node l G ad (2 : Int32) a1 μ gr2) shm_0 rfl ml_X12_527 im_X12_node se_X12_node in_X12 co_X12_node rfl hd_X12_node rfl ⟨(Nat.le_of_ble_eq_true rfl), (Nat.le_of_ble_eq_true rfl)⟩ hl.1 rfl (Nat.le_of_ble_eq_true rfl) dX12_pair_3 ⟨rfl, rfl⟩ (fun H locs hw => ?_)
  refine lv_istore_n (lv' := [(3, .int r2), (0, .ref (ad 0)), (1, .int a1), (2, .int a2)]) hx hb dX12_pair_6 rfl hl (by decide) rfl (fun ls hl => ?_)
  refine lv_aload_n hx hb dX12_pair_7 rfl (lv_at hl 1 rfl) ?_
  refine g_get cx hw inX12 (ci := 11) rfl 53 (by decide) rfl (v := .ref (ad 32)) shm_0 rfl fl_X12_112 dX12_pair_8 ?_
  refine lv_iload_n hx hb dX12_pair_11 rfl (lv_at hl 0 rfl) ?_
  refine lv_iload_n hx hb dX12_pair_12 rfl (lv_at hl 3 rfl) ?_
  refine g_iast cx hw shm_32 h dX12_pair_13 (fun μ3 H locs h hw => ?_)
  refine lv_aload_n hx hb dX12_pair_14 rfl (lv_at hl 1 rfl) ?_
  refine g_get cx hw inX12 (ci := 11) rfl 54 (by decide) rfl (v := .ref (ad 33)) shm_0 rfl fl_X12_115 dX12_pair_15 ?_
  refine lv_iload_n hx hb dX12_pair_18 rfl (lv_at hl 0 rfl) ?_
  refine lv_iconst (v := 1) hx hb dX12_pair_19 (by decide) ?_
  refine lv_aload_n hx hb dX12_pair_20 rfl (lv_at hl 1 rfl) ?_
  refine g_get cx hw inX12 (ci := 11) rfl 54 (by decide) rfl (v := .ref (ad 33)) shm_0 rfl fl_X12_115 dX12_pair_21 ?_
  refine lv_iload_n hx hb dX12_pair_24 rfl (lv_at hl 2 rfl) ?_
  refine g_iald cx hw shm_33 h dX12_pair_25 (fun h => ?_)
  refine lv_iadd hx hb dX12_pair_26 ?_
  refine lv_aload_n hx hb dX12_pair_27 rfl (lv_at hl 1 rfl) ?_
  refine g_get cx hw inX12 (ci := 11) rfl 54 (by decide) rfl (v := .ref (ad 33)) shm_0 rfl fl_X12_115 dX12_pair_28 ?_
  refine lv_iload_n hx hb dX12_pair_31 rfl (lv_at hl 3 rfl) ?_
  refine g_iald cx hw shm_33 h dX12_pair_32 (fun h => ?_)
  refine lv_iadd hx hb dX12_pair_33 ?_
  obtain ⟨v4, ev4, h⟩ := bv_ex h
  refine lv_topi (fun y9 z9 => ?_)
  obtain rfl : v4 = y9 := ev4.trans z9.symm
  refine g_iast cx hw shm_33 h dX12_pair_34 (fun μ5 H locs h hw => ?_)
  refine lv_aload_n hx hb dX12_pair_35 rfl (lv_at hl 1 rfl) ?_
  refine g_get cx hw inX12 (ci := 11) rfl 55 (by decide) rfl (v := .ref (ad 34)) shm_0 rfl fl_X12_118 dX12_pair_36 ?_
  refine lv_iload_n hx hb dX12_pair_39 rfl (lv_at hl 0 rfl) ?_
  refine lv_iconst (v := 1) hx hb dX12_pair_40 (by decide) ?_
  refine lv_aload_n hx hb dX12_pair_41 rfl (lv_at hl 1 rfl) ?_
  refine g_get cx hw inX12 (ci := 11) rfl 55 (by decide) rfl (v := .ref (ad 34)) shm_0 rfl fl_X12_118 dX12_pair_42 ?_
  refine lv_iload_n hx hb dX12_pair_45 rfl (lv_at hl 2 rfl) ?_
  refine g_iald cx hw shm_34 h dX12_pair_46 (fun h => ?_)
  refine lv_aload_n hx hb dX12_pair_47 rfl (lv_at hl 1 rfl) ?_
  refine g_get cx hw inX12 (ci := 11) rfl 55 (by decide) rfl (v := .ref (ad 34)) shm_0 rfl fl_X12_118 dX12_pair_48 ?_
  refine lv_iload_n hx hb dX12_pair_51 rfl (lv_at hl 3 rfl) ?_
  refine g_iald cx hw shm_34 h dX12_pair_52 (fun h => ?_)
  refine lv_icmp_le (tgt := 65) hx hb dX12_pair_53 (by decide) (fun c6 => ?_) (fun c6 => ?_)
  · rw [if_pos c6] at h
    refine lv_aload_n hx hb dX12_pair_65 rfl (lv_at hl 1 rfl) ?_
    refine g_get cx hw inX12 (ci := 11) rfl 55 (by decide) rfl (v := .ref (ad 34)) shm_0 rfl fl_X12_118 dX12_pair_66 ?_
    refine lv_iload_n hx hb dX12_pair_69 rfl (lv_at hl 3 rfl) ?_
    refine g_iald cx hw shm_34 h dX12_pair_70 (fun h => ?_)
    refine lv_iadd hx hb dX12_pair_71 ?_
    refine g_iast cx hw shm_34 h dX12_pair_72 (fun μ7 H locs h hw => ?_)
    refine lv_iload_n hx hb dX12_pair_73 rfl (lv_at hl 0 rfl) ?_
    exact g_iret cx hr hlk hw h dX12_pair_74
  · rw [if_neg c6] at h
    refine lv_aload_n hx hb dX12_pair_56 rfl (lv_at hl 1 rfl) ?_
    refine g_get cx hw inX12 (ci := 11) rfl 55 (by decide) rfl (v := .ref (ad 34)) shm_0 rfl fl_X12_118 dX12_pair_57 ?_
    refine lv_iload_n hx hb dX12_pair_60 rfl (lv_at hl 2 rfl) ?_
    refine g_iald cx hw shm_34 h dX12_pair_61 (fun h => ?_)
    refine lv_goto (tgt := 71) hx hb dX12_pair_62 (by decide) ?_
    refine lv_iadd hx hb dX12_pair_71 ?_
    refine g_iast cx hw shm_34 h dX12_pair_72 (fun μ8 H locs h hw => ?_)
    refine lv_iload_n hx hb dX12_pair_73 rfl (lv_at hl 0 rfl) ?_
    exact g_iret cx hr hlk hw h dX12_pair_74

theorem p_X12_num_b2_ex : ∃ f : Nat → Int32 → Mem → Option (Int32 × Mem), (∀ (a2 : Int32) (μ : Mem), f  0 a2 μ = none) ∧ (∀ (n : Nat) (a2 : Int32) (μ : Mem), f  (n + 1) a2 μ = gd (inb a2 100000) ((if (μ.1 30 a2.toNatClampNeg) = (2 : Int32) then gd (inb a2 100000) (bv (μ.1 31 a2.toNatClampNeg) (fun v2 => f n v2 μ)) else some (a2, μ)))) := ⟨fun n => Nat.rec (fun (a2 : Int32) (μ : Mem) => none) (fun _ ih => fun (a2 : Int32) (μ : Mem) => gd (inb a2 100000) ((if (μ.1 30 a2.toNatClampNeg) = (2 : Int32) then gd (inb a2 100000) (bv (μ.1 31 a2.toNatClampNeg) (fun v2 => ih v2 μ)) else some (a2, μ)))) n, fun  _ _ => rfl, fun  _ _ _ => rfl⟩
noncomputable def p_X12_num_b2 : Nat → Int32 → Mem → Option (Int32 × Mem) := Classical.choose p_X12_num_b2_ex
theorem p_X12_num_b2_z (a2 : Int32) (μ : Mem) : p_X12_num_b2  0 a2 μ = none := (Classical.choose_spec p_X12_num_b2_ex).1  a2 μ
theorem p_X12_num_b2_s (n : Nat) (a2 : Int32) (μ : Mem) : p_X12_num_b2  (n + 1) a2 μ = gd (inb a2 100000) ((if (μ.1 30 a2.toNatClampNeg) = (2 : Int32) then gd (inb a2 100000) (bv (μ.1 31 a2.toNatClampNeg) (fun v2 => p_X12_num_b2  n v2 μ)) else some (a2, μ))) := (Classical.choose_spec p_X12_num_b2_ex).2  n a2 μ
set_option maxHeartbeats 4000000 in
set_option maxRecDepth 100000 in
theorem t_X12_num_b2 (l : Launch) (G : Gt) (ad : Nat → Nat) (av : List Value) {r : Int32} {μz : Mem} : ∀ (n : Nat) (a2 : Int32) (μ : Mem), p_X12_num_b2  n a2 μ = some (r, μz) → Bk l cX12_num 3 RX12 (some .int) ({ frames := 0, cells := 0, slots := 0, locals := 0 } : Room) G av (eI 1 G ad r μz) (wd 1 G ad μ) 2 [(0, .ref (ad 0)), (2, .int a2)] [] := by
  intro n
  induction n with
  | zero => intro a2 μ h; rw [p_X12_num_b2_z] at h; cases h
  | succ n ih =>
    intro a2 μ h p e s m below meth c A ls H locs cx hr hlk hA hl hw
    have hx := cx.1
    have hb := cx.2.1
    rw [p_X12_num_b2_s] at h
    refine lv_aload_n hx hb dX12_num_2 rfl (lv_at hl 0 rfl) ?_
    refine g_get cx hw inX12 (ci := 11) rfl 51 (by decide) rfl (v := .ref (ad 30)) shm_0 rfl fl_X12_106 dX12_num_3 ?_
    refine lv_iload_n hx hb dX12_num_6 rfl (lv_at hl 1 rfl) ?_
    refine g_iald cx hw shm_30 h dX12_num_7 (fun h => ?_)
    refine lv_iconst (v := 2) hx hb dX12_num_8 (by decide) ?_
    refine lv_icmp_ne (tgt := 22) hx hb dX12_num_9 (by decide) (fun c1 => ?_) (fun c1 => ?_)
    · rw [if_neg c1] at h
      refine lv_iload_n hx hb dX12_num_22 rfl (lv_at hl 1 rfl) ?_
      exact g_iret cx hr hlk hw h dX12_num_23
    · rw [if_pos c1] at h
      refine lv_aload_n hx hb dX12_num_12 rfl (lv_at hl 0 rfl) ?_
      refine g_get cx hw inX12 (ci := 11) rfl 52 (by decide) rfl (v := .ref (ad 31)) shm_0 rfl fl_X12_109 dX12_num_13 ?_
      refine lv_iload_n hx hb dX12_num_16 rfl (lv_at hl 1 rfl) ?_
      refine g_iald cx hw shm_31 h dX12_num_17 (fun h => ?_)
      obtain ⟨v2, ev2, h⟩ := bv_ex h
      refine lv_topi (fun y9 z9 => ?_)
      obtain rfl : v2 = y9 := ev2.trans z9.symm
      refine lv_istore_n (lv' := [(2, .int v2), (0, .ref (ad 0))]) hx hb dX12_num_18 rfl hl (by decide) rfl (fun ls hl => ?_)
      refine lv_goto (tgt := 2) hx hb dX12_num_19 (by decide) ?_
      exact ih v2 μ h p e s m below meth c A ls H locs cx hr hlk hA (lv_sub hl [1, 0] rfl) hw
theorem p_X12_num_ex : ∃ f : Int32 → Mem → Option (Int32 × Mem), ∀ (a1 : Int32) (μ : Mem), f a1 μ = p_X12_num_b2  FUEL a1 μ := ⟨fun (a1 : Int32) (μ : Mem) => p_X12_num_b2  FUEL a1 μ, fun _ _ => rfl⟩
noncomputable def p_X12_num : Int32 → Mem → Option (Int32 × Mem) := Classical.choose p_X12_num_ex
theorem p_X12_num_eq (a1 : Int32) (μ : Mem) : p_X12_num a1 μ = p_X12_num_b2  FUEL a1 μ := Classical.choose_spec p_X12_num_ex a1 μ
set_option maxHeartbeats 4000000 in
set_option maxRecDepth 100000 in
theorem t_X12_num (l : Launch) (G : Gt) (ad : Nat → Nat) (a1 : Int32) (μ : Mem) {r : Int32} {μz : Mem} (h : p_X12_num a1 μ = some (r, μz)) : Mt l yX12_num cX12_num 3 (some .int) ({ frames := 0, cells := 0, slots := 0, locals := 0 } : Room) G [.ref (ad 0), .int a1] (wd 1 G ad μ) (eI 1 G ad r μz) := by
  refine Bk.mt (by decide) rfl (Nat.le_of_ble_eq_true rfl) ?_
  intro p e s m below meth c A ls H locs cx hr hlk hA hl hw
  have hx := cx.1
  have hb := cx.2.1
  have hl : lv_has ls 3 [(0, .ref (ad 0)), (1, .int a1)] := hl
  rw [p_X12_num_eq] at h
  refine lv_iload_n hx hb dX12_num_0 rfl (lv_at hl 1 rfl) ?_
  refine lv_istore_n (lv' := [(2, .int a1), (0, .ref (ad 0)), (1, .int a1)]) hx hb dX12_num_1 rfl hl (by decide) rfl (fun ls hl => ?_)
  exact t_X12_num_b2 l G ad _  FUEL a1 μ h p e s m below meth c A ls H locs cx hr hlk hA (lv_sub hl [1, 0] rfl) hw

theorem p_X12_isKnown_ex : ∃ f : Int32 → Mem → Option (Int32 × Mem), ∀ (a1 : Int32) (μ : Mem), f a1 μ = gd (inb a1 100000) ((if (μ.1 30 a1.toNatClampNeg) = (3 : Int32) then some ((0 : Int32), μ) else some ((1 : Int32), μ))) := ⟨fun (a1 : Int32) (μ : Mem) => gd (inb a1 100000) ((if (μ.1 30 a1.toNatClampNeg) = (3 : Int32) then some ((0 : Int32), μ) else some ((1 : Int32), μ))), fun _ _ => rfl⟩
noncomputable def p_X12_isKnown : Int32 → Mem → Option (Int32 × Mem) := Classical.choose p_X12_isKnown_ex
theorem p_X12_isKnown_eq (a1 : Int32) (μ : Mem) : p_X12_isKnown a1 μ = gd (inb a1 100000) ((if (μ.1 30 a1.toNatClampNeg) = (3 : Int32) then some ((0 : Int32), μ) else some ((1 : Int32), μ))) := Classical.choose_spec p_X12_isKnown_ex a1 μ
set_option maxHeartbeats 4000000 in
set_option maxRecDepth 100000 in
theorem t_X12_isKnown (l : Launch) (G : Gt) (ad : Nat → Nat) (a1 : Int32) (μ : Mem) {r : Int32} {μz : Mem} (h : p_X12_isKnown a1 μ = some (r, μz)) : Mt l yX12_isKnown cX12_isKnown 2 (some .boolean) ({ frames := 0, cells := 0, slots := 0, locals := 0 } : Room) G [.ref (ad 0), .int a1] (wd 1 G ad μ) (eI 1 G ad r μz) := by
  refine Bk.mt (by decide) rfl (Nat.le_of_ble_eq_true rfl) ?_
  intro p e s m below meth c A ls H locs cx hr hlk hA hl hw
  have hx := cx.1
  have hb := cx.2.1
  have hl : lv_has ls 2 [(0, .ref (ad 0)), (1, .int a1)] := hl
  rw [p_X12_isKnown_eq] at h
  refine lv_aload_n hx hb dX12_isKnown_0 rfl (lv_at hl 0 rfl) ?_
  refine g_get cx hw inX12 (ci := 11) rfl 51 (by decide) rfl (v := .ref (ad 30)) shm_0 rfl fl_X12_106 dX12_isKnown_1 ?_
  refine lv_iload_n hx hb dX12_isKnown_4 rfl (lv_at hl 1 rfl) ?_
  refine g_iald cx hw shm_30 h dX12_isKnown_5 (fun h => ?_)
  refine lv_iconst (v := 3) hx hb dX12_isKnown_6 (by decide) ?_
  refine lv_icmp_eq (tgt := 14) hx hb dX12_isKnown_7 (by decide) (fun c1 => ?_) (fun c1 => ?_)
  · rw [if_pos c1] at h
    refine lv_iconst (v := 0) hx hb dX12_isKnown_14 (by decide) ?_
    exact g_zret cx hr hlk rfl hw h dX12_isKnown_15
  · rw [if_neg c1] at h
    refine lv_iconst (v := 1) hx hb dX12_isKnown_10 (by decide) ?_
    refine lv_goto (tgt := 15) hx hb dX12_isKnown_11 (by decide) ?_
    exact g_zret cx hr hlk rfl hw h dX12_isKnown_15

theorem p_X12_build_ex : ∃ f : Int32 → Mem → Option Mem, ∀ (a1 : Int32) (μ : Mem), f a1 μ = gd (inb (μ.1 0 58) 300) (bv (sF μ 35 (μ.1 0 58).toNatClampNeg a1) (fun μ1 => bv (sF μ1 0 58 ((μ1.1 0 58) + (1 : Int32))) (fun μ2 => some μ2))) := ⟨fun (a1 : Int32) (μ : Mem) => gd (inb (μ.1 0 58) 300) (bv (sF μ 35 (μ.1 0 58).toNatClampNeg a1) (fun μ1 => bv (sF μ1 0 58 ((μ1.1 0 58) + (1 : Int32))) (fun μ2 => some μ2))), fun _ _ => rfl⟩
noncomputable def p_X12_build : Int32 → Mem → Option Mem := Classical.choose p_X12_build_ex
theorem p_X12_build_eq (a1 : Int32) (μ : Mem) : p_X12_build a1 μ = gd (inb (μ.1 0 58) 300) (bv (sF μ 35 (μ.1 0 58).toNatClampNeg a1) (fun μ1 => bv (sF μ1 0 58 ((μ1.1 0 58) + (1 : Int32))) (fun μ2 => some μ2))) := Classical.choose_spec p_X12_build_ex a1 μ
set_option maxHeartbeats 4000000 in
set_option maxRecDepth 100000 in
theorem t_X12_build (l : Launch) (G : Gt) (ad : Nat → Nat) (a1 : Int32) (μ : Mem) {μz : Mem} (h : p_X12_build a1 μ = some μz) : Mt l yX12_build cX12_build 2 none ({ frames := 0, cells := 0, slots := 0, locals := 0 } : Room) G [.ref (ad 0), .int a1] (wd 1 G ad μ) (eV 1 G ad μz) := by
  refine Bk.mt (by decide) rfl (Nat.le_of_ble_eq_true rfl) ?_
  intro p e s m below meth c A ls H locs cx hr hlk hA hl hw
  have hx := cx.1
  have hb := cx.2.1
  have hl : lv_has ls 2 [(0, .ref (ad 0)), (1, .int a1)] := hl
  rw [p_X12_build_eq] at h
  refine lv_aload_n hx hb dX12_build_0 rfl (lv_at hl 0 rfl) ?_
  refine g_get cx hw inX12 (ci := 11) rfl 57 (by decide) rfl (v := .ref (ad 35)) shm_0 rfl fl_X12_121 dX12_build_1 ?_
  refine lv_aload_n hx hb dX12_build_4 rfl (lv_at hl 0 rfl) ?_
  refine g_get cx hw inX12 (ci := 11) rfl 58 (by decide) rfl (v := .int (μ.1 0 58)) shm_0 rfl fl_X12_530 dX12_build_5 ?_
  refine lv_iload_n hx hb dX12_build_8 rfl (lv_at hl 1 rfl) ?_
  refine g_iast cx hw shm_35 h dX12_build_9 (fun μ1 H locs h hw => ?_)
  refine lv_aload_n hx hb dX12_build_10 rfl (lv_at hl 0 rfl) ?_
  refine lv_dup hx hb dX12_build_11 rfl ?_
  refine g_get cx hw inX12 (ci := 11) rfl 58 (by decide) rfl (v := .int (μ1.1 0 58)) shm_0 rfl fl_X12_530 dX12_build_12 ?_
  refine lv_iconst (v := 1) hx hb dX12_build_15 (by decide) ?_
  refine lv_iadd hx hb dX12_build_16 ?_
  refine g_put cx hw inX12 (ci := 11) rfl tyX12_ok nmX12 58 (by decide) rfl rfl rfl rfl shm_0 h fl_X12_530 dX12_build_17 (fun μ2 H locs h hw => ?_)
  exact g_vret cx hr hlk hw h dX12_build_20

theorem p_X12_unbuild_ex : ∃ f : Mem → Option (Int32 × Mem), ∀  (μ : Mem), f  μ = bv (sF μ 0 58 ((μ.1 0 58) - (1 : Int32))) (fun μ1 => gd (inb (μ1.1 0 58) 300) (some ((μ1.1 35 (μ1.1 0 58).toNatClampNeg), μ1))) := ⟨fun  (μ : Mem) => bv (sF μ 0 58 ((μ.1 0 58) - (1 : Int32))) (fun μ1 => gd (inb (μ1.1 0 58) 300) (some ((μ1.1 35 (μ1.1 0 58).toNatClampNeg), μ1))), fun _ => rfl⟩
noncomputable def p_X12_unbuild : Mem → Option (Int32 × Mem) := Classical.choose p_X12_unbuild_ex
theorem p_X12_unbuild_eq  (μ : Mem) : p_X12_unbuild  μ = bv (sF μ 0 58 ((μ.1 0 58) - (1 : Int32))) (fun μ1 => gd (inb (μ1.1 0 58) 300) (some ((μ1.1 35 (μ1.1 0 58).toNatClampNeg), μ1))) := Classical.choose_spec p_X12_unbuild_ex  μ
set_option maxHeartbeats 4000000 in
set_option maxRecDepth 100000 in
theorem t_X12_unbuild (l : Launch) (G : Gt) (ad : Nat → Nat)  (μ : Mem) {r : Int32} {μz : Mem} (h : p_X12_unbuild  μ = some (r, μz)) : Mt l yX12_unbuild cX12_unbuild 1 (some .int) ({ frames := 0, cells := 0, slots := 0, locals := 0 } : Room) G [.ref (ad 0)] (wd 1 G ad μ) (eI 1 G ad r μz) := by
  refine Bk.mt (by decide) rfl (Nat.le_of_ble_eq_true rfl) ?_
  intro p e s m below meth c A ls H locs cx hr hlk hA hl hw
  have hx := cx.1
  have hb := cx.2.1
  have hl : lv_has ls 1 [(0, .ref (ad 0))] := hl
  rw [p_X12_unbuild_eq] at h
  refine lv_aload_n hx hb dX12_unbuild_0 rfl (lv_at hl 0 rfl) ?_
  refine lv_dup hx hb dX12_unbuild_1 rfl ?_
  refine g_get cx hw inX12 (ci := 11) rfl 58 (by decide) rfl (v := .int (μ.1 0 58)) shm_0 rfl fl_X12_530 dX12_unbuild_2 ?_
  refine lv_iconst (v := 1) hx hb dX12_unbuild_5 (by decide) ?_
  refine lv_isub hx hb dX12_unbuild_6 ?_
  refine g_put cx hw inX12 (ci := 11) rfl tyX12_ok nmX12 58 (by decide) rfl rfl rfl rfl shm_0 h fl_X12_530 dX12_unbuild_7 (fun μ1 H locs h hw => ?_)
  refine lv_aload_n hx hb dX12_unbuild_10 rfl (lv_at hl 0 rfl) ?_
  refine g_get cx hw inX12 (ci := 11) rfl 57 (by decide) rfl (v := .ref (ad 35)) shm_0 rfl fl_X12_121 dX12_unbuild_11 ?_
  refine lv_aload_n hx hb dX12_unbuild_14 rfl (lv_at hl 0 rfl) ?_
  refine g_get cx hw inX12 (ci := 11) rfl 58 (by decide) rfl (v := .int (μ1.1 0 58)) shm_0 rfl fl_X12_530 dX12_unbuild_15 ?_
  refine g_iald cx hw shm_35 h dX12_unbuild_18 (fun h => ?_)
  exact g_iret cx hr hlk hw h dX12_unbuild_19

theorem p_X12_buildOne_ex : ∃ f : Int32 → Int32 → Mem → Option Mem, ∀ (a1 : Int32) (a2 : Int32) (μ : Mem), f a1 a2 μ = (if a1 = (2 : Int32) then bd (p_X12_unbuild μ) (fun r3 μ2 => bd (p_X12_unbuild μ2) (fun r5 μ4 => bd (p_X12_pair r3 r5 μ4) (fun r7 μ6 => bw (p_X12_build r7 μ6) (fun μ8 => some μ8)))) else bd (p_X12_node a1 a2 μ) (fun r11 μ10 => bw (p_X12_build r11 μ10) (fun μ12 => some μ12))) := ⟨fun (a1 : Int32) (a2 : Int32) (μ : Mem) => (if a1 = (2 : Int32) then bd (p_X12_unbuild μ) (fun r3 μ2 => bd (p_X12_unbuild μ2) (fun r5 μ4 => bd (p_X12_pair r3 r5 μ4) (fun r7 μ6 => bw (p_X12_build r7 μ6) (fun μ8 => some μ8)))) else bd (p_X12_node a1 a2 μ) (fun r11 μ10 => bw (p_X12_build r11 μ10) (fun μ12 => some μ12))), fun _ _ _ => rfl⟩
noncomputable def p_X12_buildOne : Int32 → Int32 → Mem → Option Mem := Classical.choose p_X12_buildOne_ex
theorem p_X12_buildOne_eq (a1 : Int32) (a2 : Int32) (μ : Mem) : p_X12_buildOne a1 a2 μ = (if a1 = (2 : Int32) then bd (p_X12_unbuild μ) (fun r3 μ2 => bd (p_X12_unbuild μ2) (fun r5 μ4 => bd (p_X12_pair r3 r5 μ4) (fun r7 μ6 => bw (p_X12_build r7 μ6) (fun μ8 => some μ8)))) else bd (p_X12_node a1 a2 μ) (fun r11 μ10 => bw (p_X12_build r11 μ10) (fun μ12 => some μ12))) := Classical.choose_spec p_X12_buildOne_ex a1 a2 μ
set_option maxHeartbeats 4000000 in
set_option maxRecDepth 100000 in
theorem t_X12_buildOne (l : Launch) (G : Gt) (ad : Nat → Nat) (a1 : Int32) (a2 : Int32) (μ : Mem) {μz : Mem} (h : p_X12_buildOne a1 a2 μ = some μz) : Mt l yX12_buildOne cX12_buildOne 4 none ({ frames := 2, cells := 0, slots := 0, locals := 45 } : Room) G [.ref (ad 0), .int a1, .int a2] (wd 1 G ad μ) (eV 1 G ad μz) := by
  refine Bk.mt (by decide) rfl (Nat.le_of_ble_eq_true rfl) ?_
  intro p e s m below meth c A ls H locs cx hr hlk hA hl hw
  have hx := cx.1
  have hb := cx.2.1
  have hl : lv_has ls 4 [(0, .ref (ad 0)), (1, .int a1), (2, .int a2)] := hl
  rw [p_X12_buildOne_eq] at h
  refine lv_iload_n hx hb dX12_buildOne_0 rfl (lv_at hl 1 rfl) ?_
  refine lv_iconst (v := 2) hx hb dX12_buildOne_1 (by decide) ?_
  refine lv_icmp_eq (tgt := 16) hx hb dX12_buildOne_2 (by decide) (fun c1 => ?_) (fun c1 => ?_)
  · rw [if_pos c1] at h
    refine lv_aload_n hx hb dX12_buildOne_16 rfl (lv_at hl 0 rfl) ?_
    obtain ⟨r3, μ2, gr3, h⟩ := bd_some h
    refine g_callVI (As := []) (rest := []) cx hw hA (t_X12_unbuild l G ad μ gr3) shm_0 rfl ml_X12_536 im_X12_unbuild se_X12_unbuild in_X12 co_X12_unbuild rfl hd_X12_unbuild rfl ⟨(Nat.le_of_ble_eq_true rfl), (Nat.le_of_ble_eq_true rfl)⟩ hl.1 rfl (Nat.le_of_ble_eq_true rfl) dX12_buildOne_17 ⟨rfl, rfl⟩ (fun H locs hw => ?_)
    refine lv_istore_n (lv' := [(3, .int r3), (0, .ref (ad 0)), (1, .int a1), (2, .int a2)]) hx hb dX12_buildOne_20 rfl hl (by decide) rfl (fun ls hl => ?_)
    refine lv_aload_n hx hb dX12_buildOne_21 rfl (lv_at hl 1 rfl) ?_
    refine lv_aload_n hx hb dX12_buildOne_22 rfl (lv_at hl 1 rfl) ?_
    refine lv_iload_n hx hb dX12_buildOne_23 rfl (lv_at hl 0 rfl) ?_
    refine lv_aload_n hx hb dX12_buildOne_24 rfl (lv_at hl 1 rfl) ?_
    obtain ⟨r5, μ4, gr5, h⟩ := bd_some h
    refine g_callVI (As := []) (rest := [.int r3, .ref (ad 0), .ref (ad 0)]) cx hw hA (t_X12_unbuild l G ad μ2 gr5) shm_0 rfl ml_X12_536 im_X12_unbuild se_X12_unbuild in_X12 co_X12_unbuild rfl hd_X12_unbuild rfl ⟨(Nat.le_of_ble_eq_true rfl), (Nat.le_of_ble_eq_true rfl)⟩ hl.1 rfl (Nat.le_of_ble_eq_true rfl) dX12_buildOne_25 ⟨rfl, rfl⟩ (fun H locs hw => ?_)
    obtain ⟨r7, μ6, gr7, h⟩ := bd_some h
    refine g_callVI (As := [.int r3, .int r5]) (rest := [.ref (ad 0)]) cx hw hA (t_X12_pair l G ad r3 r5 μ4 gr7) shm_0 rfl ml_X12_539 im_X12_pair se_X12_pair in_X12 co_X12_pair rfl hd_X12_pair rfl ⟨(Nat.le_of_ble_eq_true rfl), (Nat.le_of_ble_eq_true rfl)⟩ hl.1 rfl (Nat.le_of_ble_eq_true rfl) dX12_buildOne_28 ⟨rfl, rfl⟩ (fun H locs hw => ?_)
    obtain ⟨μ8, gμ8, h⟩ := bw_some h
    refine g_callVV (As := [.int r7]) (rest := []) cx hw hA (t_X12_build l G ad r7 μ6 gμ8) shm_0 rfl ml_X12_533 im_X12_build se_X12_build in_X12 co_X12_build rfl hd_X12_build rfl ⟨(Nat.le_of_ble_eq_true rfl), (Nat.le_of_ble_eq_true rfl)⟩ hl.1 rfl (Nat.le_of_ble_eq_true rfl) dX12_buildOne_31 ⟨rfl, rfl⟩ (fun H locs hw => ?_)
    exact g_vret cx hr hlk hw h dX12_buildOne_34
  · rw [if_neg c1] at h
    refine lv_aload_n hx hb dX12_buildOne_5 rfl (lv_at hl 0 rfl) ?_
    refine lv_aload_n hx hb dX12_buildOne_6 rfl (lv_at hl 0 rfl) ?_
    refine lv_iload_n hx hb dX12_buildOne_7 rfl (lv_at hl 1 rfl) ?_
    refine lv_iload_n hx hb dX12_buildOne_8 rfl (lv_at hl 2 rfl) ?_
    obtain ⟨r11, μ10, gr11, h⟩ := bd_some h
    refine g_callVI (As := [.int a1, .int a2]) (rest := [.ref (ad 0)]) cx hw hA (t_X12_node l G ad a1 a2 μ gr11) shm_0 rfl ml_X12_527 im_X12_node se_X12_node in_X12 co_X12_node rfl hd_X12_node rfl ⟨(Nat.le_of_ble_eq_true rfl), (Nat.le_of_ble_eq_true rfl)⟩ hl.1 rfl (Nat.le_of_ble_eq_true rfl) dX12_buildOne_9 ⟨rfl, rfl⟩ (fun H locs hw => ?_)
    obtain ⟨μ12, gμ12, h⟩ := bw_some h
    refine g_callVV (As := [.int r11]) (rest := []) cx hw hA (t_X12_build l G ad r11 μ10 gμ12) shm_0 rfl ml_X12_533 im_X12_build se_X12_build in_X12 co_X12_build rfl hd_X12_build rfl ⟨(Nat.le_of_ble_eq_true rfl), (Nat.le_of_ble_eq_true rfl)⟩ hl.1 rfl (Nat.le_of_ble_eq_true rfl) dX12_buildOne_12 ⟨rfl, rfl⟩ (fun H locs hw => ?_)
    exact g_vret cx hr hlk hw h dX12_buildOne_15

theorem p_X12_buildLeaves_b40_ex : ∃ f : Nat → Int32 → Mem → Option Mem, (∀ (a1 : Int32) (μ : Mem), f  0 a1 μ = none) ∧ (∀ (n : Nat) (a1 : Int32) (μ : Mem), f  (n + 1) a1 μ = (if (μ.1 0 47) ≤ a1 then some μ else bd (p_X12_unbuild μ) (fun r6 μ5 => gd (inb a1 8) (bv (sF μ5 36 a1.toNatClampNeg r6) (fun μ7 => bv (a1 + 1) (fun v8 => f n v8 μ7)))))) := ⟨fun n => Nat.rec (fun (a1 : Int32) (μ : Mem) => none) (fun _ ih => fun (a1 : Int32) (μ : Mem) => (if (μ.1 0 47) ≤ a1 then some μ else bd (p_X12_unbuild μ) (fun r6 μ5 => gd (inb a1 8) (bv (sF μ5 36 a1.toNatClampNeg r6) (fun μ7 => bv (a1 + 1) (fun v8 => ih v8 μ7)))))) n, fun  _ _ => rfl, fun  _ _ _ => rfl⟩
noncomputable def p_X12_buildLeaves_b40 : Nat → Int32 → Mem → Option Mem := Classical.choose p_X12_buildLeaves_b40_ex
theorem p_X12_buildLeaves_b40_z (a1 : Int32) (μ : Mem) : p_X12_buildLeaves_b40  0 a1 μ = none := (Classical.choose_spec p_X12_buildLeaves_b40_ex).1  a1 μ
theorem p_X12_buildLeaves_b40_s (n : Nat) (a1 : Int32) (μ : Mem) : p_X12_buildLeaves_b40  (n + 1) a1 μ = (if (μ.1 0 47) ≤ a1 then some μ else bd (p_X12_unbuild μ) (fun r6 μ5 => gd (inb a1 8) (bv (sF μ5 36 a1.toNatClampNeg r6) (fun μ7 => bv (a1 + 1) (fun v8 => p_X12_buildLeaves_b40  n v8 μ7))))) := (Classical.choose_spec p_X12_buildLeaves_b40_ex).2  n a1 μ
set_option maxHeartbeats 4000000 in
set_option maxRecDepth 100000 in
theorem t_X12_buildLeaves_b40 (l : Launch) (G : Gt) (ad : Nat → Nat) (av : List Value) {μz : Mem} : ∀ (n : Nat) (a1 : Int32) (μ : Mem), p_X12_buildLeaves_b40  n a1 μ = some μz → Bk l cX12_buildLeaves 2 RX12 none ({ frames := 3, cells := 0, slots := 0, locals := 68 } : Room) G av (eV 1 G ad μz) (wd 1 G ad μ) 40 [(0, .ref (ad 0)), (1, .int a1)] [] := by
  intro n
  induction n with
  | zero => intro a1 μ h; rw [p_X12_buildLeaves_b40_z] at h; cases h
  | succ n ih =>
    intro a1 μ h p e s m below meth c A ls H locs cx hr hlk hA hl hw
    have hx := cx.1
    have hb := cx.2.1
    rw [p_X12_buildLeaves_b40_s] at h
    refine lv_iload_n hx hb dX12_buildLeaves_40 rfl (lv_at hl 1 rfl) ?_
    refine lv_aload_n hx hb dX12_buildLeaves_41 rfl (lv_at hl 0 rfl) ?_
    refine g_get cx hw inX12 (ci := 11) rfl 47 (by decide) rfl (v := .int (μ.1 0 47)) shm_0 rfl fl_X12_512 dX12_buildLeaves_42 ?_
    refine lv_icmp_ge (tgt := 64) hx hb dX12_buildLeaves_45 (by decide) (fun c4 => ?_) (fun c4 => ?_)
    · rw [if_pos c4] at h
      exact g_vret cx hr hlk hw h dX12_buildLeaves_64
    · rw [if_neg c4] at h
      refine lv_aload_n hx hb dX12_buildLeaves_48 rfl (lv_at hl 0 rfl) ?_
      refine g_get cx hw inX12 (ci := 11) rfl 59 (by decide) rfl (v := .ref (ad 36)) shm_0 rfl fl_X12_124 dX12_buildLeaves_49 ?_
      refine lv_iload_n hx hb dX12_buildLeaves_52 rfl (lv_at hl 1 rfl) ?_
      refine lv_aload_n hx hb dX12_buildLeaves_53 rfl (lv_at hl 0 rfl) ?_
      obtain ⟨r6, μ5, gr6, h⟩ := bd_some h
      refine g_callVI (As := []) (rest := [.int a1, .ref (ad 36)]) cx hw hA (t_X12_unbuild l G ad μ gr6) shm_0 rfl ml_X12_536 im_X12_unbuild se_X12_unbuild in_X12 co_X12_unbuild rfl hd_X12_unbuild rfl ⟨(Nat.le_of_ble_eq_true rfl), (Nat.le_of_ble_eq_true rfl)⟩ hl.1 rfl (Nat.le_of_ble_eq_true rfl) dX12_buildLeaves_54 ⟨rfl, rfl⟩ (fun H locs hw => ?_)
      refine g_iast cx hw shm_36 h dX12_buildLeaves_57 (fun μ7 H locs h hw => ?_)
      obtain ⟨v8, ev8, h⟩ := bv_ex h
      refine lv_iinc (v := v8) (lv' := [(1, .int v8), (0, .ref (ad 0))]) hx hb dX12_buildLeaves_58 hl (k := 1) rfl (by rw [ev8]; rfl) (by decide) rfl (fun ls hl => ?_)
      refine lv_goto (tgt := 40) hx hb dX12_buildLeaves_61 (by decide) ?_
      exact ih v8 μ7 h p e s m below meth c A ls H locs cx hr hlk hA (lv_sub hl [1, 0] rfl) hw
theorem p_X12_buildLeaves_b12_ex : ∃ f : Nat → Int32 → Mem → Option Mem, (∀ (a1 : Int32) (μ : Mem), f  0 a1 μ = none) ∧ (∀ (n : Nat) (a1 : Int32) (μ : Mem), f  (n + 1) a1 μ = (if a1 < (0 : Int32) then p_X12_buildLeaves_b40  FUEL (0 : Int32) μ else gd (inb a1 30) (gd (inb a1 30) (bw (p_X12_buildOne (μ.1 27 a1.toNatClampNeg) (μ.1 28 a1.toNatClampNeg) μ) (fun μ9 => bv (a1 + (-1)) (fun v11 => f n v11 μ9)))))) := ⟨fun n => Nat.rec (fun (a1 : Int32) (μ : Mem) => none) (fun _ ih => fun (a1 : Int32) (μ : Mem) => (if a1 < (0 : Int32) then p_X12_buildLeaves_b40  FUEL (0 : Int32) μ else gd (inb a1 30) (gd (inb a1 30) (bw (p_X12_buildOne (μ.1 27 a1.toNatClampNeg) (μ.1 28 a1.toNatClampNeg) μ) (fun μ9 => bv (a1 + (-1)) (fun v11 => ih v11 μ9)))))) n, fun  _ _ => rfl, fun  _ _ _ => rfl⟩
noncomputable def p_X12_buildLeaves_b12 : Nat → Int32 → Mem → Option Mem := Classical.choose p_X12_buildLeaves_b12_ex
theorem p_X12_buildLeaves_b12_z (a1 : Int32) (μ : Mem) : p_X12_buildLeaves_b12  0 a1 μ = none := (Classical.choose_spec p_X12_buildLeaves_b12_ex).1  a1 μ
theorem p_X12_buildLeaves_b12_s (n : Nat) (a1 : Int32) (μ : Mem) : p_X12_buildLeaves_b12  (n + 1) a1 μ = (if a1 < (0 : Int32) then p_X12_buildLeaves_b40  FUEL (0 : Int32) μ else gd (inb a1 30) (gd (inb a1 30) (bw (p_X12_buildOne (μ.1 27 a1.toNatClampNeg) (μ.1 28 a1.toNatClampNeg) μ) (fun μ9 => bv (a1 + (-1)) (fun v11 => p_X12_buildLeaves_b12  n v11 μ9))))) := (Classical.choose_spec p_X12_buildLeaves_b12_ex).2  n a1 μ
set_option maxHeartbeats 4000000 in
set_option maxRecDepth 100000 in
theorem t_X12_buildLeaves_b12 (l : Launch) (G : Gt) (ad : Nat → Nat) (av : List Value) {μz : Mem} : ∀ (n : Nat) (a1 : Int32) (μ : Mem), p_X12_buildLeaves_b12  n a1 μ = some μz → Bk l cX12_buildLeaves 2 RX12 none ({ frames := 3, cells := 0, slots := 0, locals := 68 } : Room) G av (eV 1 G ad μz) (wd 1 G ad μ) 12 [(0, .ref (ad 0)), (1, .int a1)] [] := by
  intro n
  induction n with
  | zero => intro a1 μ h; rw [p_X12_buildLeaves_b12_z] at h; cases h
  | succ n ih =>
    intro a1 μ h p e s m below meth c A ls H locs cx hr hlk hA hl hw
    have hx := cx.1
    have hb := cx.2.1
    rw [p_X12_buildLeaves_b12_s] at h
    refine lv_iload_n hx hb dX12_buildLeaves_12 rfl (lv_at hl 1 rfl) ?_
    refine lv_if_lt (tgt := 38) hx hb dX12_buildLeaves_13 (by decide) (fun c3 => ?_) (fun c3 => ?_)
    · rw [if_pos c3] at h
      refine lv_iconst (v := 0) hx hb dX12_buildLeaves_38 (by decide) ?_
      refine lv_istore_n (lv' := [(1, .int 0), (0, .ref (ad 0))]) hx hb dX12_buildLeaves_39 rfl hl (by decide) rfl (fun ls hl => ?_)
      exact t_X12_buildLeaves_b40 l G ad av  FUEL (0 : Int32) μ h p e s m below meth c A ls H locs cx hr hlk hA (lv_sub hl [1, 0] rfl) hw
    · rw [if_neg c3] at h
      refine lv_aload_n hx hb dX12_buildLeaves_16 rfl (lv_at hl 0 rfl) ?_
      refine lv_aload_n hx hb dX12_buildLeaves_17 rfl (lv_at hl 0 rfl) ?_
      refine g_get cx hw inX12 (ci := 11) rfl 40 (by decide) rfl (v := .ref (ad 27)) shm_0 rfl fl_X12_93 dX12_buildLeaves_18 ?_
      refine lv_iload_n hx hb dX12_buildLeaves_21 rfl (lv_at hl 1 rfl) ?_
      refine g_iald cx hw shm_27 h dX12_buildLeaves_22 (fun h => ?_)
      refine lv_aload_n hx hb dX12_buildLeaves_23 rfl (lv_at hl 0 rfl) ?_
      refine g_get cx hw inX12 (ci := 11) rfl 41 (by decide) rfl (v := .ref (ad 28)) shm_0 rfl fl_X12_96 dX12_buildLeaves_24 ?_
      refine lv_iload_n hx hb dX12_buildLeaves_27 rfl (lv_at hl 1 rfl) ?_
      refine g_iald cx hw shm_28 h dX12_buildLeaves_28 (fun h => ?_)
      obtain ⟨μ9, gμ9, h⟩ := bw_some h
      refine g_callVV (As := [.int (μ.1 27 a1.toNatClampNeg), .int (μ.1 28 a1.toNatClampNeg)]) (rest := []) cx hw hA (t_X12_buildOne l G ad (μ.1 27 a1.toNatClampNeg) (μ.1 28 a1.toNatClampNeg) μ gμ9) shm_0 rfl ml_X12_542 im_X12_buildOne se_X12_buildOne in_X12 co_X12_buildOne rfl hd_X12_buildOne rfl ⟨(Nat.le_of_ble_eq_true rfl), (Nat.le_of_ble_eq_true rfl)⟩ hl.1 rfl (Nat.le_of_ble_eq_true rfl) dX12_buildLeaves_29 ⟨rfl, rfl⟩ (fun H locs hw => ?_)
      obtain ⟨v11, ev11, h⟩ := bv_ex h
      refine lv_iinc (v := v11) (lv' := [(1, .int v11), (0, .ref (ad 0))]) hx hb dX12_buildLeaves_32 hl (k := 1) rfl (by rw [ev11]; rfl) (by decide) rfl (fun ls hl => ?_)
      refine lv_goto (tgt := 12) hx hb dX12_buildLeaves_35 (by decide) ?_
      exact ih v11 μ9 h p e s m below meth c A ls H locs cx hr hlk hA (lv_sub hl [1, 0] rfl) hw
theorem p_X12_buildLeaves_ex : ∃ f : Mem → Option Mem, ∀  (μ : Mem), f  μ = bv (sF μ 0 58 (0 : Int32)) (fun μ1 => bv ((μ1.1 0 46) - (1 : Int32)) (fun v2 => p_X12_buildLeaves_b12  FUEL v2 μ1)) := ⟨fun  (μ : Mem) => bv (sF μ 0 58 (0 : Int32)) (fun μ1 => bv ((μ1.1 0 46) - (1 : Int32)) (fun v2 => p_X12_buildLeaves_b12  FUEL v2 μ1)), fun _ => rfl⟩
noncomputable def p_X12_buildLeaves : Mem → Option Mem := Classical.choose p_X12_buildLeaves_ex
theorem p_X12_buildLeaves_eq  (μ : Mem) : p_X12_buildLeaves  μ = bv (sF μ 0 58 (0 : Int32)) (fun μ1 => bv ((μ1.1 0 46) - (1 : Int32)) (fun v2 => p_X12_buildLeaves_b12  FUEL v2 μ1)) := Classical.choose_spec p_X12_buildLeaves_ex  μ
set_option maxHeartbeats 4000000 in
set_option maxRecDepth 100000 in
theorem t_X12_buildLeaves (l : Launch) (G : Gt) (ad : Nat → Nat)  (μ : Mem) {μz : Mem} (h : p_X12_buildLeaves  μ = some μz) : Mt l yX12_buildLeaves cX12_buildLeaves 2 none ({ frames := 3, cells := 0, slots := 0, locals := 68 } : Room) G [.ref (ad 0)] (wd 1 G ad μ) (eV 1 G ad μz) := by
  refine Bk.mt (by decide) rfl (Nat.le_of_ble_eq_true rfl) ?_
  intro p e s m below meth c A ls H locs cx hr hlk hA hl hw
  have hx := cx.1
  have hb := cx.2.1
  have hl : lv_has ls 2 [(0, .ref (ad 0))] := hl
  rw [p_X12_buildLeaves_eq] at h
  refine lv_aload_n hx hb dX12_buildLeaves_0 rfl (lv_at hl 0 rfl) ?_
  refine lv_iconst (v := 0) hx hb dX12_buildLeaves_1 (by decide) ?_
  refine g_put cx hw inX12 (ci := 11) rfl tyX12_ok nmX12 58 (by decide) rfl rfl rfl rfl shm_0 h fl_X12_530 dX12_buildLeaves_2 (fun μ1 H locs h hw => ?_)
  refine lv_aload_n hx hb dX12_buildLeaves_5 rfl (lv_at hl 0 rfl) ?_
  refine g_get cx hw inX12 (ci := 11) rfl 46 (by decide) rfl (v := .int (μ1.1 0 46)) shm_0 rfl fl_X12_515 dX12_buildLeaves_6 ?_
  refine lv_iconst (v := 1) hx hb dX12_buildLeaves_9 (by decide) ?_
  refine lv_isub hx hb dX12_buildLeaves_10 ?_
  obtain ⟨v2, ev2, h⟩ := bv_ex h
  refine lv_topi (fun y9 z9 => ?_)
  obtain rfl : v2 = y9 := ev2.trans z9.symm
  refine lv_istore_n (lv' := [(1, .int v2), (0, .ref (ad 0))]) hx hb dX12_buildLeaves_11 rfl hl (by decide) rfl (fun ls hl => ?_)
  exact t_X12_buildLeaves_b12 l G ad _  FUEL v2 μ1 h p e s m below meth c A ls H locs cx hr hlk hA (lv_sub hl [1, 0] rfl) hw

theorem p_X12_push_ex : ∃ f : Int32 → Int32 → Int32 → Mem → Option Mem, ∀ (a1 : Int32) (a2 : Int32) (a3 : Int32) (μ : Mem), f a1 a2 a3 μ = gd (inb (μ.1 0 65) 6000) (bv (sF μ 37 (μ.1 0 65).toNatClampNeg a1) (fun μ1 => gd (inb (μ1.1 0 65) 6000) (bv (sF μ1 38 (μ1.1 0 65).toNatClampNeg a2) (fun μ2 => gd (inb (μ2.1 0 65) 6000) (bv (sF μ2 39 (μ2.1 0 65).toNatClampNeg a3) (fun μ3 => bv (sF μ3 0 65 ((μ3.1 0 65) + (1 : Int32))) (fun μ4 => some μ4))))))) := ⟨fun (a1 : Int32) (a2 : Int32) (a3 : Int32) (μ : Mem) => gd (inb (μ.1 0 65) 6000) (bv (sF μ 37 (μ.1 0 65).toNatClampNeg a1) (fun μ1 => gd (inb (μ1.1 0 65) 6000) (bv (sF μ1 38 (μ1.1 0 65).toNatClampNeg a2) (fun μ2 => gd (inb (μ2.1 0 65) 6000) (bv (sF μ2 39 (μ2.1 0 65).toNatClampNeg a3) (fun μ3 => bv (sF μ3 0 65 ((μ3.1 0 65) + (1 : Int32))) (fun μ4 => some μ4))))))), fun _ _ _ _ => rfl⟩
noncomputable def p_X12_push : Int32 → Int32 → Int32 → Mem → Option Mem := Classical.choose p_X12_push_ex
theorem p_X12_push_eq (a1 : Int32) (a2 : Int32) (a3 : Int32) (μ : Mem) : p_X12_push a1 a2 a3 μ = gd (inb (μ.1 0 65) 6000) (bv (sF μ 37 (μ.1 0 65).toNatClampNeg a1) (fun μ1 => gd (inb (μ1.1 0 65) 6000) (bv (sF μ1 38 (μ1.1 0 65).toNatClampNeg a2) (fun μ2 => gd (inb (μ2.1 0 65) 6000) (bv (sF μ2 39 (μ2.1 0 65).toNatClampNeg a3) (fun μ3 => bv (sF μ3 0 65 ((μ3.1 0 65) + (1 : Int32))) (fun μ4 => some μ4))))))) := Classical.choose_spec p_X12_push_ex a1 a2 a3 μ
set_option maxHeartbeats 4000000 in
set_option maxRecDepth 100000 in
theorem t_X12_push (l : Launch) (G : Gt) (ad : Nat → Nat) (a1 : Int32) (a2 : Int32) (a3 : Int32) (μ : Mem) {μz : Mem} (h : p_X12_push a1 a2 a3 μ = some μz) : Mt l yX12_push cX12_push 4 none ({ frames := 0, cells := 0, slots := 0, locals := 0 } : Room) G [.ref (ad 0), .int a1, .int a2, .int a3] (wd 1 G ad μ) (eV 1 G ad μz) := by
  refine Bk.mt (by decide) rfl (Nat.le_of_ble_eq_true rfl) ?_
  intro p e s m below meth c A ls H locs cx hr hlk hA hl hw
  have hx := cx.1
  have hb := cx.2.1
  have hl : lv_has ls 4 [(0, .ref (ad 0)), (1, .int a1), (2, .int a2), (3, .int a3)] := hl
  rw [p_X12_push_eq] at h
  refine lv_aload_n hx hb dX12_push_0 rfl (lv_at hl 0 rfl) ?_
  refine g_get cx hw inX12 (ci := 11) rfl 60 (by decide) rfl (v := .ref (ad 37)) shm_0 rfl fl_X12_127 dX12_push_1 ?_
  refine lv_aload_n hx hb dX12_push_4 rfl (lv_at hl 0 rfl) ?_
  refine g_get cx hw inX12 (ci := 11) rfl 65 (by decide) rfl (v := .int (μ.1 0 65)) shm_0 rfl fl_X12_545 dX12_push_5 ?_
  refine lv_iload_n hx hb dX12_push_8 rfl (lv_at hl 1 rfl) ?_
  refine g_iast cx hw shm_37 h dX12_push_9 (fun μ1 H locs h hw => ?_)
  refine lv_aload_n hx hb dX12_push_10 rfl (lv_at hl 0 rfl) ?_
  refine g_get cx hw inX12 (ci := 11) rfl 61 (by decide) rfl (v := .ref (ad 38)) shm_0 rfl fl_X12_130 dX12_push_11 ?_
  refine lv_aload_n hx hb dX12_push_14 rfl (lv_at hl 0 rfl) ?_
  refine g_get cx hw inX12 (ci := 11) rfl 65 (by decide) rfl (v := .int (μ1.1 0 65)) shm_0 rfl fl_X12_545 dX12_push_15 ?_
  refine lv_iload_n hx hb dX12_push_18 rfl (lv_at hl 2 rfl) ?_
  refine g_iast cx hw shm_38 h dX12_push_19 (fun μ2 H locs h hw => ?_)
  refine lv_aload_n hx hb dX12_push_20 rfl (lv_at hl 0 rfl) ?_
  refine g_get cx hw inX12 (ci := 11) rfl 62 (by decide) rfl (v := .ref (ad 39)) shm_0 rfl fl_X12_133 dX12_push_21 ?_
  refine lv_aload_n hx hb dX12_push_24 rfl (lv_at hl 0 rfl) ?_
  refine g_get cx hw inX12 (ci := 11) rfl 65 (by decide) rfl (v := .int (μ2.1 0 65)) shm_0 rfl fl_X12_545 dX12_push_25 ?_
  refine lv_iload_n hx hb dX12_push_28 rfl (lv_at hl 3 rfl) ?_
  refine g_iast cx hw shm_39 h dX12_push_29 (fun μ3 H locs h hw => ?_)
  refine lv_aload_n hx hb dX12_push_30 rfl (lv_at hl 0 rfl) ?_
  refine lv_dup hx hb dX12_push_31 rfl ?_
  refine g_get cx hw inX12 (ci := 11) rfl 65 (by decide) rfl (v := .int (μ3.1 0 65)) shm_0 rfl fl_X12_545 dX12_push_32 ?_
  refine lv_iconst (v := 1) hx hb dX12_push_35 (by decide) ?_
  refine lv_iadd hx hb dX12_push_36 ?_
  refine g_put cx hw inX12 (ci := 11) rfl tyX12_ok nmX12 65 (by decide) rfl rfl rfl rfl shm_0 h fl_X12_545 dX12_push_37 (fun μ4 H locs h hw => ?_)
  exact g_vret cx hr hlk hw h dX12_push_40

theorem p_X12_come_ex : ∃ f : Int32 → Mem → Option Mem, ∀ (a1 : Int32) (μ : Mem), f a1 μ = gd (inb (μ.1 0 66) 6000) (bv (sF μ 40 (μ.1 0 66).toNatClampNeg a1) (fun μ1 => bv (sF μ1 0 66 ((μ1.1 0 66) + (1 : Int32))) (fun μ2 => some μ2))) := ⟨fun (a1 : Int32) (μ : Mem) => gd (inb (μ.1 0 66) 6000) (bv (sF μ 40 (μ.1 0 66).toNatClampNeg a1) (fun μ1 => bv (sF μ1 0 66 ((μ1.1 0 66) + (1 : Int32))) (fun μ2 => some μ2))), fun _ _ => rfl⟩
noncomputable def p_X12_come : Int32 → Mem → Option Mem := Classical.choose p_X12_come_ex
theorem p_X12_come_eq (a1 : Int32) (μ : Mem) : p_X12_come a1 μ = gd (inb (μ.1 0 66) 6000) (bv (sF μ 40 (μ.1 0 66).toNatClampNeg a1) (fun μ1 => bv (sF μ1 0 66 ((μ1.1 0 66) + (1 : Int32))) (fun μ2 => some μ2))) := Classical.choose_spec p_X12_come_ex a1 μ
set_option maxHeartbeats 4000000 in
set_option maxRecDepth 100000 in
theorem t_X12_come (l : Launch) (G : Gt) (ad : Nat → Nat) (a1 : Int32) (μ : Mem) {μz : Mem} (h : p_X12_come a1 μ = some μz) : Mt l yX12_come cX12_come 2 none ({ frames := 0, cells := 0, slots := 0, locals := 0 } : Room) G [.ref (ad 0), .int a1] (wd 1 G ad μ) (eV 1 G ad μz) := by
  refine Bk.mt (by decide) rfl (Nat.le_of_ble_eq_true rfl) ?_
  intro p e s m below meth c A ls H locs cx hr hlk hA hl hw
  have hx := cx.1
  have hb := cx.2.1
  have hl : lv_has ls 2 [(0, .ref (ad 0)), (1, .int a1)] := hl
  rw [p_X12_come_eq] at h
  refine lv_aload_n hx hb dX12_come_0 rfl (lv_at hl 0 rfl) ?_
  refine g_get cx hw inX12 (ci := 11) rfl 63 (by decide) rfl (v := .ref (ad 40)) shm_0 rfl fl_X12_136 dX12_come_1 ?_
  refine lv_aload_n hx hb dX12_come_4 rfl (lv_at hl 0 rfl) ?_
  refine g_get cx hw inX12 (ci := 11) rfl 66 (by decide) rfl (v := .int (μ.1 0 66)) shm_0 rfl fl_X12_548 dX12_come_5 ?_
  refine lv_iload_n hx hb dX12_come_8 rfl (lv_at hl 1 rfl) ?_
  refine g_iast cx hw shm_40 h dX12_come_9 (fun μ1 H locs h hw => ?_)
  refine lv_aload_n hx hb dX12_come_10 rfl (lv_at hl 0 rfl) ?_
  refine lv_dup hx hb dX12_come_11 rfl ?_
  refine g_get cx hw inX12 (ci := 11) rfl 66 (by decide) rfl (v := .int (μ1.1 0 66)) shm_0 rfl fl_X12_548 dX12_come_12 ?_
  refine lv_iconst (v := 1) hx hb dX12_come_15 (by decide) ?_
  refine lv_iadd hx hb dX12_come_16 ?_
  refine g_put cx hw inX12 (ci := 11) rfl tyX12_ok nmX12 66 (by decide) rfl rfl rfl rfl shm_0 h fl_X12_548 dX12_come_17 (fun μ2 H locs h hw => ?_)
  exact g_vret cx hr hlk hw h dX12_come_20

theorem p_X12_gone_ex : ∃ f : Mem → Option (Int32 × Mem), ∀  (μ : Mem), f  μ = bv (sF μ 0 66 ((μ.1 0 66) - (1 : Int32))) (fun μ1 => gd (inb (μ1.1 0 66) 6000) (some ((μ1.1 40 (μ1.1 0 66).toNatClampNeg), μ1))) := ⟨fun  (μ : Mem) => bv (sF μ 0 66 ((μ.1 0 66) - (1 : Int32))) (fun μ1 => gd (inb (μ1.1 0 66) 6000) (some ((μ1.1 40 (μ1.1 0 66).toNatClampNeg), μ1))), fun _ => rfl⟩
noncomputable def p_X12_gone : Mem → Option (Int32 × Mem) := Classical.choose p_X12_gone_ex
theorem p_X12_gone_eq  (μ : Mem) : p_X12_gone  μ = bv (sF μ 0 66 ((μ.1 0 66) - (1 : Int32))) (fun μ1 => gd (inb (μ1.1 0 66) 6000) (some ((μ1.1 40 (μ1.1 0 66).toNatClampNeg), μ1))) := Classical.choose_spec p_X12_gone_ex  μ
set_option maxHeartbeats 4000000 in
set_option maxRecDepth 100000 in
theorem t_X12_gone (l : Launch) (G : Gt) (ad : Nat → Nat)  (μ : Mem) {r : Int32} {μz : Mem} (h : p_X12_gone  μ = some (r, μz)) : Mt l yX12_gone cX12_gone 1 (some .int) ({ frames := 0, cells := 0, slots := 0, locals := 0 } : Room) G [.ref (ad 0)] (wd 1 G ad μ) (eI 1 G ad r μz) := by
  refine Bk.mt (by decide) rfl (Nat.le_of_ble_eq_true rfl) ?_
  intro p e s m below meth c A ls H locs cx hr hlk hA hl hw
  have hx := cx.1
  have hb := cx.2.1
  have hl : lv_has ls 1 [(0, .ref (ad 0))] := hl
  rw [p_X12_gone_eq] at h
  refine lv_aload_n hx hb dX12_gone_0 rfl (lv_at hl 0 rfl) ?_
  refine lv_dup hx hb dX12_gone_1 rfl ?_
  refine g_get cx hw inX12 (ci := 11) rfl 66 (by decide) rfl (v := .int (μ.1 0 66)) shm_0 rfl fl_X12_548 dX12_gone_2 ?_
  refine lv_iconst (v := 1) hx hb dX12_gone_5 (by decide) ?_
  refine lv_isub hx hb dX12_gone_6 ?_
  refine g_put cx hw inX12 (ci := 11) rfl tyX12_ok nmX12 66 (by decide) rfl rfl rfl rfl shm_0 h fl_X12_548 dX12_gone_7 (fun μ1 H locs h hw => ?_)
  refine lv_aload_n hx hb dX12_gone_10 rfl (lv_at hl 0 rfl) ?_
  refine g_get cx hw inX12 (ci := 11) rfl 63 (by decide) rfl (v := .ref (ad 40)) shm_0 rfl fl_X12_136 dX12_gone_11 ?_
  refine lv_aload_n hx hb dX12_gone_14 rfl (lv_at hl 0 rfl) ?_
  refine g_get cx hw inX12 (ci := 11) rfl 66 (by decide) rfl (v := .int (μ1.1 0 66)) shm_0 rfl fl_X12_548 dX12_gone_15 ?_
  refine g_iald cx hw shm_40 h dX12_gone_18 (fun h => ?_)
  exact g_iret cx hr hlk hw h dX12_gone_19

theorem p_X12_begin_ex : ∃ f : Int32 → Mem → Option Mem, ∀ (a1 : Int32) (μ : Mem), f a1 μ = gd (isB a1) (bv (sF μ 0 69 a1) (fun μ1 => bv (sF μ1 0 65 (0 : Int32)) (fun μ3 => bv (sF μ3 0 66 (0 : Int32)) (fun μ4 => bv (sF μ4 0 67 (0 : Int32)) (fun μ5 => bv (sF μ5 0 68 (0 : Int32)) (fun μ6 => some μ6)))))) := ⟨fun (a1 : Int32) (μ : Mem) => gd (isB a1) (bv (sF μ 0 69 a1) (fun μ1 => bv (sF μ1 0 65 (0 : Int32)) (fun μ3 => bv (sF μ3 0 66 (0 : Int32)) (fun μ4 => bv (sF μ4 0 67 (0 : Int32)) (fun μ5 => bv (sF μ5 0 68 (0 : Int32)) (fun μ6 => some μ6)))))), fun _ _ => rfl⟩
noncomputable def p_X12_begin : Int32 → Mem → Option Mem := Classical.choose p_X12_begin_ex
theorem p_X12_begin_eq (a1 : Int32) (μ : Mem) : p_X12_begin a1 μ = gd (isB a1) (bv (sF μ 0 69 a1) (fun μ1 => bv (sF μ1 0 65 (0 : Int32)) (fun μ3 => bv (sF μ3 0 66 (0 : Int32)) (fun μ4 => bv (sF μ4 0 67 (0 : Int32)) (fun μ5 => bv (sF μ5 0 68 (0 : Int32)) (fun μ6 => some μ6)))))) := Classical.choose_spec p_X12_begin_ex a1 μ
set_option maxHeartbeats 4000000 in
set_option maxRecDepth 100000 in
theorem t_X12_begin (l : Launch) (G : Gt) (ad : Nat → Nat) (a1 : Int32) (μ : Mem) {μz : Mem} (h : p_X12_begin a1 μ = some μz) : Mt l yX12_begin cX12_begin 2 none ({ frames := 0, cells := 0, slots := 0, locals := 0 } : Room) G [.ref (ad 0), .int a1] (wd 1 G ad μ) (eV 1 G ad μz) := by
  refine Bk.mt (by decide) rfl (Nat.le_of_ble_eq_true rfl) ?_
  intro p e s m below meth c A ls H locs cx hr hlk hA hl hw
  have hx := cx.1
  have hb := cx.2.1
  have hl : lv_has ls 2 [(0, .ref (ad 0)), (1, .int a1)] := hl
  rw [p_X12_begin_eq] at h
  refine lv_aload_n hx hb dX12_begin_0 rfl (lv_at hl 0 rfl) ?_
  refine lv_iload_n hx hb dX12_begin_1 rfl (lv_at hl 1 rfl) ?_
  obtain ⟨c2, h⟩ := gd_some h
  refine g_put cx hw inX12 (ci := 11) rfl tyX12_ok nmX12 69 (by decide) rfl rfl (isB_n c2) (isB_f c2) shm_0 h fl_X12_551 dX12_begin_2 (fun μ1 H locs h hw => ?_)
  refine lv_aload_n hx hb dX12_begin_5 rfl (lv_at hl 0 rfl) ?_
  refine lv_iconst (v := 0) hx hb dX12_begin_6 (by decide) ?_
  refine g_put cx hw inX12 (ci := 11) rfl tyX12_ok nmX12 65 (by decide) rfl rfl rfl rfl shm_0 h fl_X12_545 dX12_begin_7 (fun μ3 H locs h hw => ?_)
  refine lv_aload_n hx hb dX12_begin_10 rfl (lv_at hl 0 rfl) ?_
  refine lv_iconst (v := 0) hx hb dX12_begin_11 (by decide) ?_
  refine g_put cx hw inX12 (ci := 11) rfl tyX12_ok nmX12 66 (by decide) rfl rfl rfl rfl shm_0 h fl_X12_548 dX12_begin_12 (fun μ4 H locs h hw => ?_)
  refine lv_aload_n hx hb dX12_begin_15 rfl (lv_at hl 0 rfl) ?_
  refine lv_iconst (v := 0) hx hb dX12_begin_16 (by decide) ?_
  refine g_put cx hw inX12 (ci := 11) rfl tyX12_ok nmX12 67 (by decide) rfl rfl rfl rfl shm_0 h fl_X12_554 dX12_begin_17 (fun μ5 H locs h hw => ?_)
  refine lv_aload_n hx hb dX12_begin_20 rfl (lv_at hl 0 rfl) ?_
  refine lv_iconst (v := 0) hx hb dX12_begin_21 (by decide) ?_
  refine g_put cx hw inX12 (ci := 11) rfl tyX12_ok nmX12 68 (by decide) rfl rfl rfl rfl shm_0 h fl_X12_557 dX12_begin_22 (fun μ6 H locs h hw => ?_)
  exact g_vret cx hr hlk hw h dX12_begin_25

theorem p_X12_workBelow_b38_ex : ∃ f : Nat → Int32 → Int32 → Mem → Option Mem, (∀ (a1 : Int32) (a3 : Int32) (μ : Mem), f  0 a1 a3 μ = none) ∧ (∀ (n : Nat) (a1 : Int32) (a3 : Int32) (μ : Mem), f  (n + 1) a1 a3 μ = gd (inb a1 800) ((if ((μ.1 9 a1.toNatClampNeg) / (2 : Int32)) ≤ a3 then some μ else gd (inb (((μ.1 0 65) - (1 : Int32)) - a3) 6000) (bv (μ.1 38 (((μ.1 0 65) - (1 : Int32)) - a3).toNatClampNeg) (fun v4 => gd (inb a1 800) (gd (inb (((μ.1 0 65) - (μ.1 9 a1.toNatClampNeg)) + a3) 6000) (bv (μ.1 38 (((μ.1 0 65) - (μ.1 9 a1.toNatClampNeg)) + a3).toNatClampNeg) (fun v5 => gd (inb (((μ.1 0 65) - (1 : Int32)) - a3) 6000) (bv (sF μ 38 (((μ.1 0 65) - (1 : Int32)) - a3).toNatClampNeg v5) (fun μ6 => gd (inb a1 800) (gd (inb (((μ6.1 0 65) - (μ6.1 9 a1.toNatClampNeg)) + a3) 6000) (bv (sF μ6 38 (((μ6.1 0 65) - (μ6.1 9 a1.toNatClampNeg)) + a3).toNatClampNeg v4) (fun μ7 => bv (a3 + 1) (fun v8 => f n a1 v8 μ7)))))))))))))) := ⟨fun n => Nat.rec (fun (a1 : Int32) (a3 : Int32) (μ : Mem) => none) (fun _ ih => fun (a1 : Int32) (a3 : Int32) (μ : Mem) => gd (inb a1 800) ((if ((μ.1 9 a1.toNatClampNeg) / (2 : Int32)) ≤ a3 then some μ else gd (inb (((μ.1 0 65) - (1 : Int32)) - a3) 6000) (bv (μ.1 38 (((μ.1 0 65) - (1 : Int32)) - a3).toNatClampNeg) (fun v4 => gd (inb a1 800) (gd (inb (((μ.1 0 65) - (μ.1 9 a1.toNatClampNeg)) + a3) 6000) (bv (μ.1 38 (((μ.1 0 65) - (μ.1 9 a1.toNatClampNeg)) + a3).toNatClampNeg) (fun v5 => gd (inb (((μ.1 0 65) - (1 : Int32)) - a3) 6000) (bv (sF μ 38 (((μ.1 0 65) - (1 : Int32)) - a3).toNatClampNeg v5) (fun μ6 => gd (inb a1 800) (gd (inb (((μ6.1 0 65) - (μ6.1 9 a1.toNatClampNeg)) + a3) 6000) (bv (sF μ6 38 (((μ6.1 0 65) - (μ6.1 9 a1.toNatClampNeg)) + a3).toNatClampNeg v4) (fun μ7 => bv (a3 + 1) (fun v8 => ih a1 v8 μ7)))))))))))))) n, fun  _ _ _ => rfl, fun  _ _ _ _ => rfl⟩
noncomputable def p_X12_workBelow_b38 : Nat → Int32 → Int32 → Mem → Option Mem := Classical.choose p_X12_workBelow_b38_ex
theorem p_X12_workBelow_b38_z (a1 : Int32) (a3 : Int32) (μ : Mem) : p_X12_workBelow_b38  0 a1 a3 μ = none := (Classical.choose_spec p_X12_workBelow_b38_ex).1  a1 a3 μ
theorem p_X12_workBelow_b38_s (n : Nat) (a1 : Int32) (a3 : Int32) (μ : Mem) : p_X12_workBelow_b38  (n + 1) a1 a3 μ = gd (inb a1 800) ((if ((μ.1 9 a1.toNatClampNeg) / (2 : Int32)) ≤ a3 then some μ else gd (inb (((μ.1 0 65) - (1 : Int32)) - a3) 6000) (bv (μ.1 38 (((μ.1 0 65) - (1 : Int32)) - a3).toNatClampNeg) (fun v4 => gd (inb a1 800) (gd (inb (((μ.1 0 65) - (μ.1 9 a1.toNatClampNeg)) + a3) 6000) (bv (μ.1 38 (((μ.1 0 65) - (μ.1 9 a1.toNatClampNeg)) + a3).toNatClampNeg) (fun v5 => gd (inb (((μ.1 0 65) - (1 : Int32)) - a3) 6000) (bv (sF μ 38 (((μ.1 0 65) - (1 : Int32)) - a3).toNatClampNeg v5) (fun μ6 => gd (inb a1 800) (gd (inb (((μ6.1 0 65) - (μ6.1 9 a1.toNatClampNeg)) + a3) 6000) (bv (sF μ6 38 (((μ6.1 0 65) - (μ6.1 9 a1.toNatClampNeg)) + a3).toNatClampNeg v4) (fun μ7 => bv (a3 + 1) (fun v8 => p_X12_workBelow_b38  n a1 v8 μ7))))))))))))) := (Classical.choose_spec p_X12_workBelow_b38_ex).2  n a1 a3 μ
set_option maxHeartbeats 4000000 in
set_option maxRecDepth 100000 in
theorem t_X12_workBelow_b38 (l : Launch) (G : Gt) (ad : Nat → Nat) (av : List Value) {μz : Mem} : ∀ (n : Nat) (a1 : Int32) (a3 : Int32) (μ : Mem), p_X12_workBelow_b38  n a1 a3 μ = some μz → Bk l cX12_workBelow 5 RX12 none ({ frames := 1, cells := 0, slots := 0, locals := 23 } : Room) G av (eV 1 G ad μz) (wd 1 G ad μ) 38 [(0, .ref (ad 0)), (1, .int a1), (3, .int a3)] [] := by
  intro n
  induction n with
  | zero => intro a1 a3 μ h; rw [p_X12_workBelow_b38_z] at h; cases h
  | succ n ih =>
    intro a1 a3 μ h p e s m below meth c A ls H locs cx hr hlk hA hl hw
    have hx := cx.1
    have hb := cx.2.1
    rw [p_X12_workBelow_b38_s] at h
    refine lv_iload_n hx hb dX12_workBelow_38 rfl (lv_at hl 2 rfl) ?_
    refine lv_aload_n hx hb dX12_workBelow_39 rfl (lv_at hl 0 rfl) ?_
    refine g_get cx hw inX12 (ci := 11) rfl 15 (by decide) rfl (v := .ref (ad 9)) shm_0 rfl fl_X12_39 dX12_workBelow_40 ?_
    refine lv_iload_n hx hb dX12_workBelow_43 rfl (lv_at hl 1 rfl) ?_
    refine g_iald cx hw shm_9 h dX12_workBelow_44 (fun h => ?_)
    refine lv_iconst (v := 2) hx hb dX12_workBelow_45 (by decide) ?_
    refine lv_idiv hx hb dX12_workBelow_46 (by decide) ?_
    refine lv_icmp_ge (tgt := 122) hx hb dX12_workBelow_47 (by decide) (fun c3 => ?_) (fun c3 => ?_)
    · rw [if_pos c3] at h
      exact g_vret cx hr hlk hw h dX12_workBelow_122
    · rw [if_neg c3] at h
      refine lv_aload_n hx hb dX12_workBelow_50 rfl (lv_at hl 0 rfl) ?_
      refine g_get cx hw inX12 (ci := 11) rfl 61 (by decide) rfl (v := .ref (ad 38)) shm_0 rfl fl_X12_130 dX12_workBelow_51 ?_
      refine lv_aload_n hx hb dX12_workBelow_54 rfl (lv_at hl 0 rfl) ?_
      refine g_get cx hw inX12 (ci := 11) rfl 65 (by decide) rfl (v := .int (μ.1 0 65)) shm_0 rfl fl_X12_545 dX12_workBelow_55 ?_
      refine lv_iconst (v := 1) hx hb dX12_workBelow_58 (by decide) ?_
      refine lv_isub hx hb dX12_workBelow_59 ?_
      refine lv_iload_n hx hb dX12_workBelow_60 rfl (lv_at hl 2 rfl) ?_
      refine lv_isub hx hb dX12_workBelow_61 ?_
      refine g_iald cx hw shm_38 h dX12_workBelow_62 (fun h => ?_)
      obtain ⟨v4, ev4, h⟩ := bv_ex h
      refine lv_topi (fun y9 z9 => ?_)
      obtain rfl : v4 = y9 := ev4.trans z9.symm
      refine lv_istore (lv' := [(4, .int v4), (0, .ref (ad 0)), (1, .int a1), (3, .int a3)]) hx hb dX12_workBelow_63 hl (by decide) rfl (fun ls hl => ?_)
      refine lv_aload_n hx hb dX12_workBelow_65 rfl (lv_at hl 1 rfl) ?_
      refine g_get cx hw inX12 (ci := 11) rfl 61 (by decide) rfl (v := .ref (ad 38)) shm_0 rfl fl_X12_130 dX12_workBelow_66 ?_
      refine lv_aload_n hx hb dX12_workBelow_69 rfl (lv_at hl 1 rfl) ?_
      refine g_get cx hw inX12 (ci := 11) rfl 65 (by decide) rfl (v := .int (μ.1 0 65)) shm_0 rfl fl_X12_545 dX12_workBelow_70 ?_
      refine lv_iconst (v := 1) hx hb dX12_workBelow_73 (by decide) ?_
      refine lv_isub hx hb dX12_workBelow_74 ?_
      refine lv_iload_n hx hb dX12_workBelow_75 rfl (lv_at hl 3 rfl) ?_
      refine lv_isub hx hb dX12_workBelow_76 ?_
      refine lv_aload_n hx hb dX12_workBelow_77 rfl (lv_at hl 1 rfl) ?_
      refine g_get cx hw inX12 (ci := 11) rfl 61 (by decide) rfl (v := .ref (ad 38)) shm_0 rfl fl_X12_130 dX12_workBelow_78 ?_
      refine lv_aload_n hx hb dX12_workBelow_81 rfl (lv_at hl 1 rfl) ?_
      refine g_get cx hw inX12 (ci := 11) rfl 65 (by decide) rfl (v := .int (μ.1 0 65)) shm_0 rfl fl_X12_545 dX12_workBelow_82 ?_
      refine lv_aload_n hx hb dX12_workBelow_85 rfl (lv_at hl 1 rfl) ?_
      refine g_get cx hw inX12 (ci := 11) rfl 15 (by decide) rfl (v := .ref (ad 9)) shm_0 rfl fl_X12_39 dX12_workBelow_86 ?_
      refine lv_iload_n hx hb dX12_workBelow_89 rfl (lv_at hl 2 rfl) ?_
      refine g_iald cx hw shm_9 h dX12_workBelow_90 (fun h => ?_)
      refine lv_isub hx hb dX12_workBelow_91 ?_
      refine lv_iload_n hx hb dX12_workBelow_92 rfl (lv_at hl 3 rfl) ?_
      refine lv_iadd hx hb dX12_workBelow_93 ?_
      refine g_iald cx hw shm_38 h dX12_workBelow_94 (fun h => ?_)
      obtain ⟨v5, ev5, h⟩ := bv_ex h
      refine lv_topi (fun y9 z9 => ?_)
      obtain rfl : v5 = y9 := ev5.trans z9.symm
      refine g_iast cx hw shm_38 h dX12_workBelow_95 (fun μ6 H locs h hw => ?_)
      refine lv_aload_n hx hb dX12_workBelow_96 rfl (lv_at hl 1 rfl) ?_
      refine g_get cx hw inX12 (ci := 11) rfl 61 (by decide) rfl (v := .ref (ad 38)) shm_0 rfl fl_X12_130 dX12_workBelow_97 ?_
      refine lv_aload_n hx hb dX12_workBelow_100 rfl (lv_at hl 1 rfl) ?_
      refine g_get cx hw inX12 (ci := 11) rfl 65 (by decide) rfl (v := .int (μ6.1 0 65)) shm_0 rfl fl_X12_545 dX12_workBelow_101 ?_
      refine lv_aload_n hx hb dX12_workBelow_104 rfl (lv_at hl 1 rfl) ?_
      refine g_get cx hw inX12 (ci := 11) rfl 15 (by decide) rfl (v := .ref (ad 9)) shm_0 rfl fl_X12_39 dX12_workBelow_105 ?_
      refine lv_iload_n hx hb dX12_workBelow_108 rfl (lv_at hl 2 rfl) ?_
      refine g_iald cx hw shm_9 h dX12_workBelow_109 (fun h => ?_)
      refine lv_isub hx hb dX12_workBelow_110 ?_
      refine lv_iload_n hx hb dX12_workBelow_111 rfl (lv_at hl 3 rfl) ?_
      refine lv_iadd hx hb dX12_workBelow_112 ?_
      refine lv_iload hx hb dX12_workBelow_113 (lv_at hl 0 rfl) ?_
      refine g_iast cx hw shm_38 h dX12_workBelow_115 (fun μ7 H locs h hw => ?_)
      obtain ⟨v8, ev8, h⟩ := bv_ex h
      refine lv_iinc (v := v8) (lv' := [(3, .int v8), (4, .int v4), (0, .ref (ad 0)), (1, .int a1)]) hx hb dX12_workBelow_116 hl (k := 3) rfl (by rw [ev8]; rfl) (by decide) rfl (fun ls hl => ?_)
      refine lv_goto (tgt := 38) hx hb dX12_workBelow_119 (by decide) ?_
      exact ih a1 v8 μ7 h p e s m below meth c A ls H locs cx hr hlk hA (lv_sub hl [2, 3, 0] rfl) hw
theorem p_X12_workBelow_b6_ex : ∃ f : Nat → Int32 → Int32 → Int32 → Mem → Option Mem, (∀ (a1 : Int32) (a2 : Int32) (a3 : Int32) (μ : Mem), f  0 a1 a2 a3 μ = none) ∧ (∀ (n : Nat) (a1 : Int32) (a2 : Int32) (a3 : Int32) (μ : Mem), f  (n + 1) a1 a2 a3 μ = gd (inb a1 800) ((if (μ.1 9 a1.toNatClampNeg) ≤ a3 then p_X12_workBelow_b38  FUEL a1 (0 : Int32) μ else bw (p_X12_push (0 : Int32) a2 (0 : Int32) μ) (fun μ9 => gd (inb a2 800) (bv (μ9.1 10 a2.toNatClampNeg) (fun v11 => bv (a3 + 1) (fun v12 => f n a1 v11 v12 μ9))))))) := ⟨fun n => Nat.rec (fun (a1 : Int32) (a2 : Int32) (a3 : Int32) (μ : Mem) => none) (fun _ ih => fun (a1 : Int32) (a2 : Int32) (a3 : Int32) (μ : Mem) => gd (inb a1 800) ((if (μ.1 9 a1.toNatClampNeg) ≤ a3 then p_X12_workBelow_b38  FUEL a1 (0 : Int32) μ else bw (p_X12_push (0 : Int32) a2 (0 : Int32) μ) (fun μ9 => gd (inb a2 800) (bv (μ9.1 10 a2.toNatClampNeg) (fun v11 => bv (a3 + 1) (fun v12 => ih a1 v11 v12 μ9))))))) n, fun  _ _ _ _ => rfl, fun  _ _ _ _ _ => rfl⟩
noncomputable def p_X12_workBelow_b6 : Nat → Int32 → Int32 → Int32 → Mem → Option Mem := Classical.choose p_X12_workBelow_b6_ex
theorem p_X12_workBelow_b6_z (a1 : Int32) (a2 : Int32) (a3 : Int32) (μ : Mem) : p_X12_workBelow_b6  0 a1 a2 a3 μ = none := (Classical.choose_spec p_X12_workBelow_b6_ex).1  a1 a2 a3 μ
theorem p_X12_workBelow_b6_s (n : Nat) (a1 : Int32) (a2 : Int32) (a3 : Int32) (μ : Mem) : p_X12_workBelow_b6  (n + 1) a1 a2 a3 μ = gd (inb a1 800) ((if (μ.1 9 a1.toNatClampNeg) ≤ a3 then p_X12_workBelow_b38  FUEL a1 (0 : Int32) μ else bw (p_X12_push (0 : Int32) a2 (0 : Int32) μ) (fun μ9 => gd (inb a2 800) (bv (μ9.1 10 a2.toNatClampNeg) (fun v11 => bv (a3 + 1) (fun v12 => p_X12_workBelow_b6  n a1 v11 v12 μ9)))))) := (Classical.choose_spec p_X12_workBelow_b6_ex).2  n a1 a2 a3 μ
set_option maxHeartbeats 4000000 in
set_option maxRecDepth 100000 in
theorem t_X12_workBelow_b6 (l : Launch) (G : Gt) (ad : Nat → Nat) (av : List Value) {μz : Mem} : ∀ (n : Nat) (a1 : Int32) (a2 : Int32) (a3 : Int32) (μ : Mem), p_X12_workBelow_b6  n a1 a2 a3 μ = some μz → Bk l cX12_workBelow 5 RX12 none ({ frames := 1, cells := 0, slots := 0, locals := 23 } : Room) G av (eV 1 G ad μz) (wd 1 G ad μ) 6 [(0, .ref (ad 0)), (1, .int a1), (2, .int a2), (3, .int a3)] [] := by
  intro n
  induction n with
  | zero => intro a1 a2 a3 μ h; rw [p_X12_workBelow_b6_z] at h; cases h
  | succ n ih =>
    intro a1 a2 a3 μ h p e s m below meth c A ls H locs cx hr hlk hA hl hw
    have hx := cx.1
    have hb := cx.2.1
    rw [p_X12_workBelow_b6_s] at h
    refine lv_iload_n hx hb dX12_workBelow_6 rfl (lv_at hl 3 rfl) ?_
    refine lv_aload_n hx hb dX12_workBelow_7 rfl (lv_at hl 0 rfl) ?_
    refine g_get cx hw inX12 (ci := 11) rfl 15 (by decide) rfl (v := .ref (ad 9)) shm_0 rfl fl_X12_39 dX12_workBelow_8 ?_
    refine lv_iload_n hx hb dX12_workBelow_11 rfl (lv_at hl 1 rfl) ?_
    refine g_iald cx hw shm_9 h dX12_workBelow_12 (fun h => ?_)
    refine lv_icmp_ge (tgt := 36) hx hb dX12_workBelow_13 (by decide) (fun c2 => ?_) (fun c2 => ?_)
    · rw [if_pos c2] at h
      refine lv_iconst (v := 0) hx hb dX12_workBelow_36 (by decide) ?_
      refine lv_istore_n (lv' := [(3, .int 0), (0, .ref (ad 0)), (1, .int a1), (2, .int a2)]) hx hb dX12_workBelow_37 rfl hl (by decide) rfl (fun ls hl => ?_)
      exact t_X12_workBelow_b38 l G ad av  FUEL a1 (0 : Int32) μ h p e s m below meth c A ls H locs cx hr hlk hA (lv_sub hl [1, 2, 0] rfl) hw
    · rw [if_neg c2] at h
      refine lv_aload_n hx hb dX12_workBelow_16 rfl (lv_at hl 0 rfl) ?_
      refine lv_iconst (v := 0) hx hb dX12_workBelow_17 (by decide) ?_
      refine lv_iload_n hx hb dX12_workBelow_18 rfl (lv_at hl 2 rfl) ?_
      refine lv_iconst (v := 0) hx hb dX12_workBelow_19 (by decide) ?_
      obtain ⟨μ9, gμ9, h⟩ := bw_some h
      refine g_callVV (As := [.int 0, .int a2, .int 0]) (rest := []) cx hw hA (t_X12_push l G ad (0 : Int32) a2 (0 : Int32) μ gμ9) shm_0 rfl ml_X12_588 im_X12_push se_X12_push in_X12 co_X12_push rfl hd_X12_push rfl ⟨(Nat.le_of_ble_eq_true rfl), (Nat.le_of_ble_eq_true rfl)⟩ hl.1 rfl (Nat.le_of_ble_eq_true rfl) dX12_workBelow_20 ⟨rfl, rfl⟩ (fun H locs hw => ?_)
      refine lv_aload_n hx hb dX12_workBelow_23 rfl (lv_at hl 0 rfl) ?_
      refine g_get cx hw inX12 (ci := 11) rfl 16 (by decide) rfl (v := .ref (ad 10)) shm_0 rfl fl_X12_42 dX12_workBelow_24 ?_
      refine lv_iload_n hx hb dX12_workBelow_27 rfl (lv_at hl 2 rfl) ?_
      refine g_iald cx hw shm_10 h dX12_workBelow_28 (fun h => ?_)
      obtain ⟨v11, ev11, h⟩ := bv_ex h
      refine lv_topi (fun y9 z9 => ?_)
      obtain rfl : v11 = y9 := ev11.trans z9.symm
      refine lv_istore_n (lv' := [(2, .int v11), (0, .ref (ad 0)), (1, .int a1), (3, .int a3)]) hx hb dX12_workBelow_29 rfl hl (by decide) rfl (fun ls hl => ?_)
      obtain ⟨v12, ev12, h⟩ := bv_ex h
      refine lv_iinc (v := v12) (lv' := [(3, .int v12), (2, .int v11), (0, .ref (ad 0)), (1, .int a1)]) hx hb dX12_workBelow_30 hl (k := 3) rfl (by rw [ev12]; rfl) (by decide) rfl (fun ls hl => ?_)
      refine lv_goto (tgt := 6) hx hb dX12_workBelow_33 (by decide) ?_
      exact ih a1 v11 v12 μ9 h p e s m below meth c A ls H locs cx hr hlk hA (lv_sub hl [2, 3, 1, 0] rfl) hw
theorem p_X12_workBelow_ex : ∃ f : Int32 → Mem → Option Mem, ∀ (a1 : Int32) (μ : Mem), f a1 μ = bv (a1 + (1 : Int32)) (fun v1 => p_X12_workBelow_b6  FUEL a1 v1 (0 : Int32) μ) := ⟨fun (a1 : Int32) (μ : Mem) => bv (a1 + (1 : Int32)) (fun v1 => p_X12_workBelow_b6  FUEL a1 v1 (0 : Int32) μ), fun _ _ => rfl⟩
noncomputable def p_X12_workBelow : Int32 → Mem → Option Mem := Classical.choose p_X12_workBelow_ex
theorem p_X12_workBelow_eq (a1 : Int32) (μ : Mem) : p_X12_workBelow a1 μ = bv (a1 + (1 : Int32)) (fun v1 => p_X12_workBelow_b6  FUEL a1 v1 (0 : Int32) μ) := Classical.choose_spec p_X12_workBelow_ex a1 μ
set_option maxHeartbeats 4000000 in
set_option maxRecDepth 100000 in
theorem t_X12_workBelow (l : Launch) (G : Gt) (ad : Nat → Nat) (a1 : Int32) (μ : Mem) {μz : Mem} (h : p_X12_workBelow a1 μ = some μz) : Mt l yX12_workBelow cX12_workBelow 5 none ({ frames := 1, cells := 0, slots := 0, locals := 23 } : Room) G [.ref (ad 0), .int a1] (wd 1 G ad μ) (eV 1 G ad μz) := by
  refine Bk.mt (by decide) rfl (Nat.le_of_ble_eq_true rfl) ?_
  intro p e s m below meth c A ls H locs cx hr hlk hA hl hw
  have hx := cx.1
  have hb := cx.2.1
  have hl : lv_has ls 5 [(0, .ref (ad 0)), (1, .int a1)] := hl
  rw [p_X12_workBelow_eq] at h
  refine lv_iload_n hx hb dX12_workBelow_0 rfl (lv_at hl 1 rfl) ?_
  refine lv_iconst (v := 1) hx hb dX12_workBelow_1 (by decide) ?_
  refine lv_iadd hx hb dX12_workBelow_2 ?_
  obtain ⟨v1, ev1, h⟩ := bv_ex h
  refine lv_topi (fun y9 z9 => ?_)
  obtain rfl : v1 = y9 := ev1.trans z9.symm
  refine lv_istore_n (lv' := [(2, .int v1), (0, .ref (ad 0)), (1, .int a1)]) hx hb dX12_workBelow_3 rfl hl (by decide) rfl (fun ls hl => ?_)
  refine lv_iconst (v := 0) hx hb dX12_workBelow_4 (by decide) ?_
  refine lv_istore_n (lv' := [(3, .int 0), (2, .int v1), (0, .ref (ad 0)), (1, .int a1)]) hx hb dX12_workBelow_5 rfl hl (by decide) rfl (fun ls hl => ?_)
  exact t_X12_workBelow_b6 l G ad _  FUEL a1 v1 (0 : Int32) μ h p e s m below meth c A ls H locs cx hr hlk hA (lv_sub hl [2, 3, 1, 0] rfl) hw

theorem p_X12_work_b16_ex : ∃ f : Int32 → Int32 → Mem → Option Mem, ∀ (a1 : Int32) (a2 : Int32) (μ : Mem), f a1 a2 μ = gd (inb a1 800) (bd (p_X12_node a2 (μ.1 8 a1.toNatClampNeg) μ) (fun r4 μ3 => bw (p_X12_come r4 μ3) (fun μ5 => some μ5))) := ⟨fun (a1 : Int32) (a2 : Int32) (μ : Mem) => gd (inb a1 800) (bd (p_X12_node a2 (μ.1 8 a1.toNatClampNeg) μ) (fun r4 μ3 => bw (p_X12_come r4 μ3) (fun μ5 => some μ5))), fun _ _ _ => rfl⟩
noncomputable def p_X12_work_b16 : Int32 → Int32 → Mem → Option Mem := Classical.choose p_X12_work_b16_ex
theorem p_X12_work_b16_eq (a1 : Int32) (a2 : Int32) (μ : Mem) : p_X12_work_b16 a1 a2 μ = gd (inb a1 800) (bd (p_X12_node a2 (μ.1 8 a1.toNatClampNeg) μ) (fun r4 μ3 => bw (p_X12_come r4 μ3) (fun μ5 => some μ5))) := Classical.choose_spec p_X12_work_b16_ex a1 a2 μ
set_option maxHeartbeats 4000000 in
set_option maxRecDepth 100000 in
theorem t_X12_work_b16 (l : Launch) (G : Gt) (ad : Nat → Nat) (av : List Value) {μz : Mem} (a1 : Int32) (a2 : Int32) (μ : Mem) (h : p_X12_work_b16  a1 a2 μ = some μz) : Bk l cX12_work 3 RX12 none ({ frames := 2, cells := 0, slots := 0, locals := 47 } : Room) G av (eV 1 G ad μz) (wd 1 G ad μ) 16 [(0, .ref (ad 0)), (1, .int a1), (2, .int a2)] [] := by
  intro p e s m below meth c A ls H locs cx hr hlk hA hl hw
  have hx := cx.1
  have hb := cx.2.1
  rw [p_X12_work_b16_eq] at h
  refine lv_aload_n hx hb dX12_work_16 rfl (lv_at hl 0 rfl) ?_
  refine lv_aload_n hx hb dX12_work_17 rfl (lv_at hl 0 rfl) ?_
  refine lv_iload_n hx hb dX12_work_18 rfl (lv_at hl 2 rfl) ?_
  refine lv_aload_n hx hb dX12_work_19 rfl (lv_at hl 0 rfl) ?_
  refine g_get cx hw inX12 (ci := 11) rfl 14 (by decide) rfl (v := .ref (ad 8)) shm_0 rfl fl_X12_36 dX12_work_20 ?_
  refine lv_iload_n hx hb dX12_work_23 rfl (lv_at hl 1 rfl) ?_
  refine g_iald cx hw shm_8 h dX12_work_24 (fun h => ?_)
  obtain ⟨r4, μ3, gr4, h⟩ := bd_some h
  refine g_callVI (As := [.int a2, .int (μ.1 8 a1.toNatClampNeg)]) (rest := [.ref (ad 0)]) cx hw hA (t_X12_node l G ad a2 (μ.1 8 a1.toNatClampNeg) μ gr4) shm_0 rfl ml_X12_527 im_X12_node se_X12_node in_X12 co_X12_node rfl hd_X12_node rfl ⟨(Nat.le_of_ble_eq_true rfl), (Nat.le_of_ble_eq_true rfl)⟩ hl.1 rfl (Nat.le_of_ble_eq_true rfl) dX12_work_25 ⟨rfl, rfl⟩ (fun H locs hw => ?_)
  obtain ⟨μ5, gμ5, h⟩ := bw_some h
  refine g_callVV (As := [.int r4]) (rest := []) cx hw hA (t_X12_come l G ad r4 μ3 gμ5) shm_0 rfl ml_X12_585 im_X12_come se_X12_come in_X12 co_X12_come rfl hd_X12_come rfl ⟨(Nat.le_of_ble_eq_true rfl), (Nat.le_of_ble_eq_true rfl)⟩ hl.1 rfl (Nat.le_of_ble_eq_true rfl) dX12_work_28 ⟨rfl, rfl⟩ (fun H locs hw => ?_)
  refine lv_goto (tgt := 115) hx hb dX12_work_31 (by decide) ?_
  exact g_vret cx hr hlk hw h dX12_work_115
theorem p_X12_work_b86_ex : ∃ f : Int32 → Int32 → Mem → Option Mem, ∀ (a1 : Int32) (k0 : Int32) (μ : Mem), f a1 k0 μ = bw (p_X12_push k0 a1 (0 : Int32) μ) (fun μ11 => bw (p_X12_push (0 : Int32) (a1 + (1 : Int32)) (0 : Int32) μ11) (fun μ13 => some μ13)) := ⟨fun (a1 : Int32) (k0 : Int32) (μ : Mem) => bw (p_X12_push k0 a1 (0 : Int32) μ) (fun μ11 => bw (p_X12_push (0 : Int32) (a1 + (1 : Int32)) (0 : Int32) μ11) (fun μ13 => some μ13)), fun _ _ _ => rfl⟩
noncomputable def p_X12_work_b86 : Int32 → Int32 → Mem → Option Mem := Classical.choose p_X12_work_b86_ex
theorem p_X12_work_b86_eq (a1 : Int32) (k0 : Int32) (μ : Mem) : p_X12_work_b86 a1 k0 μ = bw (p_X12_push k0 a1 (0 : Int32) μ) (fun μ11 => bw (p_X12_push (0 : Int32) (a1 + (1 : Int32)) (0 : Int32) μ11) (fun μ13 => some μ13)) := Classical.choose_spec p_X12_work_b86_ex a1 k0 μ
set_option maxHeartbeats 4000000 in
set_option maxRecDepth 100000 in
theorem t_X12_work_b86 (l : Launch) (G : Gt) (ad : Nat → Nat) (av : List Value) {μz : Mem} (a1 : Int32) (k0 : Int32) (μ : Mem) (h : p_X12_work_b86  a1 k0 μ = some μz) : Bk l cX12_work 3 RX12 none ({ frames := 2, cells := 0, slots := 0, locals := 47 } : Room) G av (eV 1 G ad μz) (wd 1 G ad μ) 86 [(0, .ref (ad 0)), (1, .int a1)] [.int k0, .ref (ad 0)] := by
  intro p e s m below meth c A ls H locs cx hr hlk hA hl hw
  have hx := cx.1
  have hb := cx.2.1
  rw [p_X12_work_b86_eq] at h
  refine lv_iload_n hx hb dX12_work_86 rfl (lv_at hl 1 rfl) ?_
  refine lv_iconst (v := 0) hx hb dX12_work_87 (by decide) ?_
  obtain ⟨μ11, gμ11, h⟩ := bw_some h
  refine g_callVV (As := [.int k0, .int a1, .int 0]) (rest := []) cx hw hA (t_X12_push l G ad k0 a1 (0 : Int32) μ gμ11) shm_0 rfl ml_X12_588 im_X12_push se_X12_push in_X12 co_X12_push rfl hd_X12_push rfl ⟨(Nat.le_of_ble_eq_true rfl), (Nat.le_of_ble_eq_true rfl)⟩ hl.1 rfl (Nat.le_of_ble_eq_true rfl) dX12_work_88 ⟨rfl, rfl⟩ (fun H locs hw => ?_)
  refine lv_aload_n hx hb dX12_work_91 rfl (lv_at hl 0 rfl) ?_
  refine lv_iconst (v := 0) hx hb dX12_work_92 (by decide) ?_
  refine lv_iload_n hx hb dX12_work_93 rfl (lv_at hl 1 rfl) ?_
  refine lv_iconst (v := 1) hx hb dX12_work_94 (by decide) ?_
  refine lv_iadd hx hb dX12_work_95 ?_
  refine lv_iconst (v := 0) hx hb dX12_work_96 (by decide) ?_
  obtain ⟨μ13, gμ13, h⟩ := bw_some h
  refine g_callVV (As := [.int 0, .int (a1 + (1 : Int32)), .int 0]) (rest := []) cx hw hA (t_X12_push l G ad (0 : Int32) (a1 + (1 : Int32)) (0 : Int32) μ11 gμ13) shm_0 rfl ml_X12_588 im_X12_push se_X12_push in_X12 co_X12_push rfl hd_X12_push rfl ⟨(Nat.le_of_ble_eq_true rfl), (Nat.le_of_ble_eq_true rfl)⟩ hl.1 rfl (Nat.le_of_ble_eq_true rfl) dX12_work_97 ⟨rfl, rfl⟩ (fun H locs hw => ?_)
  refine lv_goto (tgt := 115) hx hb dX12_work_100 (by decide) ?_
  exact g_vret cx hr hlk hw h dX12_work_115
theorem p_X12_work_b74_ex : ∃ f : Int32 → Int32 → Mem → Option Mem, ∀ (a1 : Int32) (a2 : Int32) (μ : Mem), f a1 a2 μ = (if a2 = (7 : Int32) then p_X12_work_b86  a1 (2 : Int32) μ else p_X12_work_b86  a1 (3 : Int32) μ) := ⟨fun (a1 : Int32) (a2 : Int32) (μ : Mem) => (if a2 = (7 : Int32) then p_X12_work_b86  a1 (2 : Int32) μ else p_X12_work_b86  a1 (3 : Int32) μ), fun _ _ _ => rfl⟩
noncomputable def p_X12_work_b74 : Int32 → Int32 → Mem → Option Mem := Classical.choose p_X12_work_b74_ex
theorem p_X12_work_b74_eq (a1 : Int32) (a2 : Int32) (μ : Mem) : p_X12_work_b74 a1 a2 μ = (if a2 = (7 : Int32) then p_X12_work_b86  a1 (2 : Int32) μ else p_X12_work_b86  a1 (3 : Int32) μ) := Classical.choose_spec p_X12_work_b74_ex a1 a2 μ
set_option maxHeartbeats 4000000 in
set_option maxRecDepth 100000 in
theorem t_X12_work_b74 (l : Launch) (G : Gt) (ad : Nat → Nat) (av : List Value) {μz : Mem} (a1 : Int32) (a2 : Int32) (μ : Mem) (h : p_X12_work_b74  a1 a2 μ = some μz) : Bk l cX12_work 3 RX12 none ({ frames := 2, cells := 0, slots := 0, locals := 47 } : Room) G av (eV 1 G ad μz) (wd 1 G ad μ) 74 [(0, .ref (ad 0)), (1, .int a1), (2, .int a2)] [] := by
  intro p e s m below meth c A ls H locs cx hr hlk hA hl hw
  have hx := cx.1
  have hb := cx.2.1
  rw [p_X12_work_b74_eq] at h
  refine lv_aload_n hx hb dX12_work_74 rfl (lv_at hl 0 rfl) ?_
  refine lv_iload_n hx hb dX12_work_75 rfl (lv_at hl 2 rfl) ?_
  refine lv_bipush (v := 7) hx hb dX12_work_76 (by decide) ?_
  refine lv_icmp_ne (tgt := 85) hx hb dX12_work_78 (by decide) (fun c10 => ?_) (fun c10 => ?_)
  · rw [if_neg c10] at h
    refine lv_iconst (v := 3) hx hb dX12_work_85 (by decide) ?_
    exact t_X12_work_b86 l G ad av  a1 (3 : Int32) μ h p e s m below meth c A ls H locs cx hr hlk hA (lv_sub hl [0, 1] rfl) hw
  · rw [if_pos c10] at h
    refine lv_iconst (v := 2) hx hb dX12_work_81 (by decide) ?_
    refine lv_goto (tgt := 86) hx hb dX12_work_82 (by decide) ?_
    exact t_X12_work_b86 l G ad av  a1 (2 : Int32) μ h p e s m below meth c A ls H locs cx hr hlk hA (lv_sub hl [0, 1] rfl) hw
theorem p_X12_work_ex : ∃ f : Int32 → Mem → Option Mem, ∀ (a1 : Int32) (μ : Mem), f a1 μ = gd (inb a1 800) (bv (μ.1 7 a1.toNatClampNeg) (fun v1 => (if v1 = (0 : Int32) then p_X12_work_b16  a1 v1 μ else (if v1 = (1 : Int32) then p_X12_work_b16  a1 v1 μ else (if v1 = (4 : Int32) then gd (inb a1 800) (gd (inb ((μ.1 0 67) + (μ.1 8 a1.toNatClampNeg)) 500) (bw (p_X12_come (μ.1 41 ((μ.1 0 67) + (μ.1 8 a1.toNatClampNeg)).toNatClampNeg) μ) (fun μ20 => some μ20))) else (if v1 = (7 : Int32) then p_X12_work_b74  a1 v1 μ else (if v1 = (11 : Int32) then p_X12_work_b74  a1 v1 μ else bw (p_X12_push (1 : Int32) a1 (0 : Int32) μ) (fun μ16 => bw (p_X12_workBelow a1 μ16) (fun μ18 => some μ18))))))))) := ⟨fun (a1 : Int32) (μ : Mem) => gd (inb a1 800) (bv (μ.1 7 a1.toNatClampNeg) (fun v1 => (if v1 = (0 : Int32) then p_X12_work_b16  a1 v1 μ else (if v1 = (1 : Int32) then p_X12_work_b16  a1 v1 μ else (if v1 = (4 : Int32) then gd (inb a1 800) (gd (inb ((μ.1 0 67) + (μ.1 8 a1.toNatClampNeg)) 500) (bw (p_X12_come (μ.1 41 ((μ.1 0 67) + (μ.1 8 a1.toNatClampNeg)).toNatClampNeg) μ) (fun μ20 => some μ20))) else (if v1 = (7 : Int32) then p_X12_work_b74  a1 v1 μ else (if v1 = (11 : Int32) then p_X12_work_b74  a1 v1 μ else bw (p_X12_push (1 : Int32) a1 (0 : Int32) μ) (fun μ16 => bw (p_X12_workBelow a1 μ16) (fun μ18 => some μ18))))))))), fun _ _ => rfl⟩
noncomputable def p_X12_work : Int32 → Mem → Option Mem := Classical.choose p_X12_work_ex
theorem p_X12_work_eq (a1 : Int32) (μ : Mem) : p_X12_work a1 μ = gd (inb a1 800) (bv (μ.1 7 a1.toNatClampNeg) (fun v1 => (if v1 = (0 : Int32) then p_X12_work_b16  a1 v1 μ else (if v1 = (1 : Int32) then p_X12_work_b16  a1 v1 μ else (if v1 = (4 : Int32) then gd (inb a1 800) (gd (inb ((μ.1 0 67) + (μ.1 8 a1.toNatClampNeg)) 500) (bw (p_X12_come (μ.1 41 ((μ.1 0 67) + (μ.1 8 a1.toNatClampNeg)).toNatClampNeg) μ) (fun μ20 => some μ20))) else (if v1 = (7 : Int32) then p_X12_work_b74  a1 v1 μ else (if v1 = (11 : Int32) then p_X12_work_b74  a1 v1 μ else bw (p_X12_push (1 : Int32) a1 (0 : Int32) μ) (fun μ16 => bw (p_X12_workBelow a1 μ16) (fun μ18 => some μ18))))))))) := Classical.choose_spec p_X12_work_ex a1 μ
set_option maxHeartbeats 4000000 in
set_option maxRecDepth 100000 in
theorem t_X12_work (l : Launch) (G : Gt) (ad : Nat → Nat) (a1 : Int32) (μ : Mem) {μz : Mem} (h : p_X12_work a1 μ = some μz) : Mt l yX12_work cX12_work 3 none ({ frames := 2, cells := 0, slots := 0, locals := 47 } : Room) G [.ref (ad 0), .int a1] (wd 1 G ad μ) (eV 1 G ad μz) := by
  refine Bk.mt (by decide) rfl (Nat.le_of_ble_eq_true rfl) ?_
  intro p e s m below meth c A ls H locs cx hr hlk hA hl hw
  have hx := cx.1
  have hb := cx.2.1
  have hl : lv_has ls 3 [(0, .ref (ad 0)), (1, .int a1)] := hl
  rw [p_X12_work_eq] at h
  refine lv_aload_n hx hb dX12_work_0 rfl (lv_at hl 0 rfl) ?_
  refine g_get cx hw inX12 (ci := 11) rfl 13 (by decide) rfl (v := .ref (ad 7)) shm_0 rfl fl_X12_33 dX12_work_1 ?_
  refine lv_iload_n hx hb dX12_work_4 rfl (lv_at hl 1 rfl) ?_
  refine g_iald cx hw shm_7 h dX12_work_5 (fun h => ?_)
  obtain ⟨v1, ev1, h⟩ := bv_ex h
  refine lv_topi (fun y9 z9 => ?_)
  obtain rfl : v1 = y9 := ev1.trans z9.symm
  refine lv_istore_n (lv' := [(2, .int v1), (0, .ref (ad 0)), (1, .int a1)]) hx hb dX12_work_6 rfl hl (by decide) rfl (fun ls hl => ?_)
  refine lv_iload_n hx hb dX12_work_7 rfl (lv_at hl 0 rfl) ?_
  refine lv_if_eq (tgt := 16) hx hb dX12_work_8 (by decide) (fun c2 => ?_) (fun c2 => ?_)
  · rw [if_pos c2] at h
    exact t_X12_work_b16 l G ad _  a1 v1 μ h p e s m below meth c A ls H locs cx hr hlk hA (lv_sub hl [1, 2, 0] rfl) hw
  · rw [if_neg c2] at h
    refine lv_iload_n hx hb dX12_work_11 rfl (lv_at hl 0 rfl) ?_
    refine lv_iconst (v := 1) hx hb dX12_work_12 (by decide) ?_
    refine lv_icmp_ne (tgt := 34) hx hb dX12_work_13 (by decide) (fun c7 => ?_) (fun c7 => ?_)
    · rw [if_neg c7] at h
      refine lv_iload_n hx hb dX12_work_34 rfl (lv_at hl 0 rfl) ?_
      refine lv_iconst (v := 4) hx hb dX12_work_35 (by decide) ?_
      refine lv_icmp_ne (tgt := 62) hx hb dX12_work_36 (by decide) (fun c8 => ?_) (fun c8 => ?_)
      · rw [if_neg c8] at h
        refine lv_iload_n hx hb dX12_work_62 rfl (lv_at hl 0 rfl) ?_
        refine lv_bipush (v := 7) hx hb dX12_work_63 (by decide) ?_
        refine lv_icmp_eq (tgt := 74) hx hb dX12_work_65 (by decide) (fun c9 => ?_) (fun c9 => ?_)
        · rw [if_pos c9] at h
          exact t_X12_work_b74 l G ad _  a1 v1 μ h p e s m below meth c A ls H locs cx hr hlk hA (lv_sub hl [1, 2, 0] rfl) hw
        · rw [if_neg c9] at h
          refine lv_iload_n hx hb dX12_work_68 rfl (lv_at hl 0 rfl) ?_
          refine lv_bipush (v := 11) hx hb dX12_work_69 (by decide) ?_
          refine lv_icmp_ne (tgt := 103) hx hb dX12_work_71 (by decide) (fun c15 => ?_) (fun c15 => ?_)
          · rw [if_neg c15] at h
            refine lv_aload_n hx hb dX12_work_103 rfl (lv_at hl 1 rfl) ?_
            refine lv_iconst (v := 1) hx hb dX12_work_104 (by decide) ?_
            refine lv_iload_n hx hb dX12_work_105 rfl (lv_at hl 2 rfl) ?_
            refine lv_iconst (v := 0) hx hb dX12_work_106 (by decide) ?_
            obtain ⟨μ16, gμ16, h⟩ := bw_some h
            refine g_callVV (As := [.int 1, .int a1, .int 0]) (rest := []) cx hw hA (t_X12_push l G ad (1 : Int32) a1 (0 : Int32) μ gμ16) shm_0 rfl ml_X12_588 im_X12_push se_X12_push in_X12 co_X12_push rfl hd_X12_push rfl ⟨(Nat.le_of_ble_eq_true rfl), (Nat.le_of_ble_eq_true rfl)⟩ hl.1 rfl (Nat.le_of_ble_eq_true rfl) dX12_work_107 ⟨rfl, rfl⟩ (fun H locs hw => ?_)
            refine lv_aload_n hx hb dX12_work_110 rfl (lv_at hl 1 rfl) ?_
            refine lv_iload_n hx hb dX12_work_111 rfl (lv_at hl 2 rfl) ?_
            obtain ⟨μ18, gμ18, h⟩ := bw_some h
            refine g_callVV (As := [.int a1]) (rest := []) cx hw hA (t_X12_workBelow l G ad a1 μ16 gμ18) shm_0 rfl ml_X12_591 im_X12_workBelow se_X12_workBelow in_X12 co_X12_workBelow rfl hd_X12_workBelow rfl ⟨(Nat.le_of_ble_eq_true rfl), (Nat.le_of_ble_eq_true rfl)⟩ hl.1 rfl (Nat.le_of_ble_eq_true rfl) dX12_work_112 ⟨rfl, rfl⟩ (fun H locs hw => ?_)
            exact g_vret cx hr hlk hw h dX12_work_115
          · rw [if_pos c15] at h
            exact t_X12_work_b74 l G ad _  a1 v1 μ h p e s m below meth c A ls H locs cx hr hlk hA (lv_sub hl [1, 2, 0] rfl) hw
      · rw [if_pos c8] at h
        refine lv_aload_n hx hb dX12_work_39 rfl (lv_at hl 1 rfl) ?_
        refine lv_aload_n hx hb dX12_work_40 rfl (lv_at hl 1 rfl) ?_
        refine g_get cx hw inX12 (ci := 11) rfl 64 (by decide) rfl (v := .ref (ad 41)) shm_0 rfl fl_X12_139 dX12_work_41 ?_
        refine lv_aload_n hx hb dX12_work_44 rfl (lv_at hl 1 rfl) ?_
        refine g_get cx hw inX12 (ci := 11) rfl 67 (by decide) rfl (v := .int (μ.1 0 67)) shm_0 rfl fl_X12_554 dX12_work_45 ?_
        refine lv_aload_n hx hb dX12_work_48 rfl (lv_at hl 1 rfl) ?_
        refine g_get cx hw inX12 (ci := 11) rfl 14 (by decide) rfl (v := .ref (ad 8)) shm_0 rfl fl_X12_36 dX12_work_49 ?_
        refine lv_iload_n hx hb dX12_work_52 rfl (lv_at hl 2 rfl) ?_
        refine g_iald cx hw shm_8 h dX12_work_53 (fun h => ?_)
        refine lv_iadd hx hb dX12_work_54 ?_
        refine g_iald cx hw shm_41 h dX12_work_55 (fun h => ?_)
        obtain ⟨μ20, gμ20, h⟩ := bw_some h
        refine g_callVV (As := [.int (μ.1 41 ((μ.1 0 67) + (μ.1 8 a1.toNatClampNeg)).toNatClampNeg)]) (rest := []) cx hw hA (t_X12_come l G ad (μ.1 41 ((μ.1 0 67) + (μ.1 8 a1.toNatClampNeg)).toNatClampNeg) μ gμ20) shm_0 rfl ml_X12_585 im_X12_come se_X12_come in_X12 co_X12_come rfl hd_X12_come rfl ⟨(Nat.le_of_ble_eq_true rfl), (Nat.le_of_ble_eq_true rfl)⟩ hl.1 rfl (Nat.le_of_ble_eq_true rfl) dX12_work_56 ⟨rfl, rfl⟩ (fun H locs hw => ?_)
        refine lv_goto (tgt := 115) hx hb dX12_work_59 (by decide) ?_
        exact g_vret cx hr hlk hw h dX12_work_115
    · rw [if_pos c7] at h
      exact t_X12_work_b16 l G ad _  a1 v1 μ h p e s m below meth c A ls H locs cx hr hlk hA (lv_sub hl [1, 2, 0] rfl) hw

theorem p_X12_item_ex : ∃ f : Int32 → Mem → Option (Int32 × Mem), ∀ (a1 : Int32) (μ : Mem), f a1 μ = gd (inb (μ.1 0 87) 960) (bv (sF μ 46 (μ.1 0 87).toNatClampNeg a1) (fun μ1 => gd (inb (μ1.1 0 87) 960) (bv (sF μ1 47 (μ1.1 0 87).toNatClampNeg (-1 : Int32)) (fun μ2 => gd (inb (μ2.1 0 87) 960) (bv (sF μ2 48 (μ2.1 0 87).toNatClampNeg (0 : Int32)) (fun μ3 => gd (inb (μ3.1 0 87) 960) (bv (sF μ3 51 (μ3.1 0 87).toNatClampNeg (μ3.1 0 88)) (fun μ4 => gd (inb (μ4.1 0 87) 960) (bv (sF μ4 52 (μ4.1 0 87).toNatClampNeg (0 : Int32)) (fun μ5 => bv (sF μ5 0 87 ((μ5.1 0 87) + (1 : Int32))) (fun μ6 => some (((μ6.1 0 87) - (1 : Int32)), μ6)))))))))))) := ⟨fun (a1 : Int32) (μ : Mem) => gd (inb (μ.1 0 87) 960) (bv (sF μ 46 (μ.1 0 87).toNatClampNeg a1) (fun μ1 => gd (inb (μ1.1 0 87) 960) (bv (sF μ1 47 (μ1.1 0 87).toNatClampNeg (-1 : Int32)) (fun μ2 => gd (inb (μ2.1 0 87) 960) (bv (sF μ2 48 (μ2.1 0 87).toNatClampNeg (0 : Int32)) (fun μ3 => gd (inb (μ3.1 0 87) 960) (bv (sF μ3 51 (μ3.1 0 87).toNatClampNeg (μ3.1 0 88)) (fun μ4 => gd (inb (μ4.1 0 87) 960) (bv (sF μ4 52 (μ4.1 0 87).toNatClampNeg (0 : Int32)) (fun μ5 => bv (sF μ5 0 87 ((μ5.1 0 87) + (1 : Int32))) (fun μ6 => some (((μ6.1 0 87) - (1 : Int32)), μ6)))))))))))), fun _ _ => rfl⟩
noncomputable def p_X12_item : Int32 → Mem → Option (Int32 × Mem) := Classical.choose p_X12_item_ex
theorem p_X12_item_eq (a1 : Int32) (μ : Mem) : p_X12_item a1 μ = gd (inb (μ.1 0 87) 960) (bv (sF μ 46 (μ.1 0 87).toNatClampNeg a1) (fun μ1 => gd (inb (μ1.1 0 87) 960) (bv (sF μ1 47 (μ1.1 0 87).toNatClampNeg (-1 : Int32)) (fun μ2 => gd (inb (μ2.1 0 87) 960) (bv (sF μ2 48 (μ2.1 0 87).toNatClampNeg (0 : Int32)) (fun μ3 => gd (inb (μ3.1 0 87) 960) (bv (sF μ3 51 (μ3.1 0 87).toNatClampNeg (μ3.1 0 88)) (fun μ4 => gd (inb (μ4.1 0 87) 960) (bv (sF μ4 52 (μ4.1 0 87).toNatClampNeg (0 : Int32)) (fun μ5 => bv (sF μ5 0 87 ((μ5.1 0 87) + (1 : Int32))) (fun μ6 => some (((μ6.1 0 87) - (1 : Int32)), μ6)))))))))))) := Classical.choose_spec p_X12_item_ex a1 μ
set_option maxHeartbeats 4000000 in
set_option maxRecDepth 100000 in
theorem t_X12_item (l : Launch) (G : Gt) (ad : Nat → Nat) (a1 : Int32) (μ : Mem) {r : Int32} {μz : Mem} (h : p_X12_item a1 μ = some (r, μz)) : Mt l yX12_item cX12_item 2 (some .int) ({ frames := 0, cells := 0, slots := 0, locals := 0 } : Room) G [.ref (ad 0), .int a1] (wd 1 G ad μ) (eI 1 G ad r μz) := by
  refine Bk.mt (by decide) rfl (Nat.le_of_ble_eq_true rfl) ?_
  intro p e s m below meth c A ls H locs cx hr hlk hA hl hw
  have hx := cx.1
  have hb := cx.2.1
  have hl : lv_has ls 2 [(0, .ref (ad 0)), (1, .int a1)] := hl
  rw [p_X12_item_eq] at h
  refine lv_aload_n hx hb dX12_item_0 rfl (lv_at hl 0 rfl) ?_
  refine g_get cx hw inX12 (ci := 11) rfl 78 (by decide) rfl (v := .ref (ad 46)) shm_0 rfl fl_X12_154 dX12_item_1 ?_
  refine lv_aload_n hx hb dX12_item_4 rfl (lv_at hl 0 rfl) ?_
  refine g_get cx hw inX12 (ci := 11) rfl 87 (by decide) rfl (v := .int (μ.1 0 87)) shm_0 rfl fl_X12_682 dX12_item_5 ?_
  refine lv_iload_n hx hb dX12_item_8 rfl (lv_at hl 1 rfl) ?_
  refine g_iast cx hw shm_46 h dX12_item_9 (fun μ1 H locs h hw => ?_)
  refine lv_aload_n hx hb dX12_item_10 rfl (lv_at hl 0 rfl) ?_
  refine g_get cx hw inX12 (ci := 11) rfl 79 (by decide) rfl (v := .ref (ad 47)) shm_0 rfl fl_X12_157 dX12_item_11 ?_
  refine lv_aload_n hx hb dX12_item_14 rfl (lv_at hl 0 rfl) ?_
  refine g_get cx hw inX12 (ci := 11) rfl 87 (by decide) rfl (v := .int (μ1.1 0 87)) shm_0 rfl fl_X12_682 dX12_item_15 ?_
  refine lv_iconst (v := (-1)) hx hb dX12_item_18 (by decide) ?_
  refine g_iast cx hw shm_47 h dX12_item_19 (fun μ2 H locs h hw => ?_)
  refine lv_aload_n hx hb dX12_item_20 rfl (lv_at hl 0 rfl) ?_
  refine g_get cx hw inX12 (ci := 11) rfl 80 (by decide) rfl (v := .ref (ad 48)) shm_0 rfl fl_X12_160 dX12_item_21 ?_
  refine lv_aload_n hx hb dX12_item_24 rfl (lv_at hl 0 rfl) ?_
  refine g_get cx hw inX12 (ci := 11) rfl 87 (by decide) rfl (v := .int (μ2.1 0 87)) shm_0 rfl fl_X12_682 dX12_item_25 ?_
  refine lv_iconst (v := 0) hx hb dX12_item_28 (by decide) ?_
  refine g_iast cx hw shm_48 h dX12_item_29 (fun μ3 H locs h hw => ?_)
  refine lv_aload_n hx hb dX12_item_30 rfl (lv_at hl 0 rfl) ?_
  refine g_get cx hw inX12 (ci := 11) rfl 83 (by decide) rfl (v := .ref (ad 51)) shm_0 rfl fl_X12_169 dX12_item_31 ?_
  refine lv_aload_n hx hb dX12_item_34 rfl (lv_at hl 0 rfl) ?_
  refine g_get cx hw inX12 (ci := 11) rfl 87 (by decide) rfl (v := .int (μ3.1 0 87)) shm_0 rfl fl_X12_682 dX12_item_35 ?_
  refine lv_aload_n hx hb dX12_item_38 rfl (lv_at hl 0 rfl) ?_
  refine g_get cx hw inX12 (ci := 11) rfl 88 (by decide) rfl (v := .int (μ3.1 0 88)) shm_0 rfl fl_X12_685 dX12_item_39 ?_
  refine g_iast cx hw shm_51 h dX12_item_42 (fun μ4 H locs h hw => ?_)
  refine lv_aload_n hx hb dX12_item_43 rfl (lv_at hl 0 rfl) ?_
  refine g_get cx hw inX12 (ci := 11) rfl 84 (by decide) rfl (v := .ref (ad 52)) shm_0 rfl fl_X12_172 dX12_item_44 ?_
  refine lv_aload_n hx hb dX12_item_47 rfl (lv_at hl 0 rfl) ?_
  refine g_get cx hw inX12 (ci := 11) rfl 87 (by decide) rfl (v := .int (μ4.1 0 87)) shm_0 rfl fl_X12_682 dX12_item_48 ?_
  refine lv_iconst (v := 0) hx hb dX12_item_51 (by decide) ?_
  refine g_iast cx hw shm_52 h dX12_item_52 (fun μ5 H locs h hw => ?_)
  refine lv_aload_n hx hb dX12_item_53 rfl (lv_at hl 0 rfl) ?_
  refine lv_dup hx hb dX12_item_54 rfl ?_
  refine g_get cx hw inX12 (ci := 11) rfl 87 (by decide) rfl (v := .int (μ5.1 0 87)) shm_0 rfl fl_X12_682 dX12_item_55 ?_
  refine lv_iconst (v := 1) hx hb dX12_item_58 (by decide) ?_
  refine lv_iadd hx hb dX12_item_59 ?_
  refine g_put cx hw inX12 (ci := 11) rfl tyX12_ok nmX12 87 (by decide) rfl rfl rfl rfl shm_0 h fl_X12_682 dX12_item_60 (fun μ6 H locs h hw => ?_)
  refine lv_aload_n hx hb dX12_item_63 rfl (lv_at hl 0 rfl) ?_
  refine g_get cx hw inX12 (ci := 11) rfl 87 (by decide) rfl (v := .int (μ6.1 0 87)) shm_0 rfl fl_X12_682 dX12_item_64 ?_
  refine lv_iconst (v := 1) hx hb dX12_item_67 (by decide) ?_
  refine lv_isub hx hb dX12_item_68 ?_
  exact g_iret cx hr hlk hw h dX12_item_69

theorem p_X12_countInstruction_ex : ∃ f : Int32 → Int32 → Mem → Option Mem, ∀ (a1 : Int32) (a2 : Int32) (μ : Mem), f a1 a2 μ = (if (μ.1 0 89) = (300 : Int32) then bv (sF μ 0 68 (-2 : Int32)) (fun μ6 => some μ6) else bv (sF μ 0 89 ((μ.1 0 89) + (1 : Int32))) (fun μ2 => (if a2 = (0 : Int32) then some μ2 else gd (inb a1 960) (bv (sF μ2 47 a1.toNatClampNeg (μ2.1 0 93)) (fun μ4 => bv (sF μ4 0 93 ((μ4.1 0 93) + (1 : Int32))) (fun μ5 => some μ5)))))) := ⟨fun (a1 : Int32) (a2 : Int32) (μ : Mem) => (if (μ.1 0 89) = (300 : Int32) then bv (sF μ 0 68 (-2 : Int32)) (fun μ6 => some μ6) else bv (sF μ 0 89 ((μ.1 0 89) + (1 : Int32))) (fun μ2 => (if a2 = (0 : Int32) then some μ2 else gd (inb a1 960) (bv (sF μ2 47 a1.toNatClampNeg (μ2.1 0 93)) (fun μ4 => bv (sF μ4 0 93 ((μ4.1 0 93) + (1 : Int32))) (fun μ5 => some μ5)))))), fun _ _ _ => rfl⟩
noncomputable def p_X12_countInstruction : Int32 → Int32 → Mem → Option Mem := Classical.choose p_X12_countInstruction_ex
theorem p_X12_countInstruction_eq (a1 : Int32) (a2 : Int32) (μ : Mem) : p_X12_countInstruction a1 a2 μ = (if (μ.1 0 89) = (300 : Int32) then bv (sF μ 0 68 (-2 : Int32)) (fun μ6 => some μ6) else bv (sF μ 0 89 ((μ.1 0 89) + (1 : Int32))) (fun μ2 => (if a2 = (0 : Int32) then some μ2 else gd (inb a1 960) (bv (sF μ2 47 a1.toNatClampNeg (μ2.1 0 93)) (fun μ4 => bv (sF μ4 0 93 ((μ4.1 0 93) + (1 : Int32))) (fun μ5 => some μ5)))))) := Classical.choose_spec p_X12_countInstruction_ex a1 a2 μ
set_option maxHeartbeats 4000000 in
set_option maxRecDepth 100000 in
theorem t_X12_countInstruction (l : Launch) (G : Gt) (ad : Nat → Nat) (a1 : Int32) (a2 : Int32) (μ : Mem) {μz : Mem} (h : p_X12_countInstruction a1 a2 μ = some μz) : Mt l yX12_countInstruction cX12_countInstruction 3 none ({ frames := 0, cells := 0, slots := 0, locals := 0 } : Room) G [.ref (ad 0), .int a1, .int a2] (wd 1 G ad μ) (eV 1 G ad μz) := by
  refine Bk.mt (by decide) rfl (Nat.le_of_ble_eq_true rfl) ?_
  intro p e s m below meth c A ls H locs cx hr hlk hA hl hw
  have hx := cx.1
  have hb := cx.2.1
  have hl : lv_has ls 3 [(0, .ref (ad 0)), (1, .int a1), (2, .int a2)] := hl
  rw [p_X12_countInstruction_eq] at h
  refine lv_aload_n hx hb dX12_countInstruction_0 rfl (lv_at hl 0 rfl) ?_
  refine g_get cx hw inX12 (ci := 11) rfl 89 (by decide) rfl (v := .int (μ.1 0 89)) shm_0 rfl fl_X12_688 dX12_countInstruction_1 ?_
  refine lv_sipush (v := 300) hx hb dX12_countInstruction_4 (by decide) ?_
  refine lv_icmp_ne (tgt := 17) hx hb dX12_countInstruction_7 (by decide) (fun c1 => ?_) (fun c1 => ?_)
  · rw [if_neg c1] at h
    refine lv_aload_n hx hb dX12_countInstruction_17 rfl (lv_at hl 0 rfl) ?_
    refine lv_dup hx hb dX12_countInstruction_18 rfl ?_
    refine g_get cx hw inX12 (ci := 11) rfl 89 (by decide) rfl (v := .int (μ.1 0 89)) shm_0 rfl fl_X12_688 dX12_countInstruction_19 ?_
    refine lv_iconst (v := 1) hx hb dX12_countInstruction_22 (by decide) ?_
    refine lv_iadd hx hb dX12_countInstruction_23 ?_
    refine g_put cx hw inX12 (ci := 11) rfl tyX12_ok nmX12 89 (by decide) rfl rfl rfl rfl shm_0 h fl_X12_688 dX12_countInstruction_24 (fun μ2 H locs h hw => ?_)
    refine lv_iload_n hx hb dX12_countInstruction_27 rfl (lv_at hl 2 rfl) ?_
    refine lv_if_ne (tgt := 32) hx hb dX12_countInstruction_28 (by decide) (fun c3 => ?_) (fun c3 => ?_)
    · rw [if_neg c3] at h
      refine lv_aload_n hx hb dX12_countInstruction_32 rfl (lv_at hl 0 rfl) ?_
      refine g_get cx hw inX12 (ci := 11) rfl 79 (by decide) rfl (v := .ref (ad 47)) shm_0 rfl fl_X12_157 dX12_countInstruction_33 ?_
      refine lv_iload_n hx hb dX12_countInstruction_36 rfl (lv_at hl 1 rfl) ?_
      refine lv_aload_n hx hb dX12_countInstruction_37 rfl (lv_at hl 0 rfl) ?_
      refine g_get cx hw inX12 (ci := 11) rfl 93 (by decide) rfl (v := .int (μ2.1 0 93)) shm_0 rfl fl_X12_691 dX12_countInstruction_38 ?_
      refine g_iast cx hw shm_47 h dX12_countInstruction_41 (fun μ4 H locs h hw => ?_)
      refine lv_aload_n hx hb dX12_countInstruction_42 rfl (lv_at hl 0 rfl) ?_
      refine lv_dup hx hb dX12_countInstruction_43 rfl ?_
      refine g_get cx hw inX12 (ci := 11) rfl 93 (by decide) rfl (v := .int (μ4.1 0 93)) shm_0 rfl fl_X12_691 dX12_countInstruction_44 ?_
      refine lv_iconst (v := 1) hx hb dX12_countInstruction_47 (by decide) ?_
      refine lv_iadd hx hb dX12_countInstruction_48 ?_
      refine g_put cx hw inX12 (ci := 11) rfl tyX12_ok nmX12 93 (by decide) rfl rfl rfl rfl shm_0 h fl_X12_691 dX12_countInstruction_49 (fun μ5 H locs h hw => ?_)
      exact g_vret cx hr hlk hw h dX12_countInstruction_52
    · rw [if_pos c3] at h
      exact g_vret cx hr hlk hw h dX12_countInstruction_31
  · rw [if_pos c1] at h
    refine lv_aload_n hx hb dX12_countInstruction_10 rfl (lv_at hl 0 rfl) ?_
    refine lv_bipush (v := (-2)) hx hb dX12_countInstruction_11 (by decide) ?_
    refine g_put cx hw inX12 (ci := 11) rfl tyX12_ok nmX12 68 (by decide) rfl rfl rfl rfl shm_0 h fl_X12_557 dX12_countInstruction_13 (fun μ6 H locs h hw => ?_)
    exact g_vret cx hr hlk hw h dX12_countInstruction_16
